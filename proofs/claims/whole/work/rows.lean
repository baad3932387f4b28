section
-- ===== PART A: goes FIRST, ahead of the names: the tables' words, and 'selects' of the private methods out of them =====
/-- a private method of a class that the tables say can be made, by its rows of tables_1 -/
def lw_okq (q : MethodName × Nat) : Prop := (q.1.cls ≠ "java/lang/invoke/MethodHandle" ∧ q.1.cls ≠ "java/lang/invoke/VarHandle") ∧ Cond.instantiable q.1.cls q.2 ∈ tables_1 ∧ Cond.privateMethod q.1 ∈ tables_1 ∧ Cond.instanceMethod q.1 ∈ tables_1
theorem lw_p0 : lw_okq (⟨"GraphSearch", "isNode", "(I)Z"⟩, 11) := ⟨⟨by decide +kernel, by decide +kernel⟩, List.mem_of_getElem? (i := 10) (by decide +kernel), List.mem_of_getElem? (i := 60) (by decide +kernel), List.mem_of_getElem? (i := 61) (by decide +kernel)⟩
theorem lw_p1 : lw_okq (⟨"GraphSearch", "forgetTable", "()V"⟩, 11) := ⟨⟨by decide +kernel, by decide +kernel⟩, List.mem_of_getElem? (i := 10) (by decide +kernel), List.mem_of_getElem? (i := 64) (by decide +kernel), List.mem_of_getElem? (i := 65) (by decide +kernel)⟩
theorem lw_p2 : lw_okq (⟨"GraphSearch", "targetOrNone", "(II)I"⟩, 11) := ⟨⟨by decide +kernel, by decide +kernel⟩, List.mem_of_getElem? (i := 10) (by decide +kernel), List.mem_of_getElem? (i := 79) (by decide +kernel), List.mem_of_getElem? (i := 80) (by decide +kernel)⟩
theorem lw_p3 : lw_okq (⟨"java/lang/Throwable", "fillInStackTrace", "(I)Ljava/lang/Throwable;"⟩, 6) := ⟨⟨by decide +kernel, by decide +kernel⟩, List.mem_of_getElem? (i := 139) (by decide +kernel), List.mem_of_getElem? (i := 137) (by decide +kernel), List.mem_of_getElem? (i := 138) (by decide +kernel)⟩
theorem lw_p4 : lw_okq (⟨"GraphSearch", "refuseWrongQuestion", "(II)V"⟩, 11) := ⟨⟨by decide +kernel, by decide +kernel⟩, List.mem_of_getElem? (i := 10) (by decide +kernel), List.mem_of_getElem? (i := 201) (by decide +kernel), List.mem_of_getElem? (i := 202) (by decide +kernel)⟩
theorem lw_p5 : lw_okq (⟨"GraphSearch", "deepenTo", "(I)V"⟩, 11) := ⟨⟨by decide +kernel, by decide +kernel⟩, List.mem_of_getElem? (i := 10) (by decide +kernel), List.mem_of_getElem? (i := 206) (by decide +kernel), List.mem_of_getElem? (i := 207) (by decide +kernel)⟩
theorem lw_p6 : lw_okq (⟨"GraphSearch", "findRow", "(I)V"⟩, 11) := ⟨⟨by decide +kernel, by decide +kernel⟩, List.mem_of_getElem? (i := 10) (by decide +kernel), List.mem_of_getElem? (i := 210) (by decide +kernel), List.mem_of_getElem? (i := 211) (by decide +kernel)⟩
theorem lw_p7 : lw_okq (⟨"GraphSearch", "findValue", "(II)I"⟩, 11) := ⟨⟨by decide +kernel, by decide +kernel⟩, List.mem_of_getElem? (i := 10) (by decide +kernel), List.mem_of_getElem? (i := 214) (by decide +kernel), List.mem_of_getElem? (i := 215) (by decide +kernel)⟩
theorem lw_p8 : lw_okq (⟨"GraphSearch", "moveValue", "(III)I"⟩, 11) := ⟨⟨by decide +kernel, by decide +kernel⟩, List.mem_of_getElem? (i := 10) (by decide +kernel), List.mem_of_getElem? (i := 218) (by decide +kernel), List.mem_of_getElem? (i := 219) (by decide +kernel)⟩
theorem lw_p9 : lw_okq (⟨"GraphSearch", "bestMove", "(II)I"⟩, 11) := ⟨⟨by decide +kernel, by decide +kernel⟩, List.mem_of_getElem? (i := 10) (by decide +kernel), List.mem_of_getElem? (i := 235) (by decide +kernel), List.mem_of_getElem? (i := 236) (by decide +kernel)⟩
theorem lw_p10 : lw_okq (⟨"GraphSearch", "forgetMet", "()V"⟩, 11) := ⟨⟨by decide +kernel, by decide +kernel⟩, List.mem_of_getElem? (i := 10) (by decide +kernel), List.mem_of_getElem? (i := 274) (by decide +kernel), List.mem_of_getElem? (i := 275) (by decide +kernel)⟩
theorem lw_p11 : lw_okq (⟨"GraphSearch", "meet", "(I)V"⟩, 11) := ⟨⟨by decide +kernel, by decide +kernel⟩, List.mem_of_getElem? (i := 10) (by decide +kernel), List.mem_of_getElem? (i := 278) (by decide +kernel), List.mem_of_getElem? (i := 279) (by decide +kernel)⟩
theorem lw_p12 : lw_okq (⟨"GraphSearch", "meetTargets", "(I)V"⟩, 11) := ⟨⟨by decide +kernel, by decide +kernel⟩, List.mem_of_getElem? (i := 10) (by decide +kernel), List.mem_of_getElem? (i := 282) (by decide +kernel), List.mem_of_getElem? (i := 283) (by decide +kernel)⟩
theorem lw_p13 : lw_okq (⟨"GraphSearchModel", "isNode", "(I)Z"⟩, 8) := ⟨⟨by decide +kernel, by decide +kernel⟩, List.mem_of_getElem? (i := 286) (by decide +kernel), List.mem_of_getElem? (i := 332) (by decide +kernel), List.mem_of_getElem? (i := 333) (by decide +kernel)⟩
theorem lw_p14 : lw_okq (⟨"GraphSearchModel", "asked", "(II)Z"⟩, 8) := ⟨⟨by decide +kernel, by decide +kernel⟩, List.mem_of_getElem? (i := 286) (by decide +kernel), List.mem_of_getElem? (i := 348) (by decide +kernel), List.mem_of_getElem? (i := 349) (by decide +kernel)⟩
theorem lw_p15 : lw_okq (⟨"GraphSearchModel", "work", "(I)V"⟩, 8) := ⟨⟨by decide +kernel, by decide +kernel⟩, List.mem_of_getElem? (i := 286) (by decide +kernel), List.mem_of_getElem? (i := 352) (by decide +kernel), List.mem_of_getElem? (i := 353) (by decide +kernel)⟩
def lw_privs_1 : List (MethodName × Nat) := [(⟨"GraphSearch", "isNode", "(I)Z"⟩, 11), (⟨"GraphSearch", "forgetTable", "()V"⟩, 11), (⟨"GraphSearch", "targetOrNone", "(II)I"⟩, 11), (⟨"java/lang/Throwable", "fillInStackTrace", "(I)Ljava/lang/Throwable;"⟩, 6), (⟨"GraphSearch", "refuseWrongQuestion", "(II)V"⟩, 11), (⟨"GraphSearch", "deepenTo", "(I)V"⟩, 11), (⟨"GraphSearch", "findRow", "(I)V"⟩, 11), (⟨"GraphSearch", "findValue", "(II)I"⟩, 11), (⟨"GraphSearch", "moveValue", "(III)I"⟩, 11), (⟨"GraphSearch", "bestMove", "(II)I"⟩, 11), (⟨"GraphSearch", "forgetMet", "()V"⟩, 11), (⟨"GraphSearch", "meet", "(I)V"⟩, 11), (⟨"GraphSearch", "meetTargets", "(I)V"⟩, 11), (⟨"GraphSearchModel", "isNode", "(I)Z"⟩, 8), (⟨"GraphSearchModel", "asked", "(II)Z"⟩, 8), (⟨"GraphSearchModel", "work", "(I)V"⟩, 8)]
theorem lw_r1 : ∀ q ∈ lw_privs_1, lw_okq q := List.forall_mem_cons.mpr ⟨lw_p0, List.forall_mem_cons.mpr ⟨lw_p1, List.forall_mem_cons.mpr ⟨lw_p2, List.forall_mem_cons.mpr ⟨lw_p3, List.forall_mem_cons.mpr ⟨lw_p4, List.forall_mem_cons.mpr ⟨lw_p5, List.forall_mem_cons.mpr ⟨lw_p6, List.forall_mem_cons.mpr ⟨lw_p7, List.forall_mem_cons.mpr ⟨lw_p8, List.forall_mem_cons.mpr ⟨lw_p9, List.forall_mem_cons.mpr ⟨lw_p10, List.forall_mem_cons.mpr ⟨lw_p11, List.forall_mem_cons.mpr ⟨lw_p12, List.forall_mem_cons.mpr ⟨lw_p13, List.forall_mem_cons.mpr ⟨lw_p14, List.forall_mem_cons.mpr ⟨lw_p15, fun _ h => absurd h List.not_mem_nil⟩⟩⟩⟩⟩⟩⟩⟩⟩⟩⟩⟩⟩⟩⟩⟩
theorem lw_p16 : lw_okq (⟨"GraphSearchModel", "greatest", "(II)I"⟩, 8) := ⟨⟨by decide +kernel, by decide +kernel⟩, List.mem_of_getElem? (i := 286) (by decide +kernel), List.mem_of_getElem? (i := 356) (by decide +kernel), List.mem_of_getElem? (i := 357) (by decide +kernel)⟩
theorem lw_p17 : lw_okq (⟨"GraphSearchModel", "given", "(III)I"⟩, 8) := ⟨⟨by decide +kernel, by decide +kernel⟩, List.mem_of_getElem? (i := 286) (by decide +kernel), List.mem_of_getElem? (i := 360) (by decide +kernel), List.mem_of_getElem? (i := 361) (by decide +kernel)⟩
theorem lw_p18 : lw_okq (⟨"GraphSearchModel", "valueOf", "(II)I"⟩, 8) := ⟨⟨by decide +kernel, by decide +kernel⟩, List.mem_of_getElem? (i := 286) (by decide +kernel), List.mem_of_getElem? (i := 367) (by decide +kernel), List.mem_of_getElem? (i := 368) (by decide +kernel)⟩
theorem lw_p19 : lw_okq (⟨"GraphSearchModel", "bestOf", "(II)I"⟩, 8) := ⟨⟨by decide +kernel, by decide +kernel⟩, List.mem_of_getElem? (i := 286) (by decide +kernel), List.mem_of_getElem? (i := 375) (by decide +kernel), List.mem_of_getElem? (i := 376) (by decide +kernel)⟩
def lw_privs_2 : List (MethodName × Nat) := [(⟨"GraphSearchModel", "greatest", "(II)I"⟩, 8), (⟨"GraphSearchModel", "given", "(III)I"⟩, 8), (⟨"GraphSearchModel", "valueOf", "(II)I"⟩, 8), (⟨"GraphSearchModel", "bestOf", "(II)I"⟩, 8)]
theorem lw_r2 : ∀ q ∈ lw_privs_2, lw_okq q := List.forall_mem_cons.mpr ⟨lw_p16, List.forall_mem_cons.mpr ⟨lw_p17, List.forall_mem_cons.mpr ⟨lw_p18, List.forall_mem_cons.mpr ⟨lw_p19, fun _ h => absurd h List.not_mem_nil⟩⟩⟩⟩
def lw_privs : List (MethodName × Nat) := lw_privs_1 ++ (lw_privs_2)
def lw_tbl : List Cond := k2_sels lw_privs ++ tables_1
theorem lw_privs_ok : ∀ q ∈ lw_privs, lw_okq q := by
  show ∀ q ∈ lw_privs_1 ++ (lw_privs_2), lw_okq q
  exact List.forall_mem_append.mpr ⟨lw_r1, lw_r2⟩
-- ===== end of PART A; then your names; then what follows =====
def va_AOA (t : FieldType) (U : State) : Prop := (Cond.arrayOver (.array t)).before #[] U = true
theorem va_AOA.of {t : FieldType} {A : Array Value} {U : State} (h : (Cond.arrayOver (.array t)).before A U = true) : va_AOA t U := h
theorem va_AOA.use {t : FieldType} {A : Array Value} {U : State} (h : va_AOA t U) : (Cond.arrayOver (.array t)).before A U = true := h
/-! ===== BEGIN words of one list among another's, by their places ===== -/
theorem goodIn_r {big : List Cond} (ws : List Cond) (ps : List Nat) (hp : ws = ps.filterMap (fun i => big[i]?)) (h : ws.all goodWord = true) : GoodIn big ws := by
  intro w hw
  have h1 := List.all_eq_true.mp h w hw
  rw [hp] at hw
  obtain ⟨i, -, hi⟩ := List.mem_filterMap.mp hw
  have hm : w ∈ big := by first | exact List.mem_of_getElem? hi | exact List.getElem?_mem hi
  exact ⟨hm, good_of_word h1⟩
theorem goodIn_app {big a b : List Cond} (ha : GoodIn big a) (hb : GoodIn big b) : GoodIn big (a ++ b) := fun w h => (List.mem_append.mp h).elim (ha w) (hb w)
theorem goodIn_ca {big a b : List Cond} {c : Cond} (ha : GoodIn big (c :: a)) (hb : GoodIn big b) : GoodIn big (c :: (a ++ b)) := fun w h => (List.mem_cons.mp h).elim (fun e => ha w (List.mem_cons.mpr (Or.inl e))) (fun h => (List.mem_append.mp h).elim (fun h => ha w (List.mem_cons.mpr (Or.inr h))) (hb w))
theorem goodIn_sub {big ws : List Cond} (hm : ∀ w ∈ ws, w ∈ big) (h : ws.all goodWord = true) : GoodIn big ws := fun w hw => ⟨hm w hw, good_of_word (List.all_eq_true.mp h w hw)⟩
/-! ===== END ===== -/


/-! ===== BEGIN exceptions that leave a method, and their catching by the caller (launches without stack traces) ===== -/
section VXA
/-! The laws vx_back, vx_callV, vx_callS, vx_callSW, vx_throw0, vx_throwS follow proofs of the library, with one case more: JvmDerived/Free/Laws.lean (Back.of_free), Shelf42/LK1.lean (callV, callS), Shelf/KitTraced.lean (throwNew0V, throwNewS). -/
/-- where a method has thrown q: the class by its name, the cell, what was written, the world -/
def vx_T (XC : String → State → State → Prop) (st : State) (q : Addr) (t : State) (mc ms : Nat) (free : Addr → Prop) : Prop :=
  ∃ (E : String) (ce : Cell) (L : List Loc), XC E st t ∧ t.heap[q]? = some ce ∧ ce.vm = .none ∧ st.vm.findClass E = some ce.cls ∧ st.WarmedH t.vm ∧ st.sameButNew ({ t with vm := st.vm } : State) L mc ms ∧ ∀ z ∈ L, free z.base
def vx_Q (Qc : Array Value → State → Outcome → State → Prop) (XC : String → State → State → Prop) (mc ms : Nat) (free : Addr → Prop) : Array Value → State → Outcome → State → Prop := fun a st o t =>
  (Qc a st o t ∧ ∃ L, FrameEnd st o t L mc ms ∧ ∀ q ∈ L, free q.base) ∨ ∃ q, o = .threw q ∧ vx_T XC st q t mc ms free
/-- a callee that returns or throws -/
def vx_Met (l : Launch) (y : MethodName) (ws : List Cond) (rm : Room) (Pc : Array Value → State → Prop) (Qc : Array Value → State → Outcome → State → Prop) (XC : String → State → State → Prop) (mc ms : Nat) (free : Addr → Prop) : Prop :=
  MetFree l y (headSpec ws rm) Pc (fun _ _ _ _ _ => True) (vx_Q Qc XC mc ms free)
def vx_Post (XC : String → State → State → Prop) (mc ms : Nat) (free : Addr → Prop) : Pt → Array Value → Addr → Pt → Prop := fun A a q B =>
  ∃ (g : JFrame) (mk : MethodId) (t : State) (L : List Loc) (E : String) (ce : Cell), B.U.heap = t.heap ∧ B.U.vm = t.vm ∧ XC E (A.U.calling g mk a) t ∧ t.heap[q]? = some ce ∧ ce.vm = .none ∧ A.U.vm.findClass E = some ce.cls ∧ B.locs = A.locs ++ L ∧ (∀ z ∈ L, free z.base) ∧ B.cells = A.cells + mc ∧ B.slots = A.slots + ms
def vx_Back (l : Launch) (R : Room) (p : Program) (e : Env) (below : List Frame) (s : State) (sargs : Array Value) (y : MethodName) (len W9 : Nat)
    (Pre : Pt → Array Value → Prop) (Post : Pt → Array Value → Option Value → Pt → Prop) (PostX : Pt → Array Value → Addr → Pt → Prop) : Prop :=
  ∀ (m : MethodId) (meth : Method) (c : Code) (A : Pt) (g : JFrame) (ig : Instr) (mk : MethodId) (a : Array Value),
    Stand p l e R s m sargs below meth c A.U A.locs A.cells A.slots → g.method = m → g.locals.size = c.maxLocals → decode c.code g.pc = .ok (ig, len) →
    2 * g.monitorRoom + (g.stack.map fun v => v.category).sum ≤ W9 → A.U.methodNamed? y = some mk → Pre A a →
    (∃ (v : Option Value) (B : Pt), Stand p l e R s m sargs below meth c B.U B.locs B.cells B.slots ∧ Post A a v B ∧
      Steps p.tables e below (doInvoke e (A.U.setTop g) [] mk a).1 (B.U.setTop { g with pc := g.pc + len, stack := v.toList ++ g.stack })) ∨
    (∃ (q : Addr) (B : Pt), Stand p l e R s m sargs below meth c B.U B.locs B.cells B.slots ∧ PostX A a q B ∧
      Steps p.tables e below (doInvoke e (A.U.setTop g) [] mk a).1 ((B.U.setTop g).pushFrame (.throwing q)))
section Payer
variable {l : Launch} {R : Room} {p : Program} {e : Env} {below : List Frame} {s : State} {sargs : Array Value} {y : MethodName} {len W9 : Nat}
theorem vx_back {ws : List Cond} {rm : Room} {Pc : Array Value → State → Prop} {Qc : Array Value → State → Outcome → State → Prop} {XC : String → State → State → Prop} {mc ms : Nat} {free : Addr → Prop} {bytes : ByteArray} {maxL : Nat} {ret : Option FieldType}
    (hM : vx_Met l y ws rm Pc Qc XC mc ms free) (hblind : FrameBlind Pc) (hrc : rm.cells = mc) (hrs : rm.slots = ms)
    (hframes : rm.frames + 1 ≤ R.frames) (hlocals : W9 + (maxL + 11) + rm.locals ≤ R.locals)
    (hws : ∀ w ∈ ws, ∀ a' U, s.WarmedH U.vm → w.before a' U = true) (hcode : Cond.code y bytes maxL ret ∈ ws) (hinit : ∀ a' U, s.WarmedH U.vm → (Cond.initialized y.cls).before a' U = true) :
    vx_Back l R p e below s sargs y len W9 (PreOf R mc ms Pc) (PostOf Qc mc ms free) (vx_Post XC mc ms free) := by
  intro m meth c A g ig mk a X hg hsize hdg hW hn hp
  have h1 : (headSpec ws rm).pre.before a A.U = true := atoms_intro fun w hw => hws w hw _ _ X.warmed
  have h2 : (Cond.code y bytes maxL ret).before a A.U = true := hws _ hcode _ _ X.warmed
  have h3 : (Cond.initialized y.cls).before a A.U = true := hinit _ _ X.warmed
  have h4 : A.cells + (headSpec ws rm).room.cells ≤ R.cells := by rw [show (headSpec ws rm).room.cells = mc from hrc]; exact hp.1
  have h5 : A.slots + (headSpec ws rm).room.slots ≤ R.slots := by rw [show (headSpec ws rm).room.slots = ms from hrs]; exact hp.2.1
  have hPc : Pc a (A.U.calling g mk a) := hblind _ _ _ _ hp.2.2
  obtain ⟨U, Ls, c0, s0⟩ := A
  dsimp only [Pt.U, Pt.locs, Pt.cells, Pt.slots] at h1 h2 h3 h4 h5 X hn hPc ⊢
  obtain ⟨methY, cY, hmY, hcY, -, hlY, -, -, -, -⟩ := Cond.code_spec hn h2
  obtain ⟨kY, hkY, -⟩ := className_of_methodNamed hn
  have hinitY : kY.init = .initialized := Cond.initialized_spec (findClass_of_methodNamed hn) hkY h3
  have h : At U g.method c below := by rw [hg]; exact X.here
  have hlocals9 : W9 + (maxL + 11) + (headSpec ws rm).room.locals ≤ R.locals := hlocals
  have happ : (headSpec ws rm).appliesLoose y e.platform (U.calling g mk a) = true :=
    Spec.appliesLoose_calling (g := g) h hdg hn hkY hinitY
      (X.room_calling (g := g) (R' := (headSpec ws rm).room) hsize hmY hcY hframes (by rw [hlY]; omega) h4 h5) h1
  obtain ⟨mid, hmid⟩ := h.above
  have hfr : (U.setTop g).frames = (.java g :: mid) ++ below := by rw [State.frames_setTop' g h.top, hmid]; rfl
  obtain ⟨o, s₂, hsteps, -, hend, hq⟩ := Steps.callFree hM p X.admits X.cas X.clock (acts := []) hfr happ hPc trivial
  have hq' : vx_Q Qc XC mc ms free a (U.calling g mk a) o s₂ := hq
  rw [State.frames_setTop' g h.top] at hend
  obtain ⟨g₀, hg0⟩ := Option.isSome_iff_exists.mp h.top
  obtain ⟨r, hr⟩ := State.topJava?_eq_some.mp hg0
  have hr' : (({ U with heap := s₂.heap, slotsUsed := s₂.slotsUsed } : State).setVm s₂.vm).frames = .java g₀ :: r := hr
  rcases hq' with ⟨hqc, L, hfe, hL⟩ | ⟨q, rfl, E, ce, L, hx, hce, hcv, hcl, hW₂, hsm, hL⟩
  · obtain ⟨⟨v, rfl⟩, hW₂, e2, q2, q3, q4, q5, q6⟩ := id hfe
    have e3 : s₂ = ({ (U.calling g mk a).setFrames s₂.frames with heap := s₂.heap, slotsUsed := s₂.slotsUsed } : State).setVm s₂.vm := by
      have : s₂ = ({ s₂ with vm := (U.calling g mk a).vm } : State).setVm s₂.vm := rfl
      rw [e2] at this
      exact this
    obtain ⟨c₂, i₂, len₂, hc₂, hd₂, hf₂⟩ := hend
    have hW' : U.WarmedH s₂.vm := hW₂
    have hcc : c₂ = c := by
      have h1 : s₂.code? g.method = U.code? g.method := by
        rw [State.code?_eq, State.code?_eq, hW'.alike.method?]
      exact Option.some.inj (hc₂.symm.trans (h1.trans h.code))
    subst hcc
    have hlen : len₂ = len := by rw [hdg] at hd₂; cases hd₂; rfl
    subst hlen
    have hs₂ : s₂ = (({ U with heap := s₂.heap, slotsUsed := s₂.slotsUsed } : State).setVm s₂.vm).setTop { g with pc := g.pc + len₂, stack := v.toList ++ g.stack } := by
      refine e3.trans ?_
      rw [hf₂, State.calling_eq h.top, State.setFrames_setFrames, State.setTop_of_frames _ hr', hr]
      rfl
    have hsame : U.sameButNew ({ U with heap := s₂.heap, slotsUsed := s₂.slotsUsed } : State) L mc ms := by
      refine ⟨?_, q2, q3, q4, q5, q6⟩
      obtain ⟨t, ht, -⟩ := State.frames_cons hr
      show ({ U with heap := s₂.heap, slotsUsed := s₂.slotsUsed } : State) = { U.setFrames U.frames with heap := s₂.heap, slotsUsed := s₂.slotsUsed }
      rw [State.setFrames_self ht]
    subst hg
    refine Or.inl ⟨v, ⟨(({ U with heap := s₂.heap, slotsUsed := s₂.slotsUsed } : State).setVm s₂.vm), Ls ++ L, c0 + mc, s0 + ms⟩,
      ⟨X.admits, X.cas, X.clock, X.frames, X.room, X.hears, X.method, X.code, (X.here.setHeapUsed s₂.heap s₂.slotsUsed).setVm hW'.alike, X.tail, State.WarmedH.trans X.warmed hW', X.limits, X.bytes, X.same.trans (hsame.setVm s.vm)⟩,
      ⟨g, mk, s₂, L, rfl, rfl, hqc, rfl, hL, rfl, rfl⟩, ?_⟩
    show Steps p.tables e below _ ((({ U with heap := s₂.heap, slotsUsed := s₂.slotsUsed } : State).setVm s₂.vm).setTop { g with pc := g.pc + len₂, stack := v.toList ++ g.stack })
    rw [← hs₂]
    exact hsteps
  · obtain ⟨e2, q2, q3, q4, q5, q6⟩ := id hsm
    have e3 : s₂ = ({ (U.calling g mk a).setFrames s₂.frames with heap := s₂.heap, slotsUsed := s₂.slotsUsed } : State).setVm s₂.vm := by
      have : s₂ = ({ s₂ with vm := (U.calling g mk a).vm } : State).setVm s₂.vm := rfl
      rw [e2] at this
      exact this
    have hf₂ : s₂.frames = .throwing q :: .java g :: U.frames.tail := hend
    have hW' : U.WarmedH s₂.vm := hW₂
    have hs₂ : s₂ = ((({ U with heap := s₂.heap, slotsUsed := s₂.slotsUsed } : State).setVm s₂.vm).setTop g).pushFrame (.throwing q) := by
      refine e3.trans ?_
      rw [hf₂, State.calling_eq h.top, State.setFrames_setFrames, State.pushFrame, State.frames_setTop _ hr', State.setTop_of_frames _ hr', State.setFrames_setFrames, hr]
      rfl
    have hsame : U.sameButNew ({ U with heap := s₂.heap, slotsUsed := s₂.slotsUsed } : State) L mc ms := by
      refine ⟨?_, q2, q3, q4, q5, q6⟩
      obtain ⟨t, ht, -⟩ := State.frames_cons hr
      show ({ U with heap := s₂.heap, slotsUsed := s₂.slotsUsed } : State) = { U.setFrames U.frames with heap := s₂.heap, slotsUsed := s₂.slotsUsed }
      rw [State.setFrames_self ht]
    subst hg
    refine Or.inr ⟨q, ⟨(({ U with heap := s₂.heap, slotsUsed := s₂.slotsUsed } : State).setVm s₂.vm), Ls ++ L, c0 + mc, s0 + ms⟩,
      ⟨X.admits, X.cas, X.clock, X.frames, X.room, X.hears, X.method, X.code, (X.here.setHeapUsed s₂.heap s₂.slotsUsed).setVm hW'.alike, X.tail, State.WarmedH.trans X.warmed hW', X.limits, X.bytes, X.same.trans (hsame.setVm s.vm)⟩,
      ⟨g, mk, s₂, L, E, ce, rfl, rfl, hx, hce, hcv, hcl, rfl, hL, rfl, rfl⟩, ?_⟩
    show Steps p.tables e below _ (((({ U with heap := s₂.heap, slotsUsed := s₂.slotsUsed } : State).setVm s₂.vm).setTop g).pushFrame (.throwing q))
    rw [← hs₂]
    exact hsteps
end Payer
section Calls
variable {p : Program} {l : Launch} {e : Env} {R : Room} {s : State} {m : MethodId} {args : Array Value} {below : List Frame} {meth : Method} {c : Code} {T : State} {locs : List Loc} {cells slots : Nat}
theorem vx_callV (X : Stand p l e R s m args below meth c T locs cells slots) (hexec : p.tables.exec = Jvm.exec) {own C : String} {index : Nat} {y : MethodName} {bytes : ByteArray} {maxL : Nat} {ret : Option FieldType}
    (hown : s.vm.findClass own = some m.cls) (hlink : (Cond.methodLink own index y).before args s = true) (hinst : (Cond.instanceMethod y).before args s = true) (hsel : (Cond.selects C y y).before args s = true)
    (hcode : (Cond.code y bytes maxL ret).before args s = true) (hy : y.cls ≠ "java/lang/invoke/MethodHandle" ∧ y.cls ≠ "java/lang/invoke/VarHandle")
    {W9 : Nat} {Pre : Pt → Array Value → Prop} {Post : Pt → Array Value → Option Value → Pt → Prop} {PostX : Pt → Array Value → Addr → Pt → Prop} (hK : vx_Back l R p e below s args y 3 W9 Pre Post PostX)
    {b : Addr} {cellB : Cell} (hcell : T.heap[b]? = some cellB) (hobj : cellB.vm.isStatics = false) (hcls : s.vm.findClass C = some cellB.cls)
    {g : JFrame} (hg : g.method = m) (hsize : g.locals.size = c.maxLocals) {argsL rest : List Value} (hlen : ∀ sig, parseMethodDescriptor y.desc = some sig → argsL.length = sig.parameters.length)
    (hstack : g.stack = argsL.reverse ++ .ref b :: rest) (hW : 2 * g.monitorRoom + (rest.map fun v => v.category).sum ≤ W9) (hdg : decode c.code g.pc = .ok (.invokevirtual index, 3))
    (hpre : ∀ vm₁, s.WarmedH vm₁ → Pre ⟨T.setVm vm₁, locs, cells, slots⟩ (Value.ref b :: argsL).toArray) :
    (∃ (v : Option Value) (vm₁ : Vm) (B : Pt), s.WarmedH vm₁ ∧ Stand p l e R s m args below meth c B.U B.locs B.cells B.slots ∧ Post ⟨T.setVm vm₁, locs, cells, slots⟩ (Value.ref b :: argsL).toArray v B ∧
      ∀ target, Steps p.tables e below (B.U.setTop { g with pc := g.pc + 3, stack := v.toList ++ rest }) target → Steps p.tables e below (T.setTop g) target) ∨
    (∃ (q : Addr) (vm₁ : Vm) (B : Pt), s.WarmedH vm₁ ∧ Stand p l e R s m args below meth c B.U B.locs B.cells B.slots ∧ PostX ⟨T.setVm vm₁, locs, cells, slots⟩ (Value.ref b :: argsL).toArray q B ∧
      Steps p.tables e below (T.setTop g) ((B.U.setTop { g with stack := rest }).pushFrame (.throwing q))) := by
  obtain ⟨mk, methM, hnamed, hmethM, hstM, habM⟩ := Cond.instanceMethod_spec hinst
  obtain ⟨methM', cM, hmethM', -, -, -, -, -, -, hsigM⟩ := Cond.code_spec hnamed hcode
  cases hmethM.symm.trans hmethM'
  obtain ⟨c2, r2, m2, q1, q2, q3, q4, kP, hkP, hkPi⟩ := Cond.selects_spec hsel
  cases hcls.symm.trans q1
  cases (State.methodFound?_of_named hnamed hy).symm.trans q2
  cases hnamed.symm.trans q3
  have hselP : selectMethod e.platform s.vm cellB.cls mk = .method mk := by rw [Launch.admits_selectMethod X.admits]; exact q4
  obtain ⟨vm₁, X₁, hstep₁⟩ := X.invokevirtual hexec hown hlink hnamed hmethM hstM hkP hkPi hy (a := b) (cell := cellB) hcell
    (fun z h => by rw [h] at hobj; cases hobj) hselP hmethM habM hkP hkPi (g := g) hg (argsL := argsL) (rest := rest) (hlen _ hsigM) hstack hdg
  rcases hK m meth c ⟨T.setVm vm₁, locs, cells, slots⟩ { g with stack := rest } (.invokevirtual index) mk (Value.ref b :: argsL).toArray X₁ hg hsize hdg hW (X₁.named hnamed) (hpre vm₁ X₁.warmed) with ⟨v, B, X', hpost, hsteps⟩ | ⟨q, B, X', hpost, hsteps⟩
  · exact Or.inl ⟨v, vm₁, B, X₁.warmed, X', hpost, fun target h => hstep₁ _ fun acts => by rw [doInvoke_state]; exact hsteps.trans h⟩
  · exact Or.inr ⟨q, vm₁, B, X₁.warmed, X', hpost, hstep₁ _ fun acts => by rw [doInvoke_state]; exact hsteps⟩
theorem vx_callS (X : Stand p l e R s m args below meth c T locs cells slots) (hexec : p.tables.exec = Jvm.exec) {own : String} {index : Nat} {y : MethodName} {bytes : ByteArray} {maxL : Nat} {ret : Option FieldType}
    (hown : s.vm.findClass own = some m.cls) (hlink : (Cond.methodLink own index y).before args s = true) (hstat : (Cond.static y).before args s = true) (hinit : (Cond.initialized y.cls).before args s = true)
    (hcode : (Cond.code y bytes maxL ret).before args s = true) (hy : y.cls ≠ "java/lang/invoke/MethodHandle" ∧ y.cls ≠ "java/lang/invoke/VarHandle")
    {W9 : Nat} {Pre : Pt → Array Value → Prop} {Post : Pt → Array Value → Option Value → Pt → Prop} {PostX : Pt → Array Value → Addr → Pt → Prop} (hK : vx_Back l R p e below s args y 3 W9 Pre Post PostX)
    {g : JFrame} (hg : g.method = m) (hsize : g.locals.size = c.maxLocals) {argsL rest : List Value} (hlen : ∀ sig, parseMethodDescriptor y.desc = some sig → argsL.length = sig.parameters.length)
    (hstack : g.stack = argsL.reverse ++ rest) (hW : 2 * g.monitorRoom + (rest.map fun v => v.category).sum ≤ W9) (hdg : decode c.code g.pc = .ok (.invokestatic index, 3))
    (hpre : ∀ vm₁, s.WarmedH vm₁ → Pre ⟨T.setVm vm₁, locs, cells, slots⟩ argsL.toArray) :
    (∃ (v : Option Value) (vm₁ : Vm) (B : Pt), s.WarmedH vm₁ ∧ Stand p l e R s m args below meth c B.U B.locs B.cells B.slots ∧ Post ⟨T.setVm vm₁, locs, cells, slots⟩ argsL.toArray v B ∧
      ∀ target, Steps p.tables e below (B.U.setTop { g with pc := g.pc + 3, stack := v.toList ++ rest }) target → Steps p.tables e below (T.setTop g) target) ∨
    (∃ (q : Addr) (vm₁ : Vm) (B : Pt), s.WarmedH vm₁ ∧ Stand p l e R s m args below meth c B.U B.locs B.cells B.slots ∧ PostX ⟨T.setVm vm₁, locs, cells, slots⟩ argsL.toArray q B ∧
      Steps p.tables e below (T.setTop g) ((B.U.setTop { g with stack := rest }).pushFrame (.throwing q))) := by
  obtain ⟨mk, hnamed⟩ := Cond.code_named hcode
  obtain ⟨methM, cM, hmethM, -, -, -, -, -, -, hsigM⟩ := Cond.code_spec hnamed hcode
  have hstatic : methM.isStatic = true := Cond.static_spec hnamed hmethM hstat
  obtain ⟨kP, hkP, -⟩ := className_of_methodNamed hnamed
  have hinitP : kP.init = .initialized := Cond.initialized_spec (findClass_of_methodNamed hnamed) hkP hinit
  obtain ⟨vm₁, X₁, hstep₁⟩ := X.invokestatic hexec hown hlink hnamed hmethM hstatic hkP hinitP hy (g := g) hg (argsL := argsL) (rest := rest) (hlen _ hsigM) hstack hdg
  rcases hK m meth c ⟨T.setVm vm₁, locs, cells, slots⟩ { g with stack := rest } (.invokestatic index) mk argsL.toArray X₁ hg hsize hdg hW (X₁.named hnamed) (hpre vm₁ X₁.warmed) with ⟨v, B, X', hpost, hsteps⟩ | ⟨q, B, X', hpost, hsteps⟩
  · exact Or.inl ⟨v, vm₁, B, X₁.warmed, X', hpost, fun target h => hstep₁ _ fun acts => by rw [doInvoke_state]; exact hsteps.trans h⟩
  · exact Or.inr ⟨q, vm₁, B, X₁.warmed, X', hpost, hstep₁ _ fun acts => by rw [doInvoke_state]; exact hsteps⟩
end Calls
theorem vx_cls {s : State} {T : State} {vm₁ : Vm} {E : String} {k : ClassId} (hW : s.WarmedH vm₁) (h : (T.setVm vm₁).vm.findClass E = some k) : s.vm.findClass E = some k := by
  have h1 : vm₁.findClass E = some k := h
  rw [hW.alike.findClass] at h1
  exact h1
/-- the method's frame g, with q thrown over it -/
def vx_W (p : Program) (l : Launch) (e : Env) (R : Room) (s : State) (m : MethodId) (args : Array Value) (below : List Frame) (meth : Method) (c : Code) (H : Heap) (locs : List Loc) (cells slots : Nat) (Q : State → Prop) (g : JFrame) (q : Addr) : Prop :=
  ∀ T : State, T.heap = H → Stand p l e R s m args below meth c T locs cells slots → ∃ t, Steps p.tables e below ((T.setTop g).pushFrame (.throwing q)) t ∧ Q t
def vx_Run (p : Program) (l : Launch) (e : Env) (R : Room) (s : State) (m : MethodId) (args : Array Value) (below : List Frame) (meth : Method) (c : Code) (H : Heap) (locs : List Loc) (cells slots mc ms : Nat) (g : JFrame) (rest : List Value) (Qa : State → Outcome → State → Prop) (XC : String → State → State → Prop) (free : Addr → Prop) : Prop :=
  ∀ T : State, T.heap = H → Stand p l e R s m args below meth c T locs cells slots →
    (∃ (v : Option Value) (st₀ t T' : State) (L : List Loc), st₀.heap = H ∧ Stand p l e R s m args below meth c T' (locs ++ L) (cells + mc) (slots + ms) ∧ (∀ q ∈ L, free q.base) ∧ T'.heap = t.heap ∧ T'.vm = t.vm ∧ Qa st₀ (.returned v) t ∧
      Goes p e below T g T' { g with pc := g.pc + 3, stack := v.toList ++ rest }) ∨
    (∃ (q : Addr) (st₀ t T' : State) (L : List Loc) (E : String) (ce : Cell), st₀.heap = H ∧ Stand p l e R s m args below meth c T' (locs ++ L) (cells + mc) (slots + ms) ∧ (∀ z ∈ L, free z.base) ∧ T'.heap = t.heap ∧ T'.vm = t.vm ∧ XC E st₀ t ∧ t.heap[q]? = some ce ∧ ce.vm = .none ∧ s.vm.findClass E = some ce.cls ∧
      Steps p.tables e below (T.setTop g) ((T'.setTop { g with stack := rest }).pushFrame (.throwing q)))
def vx_X {S : Type} (px : S → Prop) (B : String → S → State → Prop) (A : Nat → Prop) : String → State → State → Prop := fun E st t => ∃ u : S, px u ∧ B E u t ∧ va_F A st t
section Runs
variable {p : Program} {l : Launch} {e : Env} {R : Room} {s : State} {m : MethodId} {args : Array Value} {below : List Frame} {meth : Method} {c : Code} {H : Heap} {locs : List Loc} {cells slots : Nat}
variable {y : MethodName} {bytes cc : ByteArray} {maxL nL mc ms n index : Nat} {ret : Option FieldType} {ws : List Cond} {rm : Room} {Pc : Array Value → State → Prop} {Qc : Array Value → State → Outcome → State → Prop} {XC : String → State → State → Prop} {free : Addr → Prop} {Ts : List Cond} {own C : String} {b : Addr} {As rest : List Value} {g : JFrame}
theorem vx_callBack (cb : CallB R s args own index y bytes maxL ret ws rm mc ms n) (hM : vx_Met l y ws rm Pc Qc XC mc ms free) (hbl : FrameBlind Pc) : vx_Back l R p e below s args y 3 8 (PreOf R mc ms Pc) (PostOf Qc mc ms free) (vx_Post XC mc ms free) := by
  obtain ⟨hrc, hrs, hfr, hlo, hws, hcw, -, hini, -⟩ := cb
  exact vx_back (bytes := bytes) (maxL := maxL) (ret := ret) hM hbl hrc hrs hfr hlo hws hcw (fun a' U hW => word_at hW (Or.inl (by first | rfl | simp [Cond.onTables, Cond.keeps, Cond.steady])) hini)
theorem vx_runV (S : CallFix p m c cc nL s args Ts own) (hM : vx_Met l y ws rm Pc Qc XC mc ms free) (cw : CallW R s args own C index y bytes maxL ret ws rm mc ms n) (hp : PreV s H C b Pc As)
    (hg : g.method = m) (hn : As.length = n) (hsize : g.locals.size = nL) (hstack : g.stack = As.reverse ++ .ref b :: rest) (hW : 2 * g.monitorRoom + (rest.map fun v => v.category).sum ≤ 8) (hdg : decode cc g.pc = .ok (.invokevirtual index, 3)) (hf : cells + mc ≤ R.cells ∧ slots + ms ≤ R.slots) :
    vx_Run p l e R s m args below meth c H locs cells slots mc ms g rest (Qc (Value.ref b :: As).toArray) XC free := by
  have hK : vx_Back l R p e below s args y 3 8 (PreOf R mc ms Pc) (PostOf Qc mc ms free) (vx_Post XC mc ms free) := vx_callBack cw.1 hM hp.1
  obtain ⟨⟨-, -, -, -, -, -, hcode, -, hy, hlen, hl⟩, hin, hse⟩ := cw
  obtain ⟨hx, hb, hml, ho, -⟩ := S
  obtain ⟨-, ⟨cellB, hcB, hoB, hclB⟩, hPc⟩ := hp
  intro T hT X
  rcases vx_callV X hx (C := C) (bytes := bytes) (maxL := maxL) (ret := ret) ho hl hin hse hcode hy hK (by rw [hT]; exact hcB) hoB hclB hg (hsize.trans hml.symm) (argsL := As) (rest := rest) (fun sig h => hn.trans (hlen sig h)) hstack hW (by rw [hb]; exact hdg)
    (fun vm₁ hW₁ => ⟨hf.1, hf.2, hPc (T.setVm vm₁) hT hW₁⟩) with ⟨v, vm₁, ⟨U', l2, c2, s2⟩, hW₁, X', ⟨g', mk, t, L, e1, e2, hq, h1, hL, h2, h3⟩, st⟩ | ⟨q, vm₁, ⟨U', l2, c2, s2⟩, hW₁, X', ⟨g', mk, t, L, E, ce, e1, e2, hq, hce, hcv, hcl, h1, hL, h2, h3⟩, st⟩
  · dsimp only [Pt.U, Pt.locs, Pt.cells, Pt.slots] at X' e1 e2 h1 h2 h3 st
    subst h1; subst h2; subst h3
    exact Or.inl ⟨v, (T.setVm vm₁).calling g' mk (Value.ref b :: As).toArray, t, U', L, hT, X', hL, e1, e2, hq, st⟩
  · dsimp only [Pt.U, Pt.locs, Pt.cells, Pt.slots] at X' e1 e2 h1 h2 h3 st hcl
    subst h1; subst h2; subst h3
    exact Or.inr ⟨q, (T.setVm vm₁).calling g' mk (Value.ref b :: As).toArray, t, U', L, E, ce, hT, X', hL, e1, e2, hq, hce, hcv, vx_cls hW₁ hcl, st⟩
theorem vx_runS (S : CallFix p m c cc nL s args Ts own) (hM : vx_Met l y ws rm Pc Qc XC mc ms free) (cw : CallB R s args own index y bytes maxL ret ws rm mc ms n ∧ (Cond.static y).before args s = true) (hp : PreS s H Pc As)
    (hg : g.method = m) (hn : As.length = n) (hsize : g.locals.size = nL) (hstack : g.stack = As.reverse ++ rest) (hW : 2 * g.monitorRoom + (rest.map fun v => v.category).sum ≤ 8) (hdg : decode cc g.pc = .ok (.invokestatic index, 3)) (hf : cells + mc ≤ R.cells ∧ slots + ms ≤ R.slots) :
    vx_Run p l e R s m args below meth c H locs cells slots mc ms g rest (Qc As.toArray) XC free := by
  have hK : vx_Back l R p e below s args y 3 8 (PreOf R mc ms Pc) (PostOf Qc mc ms free) (vx_Post XC mc ms free) := vx_callBack cw.1 hM hp.1
  obtain ⟨⟨-, -, -, -, -, -, hcode, hini, hy, hlen, hl⟩, hstt⟩ := cw
  obtain ⟨hx, hb, hml, ho, -⟩ := S
  intro T hT X
  rcases vx_callS X hx (bytes := bytes) (maxL := maxL) (ret := ret) ho hl hstt hini hcode hy hK hg (hsize.trans hml.symm) (argsL := As) (rest := rest) (fun sig h => hn.trans (hlen sig h)) hstack hW (by rw [hb]; exact hdg)
    (fun vm₁ hW₁ => ⟨hf.1, hf.2, hp.2 (T.setVm vm₁) hT hW₁⟩) with ⟨v, vm₁, ⟨U', l2, c2, s2⟩, hW₁, X', ⟨g', mk, t, L, e1, e2, hq, h1, hL, h2, h3⟩, st⟩ | ⟨q, vm₁, ⟨U', l2, c2, s2⟩, hW₁, X', ⟨g', mk, t, L, E, ce, e1, e2, hq, hce, hcv, hcl, h1, hL, h2, h3⟩, st⟩
  · dsimp only [Pt.U, Pt.locs, Pt.cells, Pt.slots] at X' e1 e2 h1 h2 h3 st
    subst h1; subst h2; subst h3
    exact Or.inl ⟨v, (T.setVm vm₁).calling g' mk As.toArray, t, U', L, hT, X', hL, e1, e2, hq, st⟩
  · dsimp only [Pt.U, Pt.locs, Pt.cells, Pt.slots] at X' e1 e2 h1 h2 h3 st hcl
    subst h1; subst h2; subst h3
    exact Or.inr ⟨q, (T.setVm vm₁).calling g' mk As.toArray, t, U', L, E, ce, hT, X', hL, e1, e2, hq, hce, hcv, vx_cls hW₁ hcl, st⟩
end Runs
section Rows
variable {p : Program} {l : Launch} {e : Env} {R : Room} {s : State} {m : MethodId} {args : Array Value} {below : List Frame} {meth : Method} {c : Code} {H : Heap} {locs : List Loc} {cells slots : Nat} {Q : State → Prop}
variable {mc ms : Nat} {free : Addr → Prop} {A0 A1 : Nat → Prop} {H0 : Heap} {a : Array Value} {pc : Nat} {ls : Array Slot} {st0 rest : List Value}
theorem vx_keep {st₀ t T' : State} {L : List Loc} (h0 : st₀.heap = H) (e1 : T'.heap = t.heap) (hS : va_S A0 H0 H locs) (hA : ∀ q, q < H.size → A1 q → A0 q) (hf : ∀ q, free q → A0 q) (hL : ∀ q ∈ L, free q.base) (hF : va_F A1 st₀ t) :
    H.size ≤ T'.heap.size ∧ (∀ q : Nat, q < H.size → ¬ A1 q → T'.heap[q]? = H[q]?) ∧ va_S A0 H0 T'.heap (locs ++ L) := by
  obtain ⟨hz, hk⟩ := hF
  rw [h0] at hz hk
  exact ⟨by rw [e1]; exact hz, fun q h1 h2 => by rw [e1]; exact hk q h1 h2,
    ⟨Nat.le_trans hS.1 (by rw [e1]; exact hz), fun q h1 h2 => by rw [e1, hk q (Nat.lt_of_lt_of_le h1 hS.1) (fun z => h2 (hA q (Nat.lt_of_lt_of_le h1 hS.1) z))]; exact hS.2.1 q h1 h2, fun q hq => by
      rcases List.mem_append.mp hq with h | h
      · exact hS.2.2 q h
      · exact hf _ (hL q h)⟩⟩
theorem vx_calli {S SX : Type} {post : Int32 → S → Prop} {px : SX → Prop} {B : S → State → Prop} {BX : String → SX → State → Prop} {AX : Nat → Prop} (hr : vx_Run p l e R s m args below meth c H locs cells slots mc ms (F0 m pc ls st0) rest (va_Qi post B A1 a) (vx_X px BX AX) free) (hS : va_S A0 H0 H locs) (hA : ∀ q, q < H.size → A1 q → A0 q) (hf : ∀ q, free q → A0 q) (hAX : ∀ q, q < H.size → AX q → A0 q)
    (kx : ∀ (E : String) (ce : Cell) (q9 : Addr) (u : SX) (t : State) (H1 : Heap) (locs1 : List Loc), t.heap = H1 → s.vm.Alike t.vm → px u → BX E u t → H.size ≤ H1.size → (∀ q : Nat, q < H.size → ¬ AX q → H1[q]? = H[q]?) → va_S A0 H0 H1 locs1 → H1[q9]? = some ce → ce.vm = .none → s.vm.findClass E = some ce.cls → vx_W p l e R s m args below meth c H1 locs1 (cells + mc) (slots + ms) Q (F0 m pc ls rest) q9)
    (kk : ∀ (r : Int32) (u : S) (t : State) (H1 : Heap) (locs1 : List Loc), t.heap = H1 → s.vm.Alike t.vm → post r u → B u t → H.size ≤ H1.size → (∀ q : Nat, q < H.size → ¬ A1 q → H1[q]? = H[q]?) → va_S A0 H0 H1 locs1 → W p l e R s m args below meth c H1 locs1 (cells + mc) (slots + ms) Q (F0 m (pc + 3) ls (.int r :: rest))) : W p l e R s m args below meth c H locs cells slots Q (F0 m pc ls st0) := by
  intro T hT X
  rcases hr T hT X with ⟨v, st₀, t, T', L, h0, X', hL, e1, e2, ⟨⟨r, u, hv, hp, hb⟩, hF⟩, st⟩ | ⟨q, st₀, t, T', L, E, ce, h0, X', hL, e1, e2, ⟨u, hp, hb, hF⟩, hce, hcv, hcl, st⟩
  · cases hv
    obtain ⟨k1, k2, k3⟩ := vx_keep h0 e1 hS hA hf hL hF
    obtain ⟨t2, a1, b1⟩ := kk r u t T'.heap (locs ++ L) e1.symm (by rw [← e2]; exact X'.warmed.alike) hp hb k1 k2 k3 T' rfl X'
    exact ⟨t2, st t2 a1, b1⟩
  · obtain ⟨k1, k2, k3⟩ := vx_keep h0 e1 hS hAX hf hL hF
    obtain ⟨t2, a1, b1⟩ := kx E ce q u t T'.heap (locs ++ L) e1.symm (by rw [← e2]; exact X'.warmed.alike) hp hb k1 k2 k3 (by rw [e1]; exact hce) hcv hcl T' rfl X'
    exact ⟨t2, st.trans a1, b1⟩
theorem vx_calll {S SX : Type} {post : Int64 → S → Prop} {px : SX → Prop} {B : S → State → Prop} {BX : String → SX → State → Prop} {AX : Nat → Prop} (hr : vx_Run p l e R s m args below meth c H locs cells slots mc ms (F0 m pc ls st0) rest (va_Ql post B A1 a) (vx_X px BX AX) free) (hS : va_S A0 H0 H locs) (hA : ∀ q, q < H.size → A1 q → A0 q) (hf : ∀ q, free q → A0 q) (hAX : ∀ q, q < H.size → AX q → A0 q)
    (kx : ∀ (E : String) (ce : Cell) (q9 : Addr) (u : SX) (t : State) (H1 : Heap) (locs1 : List Loc), t.heap = H1 → s.vm.Alike t.vm → px u → BX E u t → H.size ≤ H1.size → (∀ q : Nat, q < H.size → ¬ AX q → H1[q]? = H[q]?) → va_S A0 H0 H1 locs1 → H1[q9]? = some ce → ce.vm = .none → s.vm.findClass E = some ce.cls → vx_W p l e R s m args below meth c H1 locs1 (cells + mc) (slots + ms) Q (F0 m pc ls rest) q9)
    (kk : ∀ (r : Int64) (u : S) (t : State) (H1 : Heap) (locs1 : List Loc), t.heap = H1 → s.vm.Alike t.vm → post r u → B u t → H.size ≤ H1.size → (∀ q : Nat, q < H.size → ¬ A1 q → H1[q]? = H[q]?) → va_S A0 H0 H1 locs1 → W p l e R s m args below meth c H1 locs1 (cells + mc) (slots + ms) Q (F0 m (pc + 3) ls (.long r :: rest))) : W p l e R s m args below meth c H locs cells slots Q (F0 m pc ls st0) := by
  intro T hT X
  rcases hr T hT X with ⟨v, st₀, t, T', L, h0, X', hL, e1, e2, ⟨⟨r, u, hv, hp, hb⟩, hF⟩, st⟩ | ⟨q, st₀, t, T', L, E, ce, h0, X', hL, e1, e2, ⟨u, hp, hb, hF⟩, hce, hcv, hcl, st⟩
  · cases hv
    obtain ⟨k1, k2, k3⟩ := vx_keep h0 e1 hS hA hf hL hF
    obtain ⟨t2, a1, b1⟩ := kk r u t T'.heap (locs ++ L) e1.symm (by rw [← e2]; exact X'.warmed.alike) hp hb k1 k2 k3 T' rfl X'
    exact ⟨t2, st t2 a1, b1⟩
  · obtain ⟨k1, k2, k3⟩ := vx_keep h0 e1 hS hAX hf hL hF
    obtain ⟨t2, a1, b1⟩ := kx E ce q u t T'.heap (locs ++ L) e1.symm (by rw [← e2]; exact X'.warmed.alike) hp hb k1 k2 k3 (by rw [e1]; exact hce) hcv hcl T' rfl X'
    exact ⟨t2, st.trans a1, b1⟩
theorem vx_callf {S SX : Type} {post : UInt32 → S → Prop} {px : SX → Prop} {B : S → State → Prop} {BX : String → SX → State → Prop} {AX : Nat → Prop} (hr : vx_Run p l e R s m args below meth c H locs cells slots mc ms (F0 m pc ls st0) rest (va_Qf post B A1 a) (vx_X px BX AX) free) (hS : va_S A0 H0 H locs) (hA : ∀ q, q < H.size → A1 q → A0 q) (hf : ∀ q, free q → A0 q) (hAX : ∀ q, q < H.size → AX q → A0 q)
    (kx : ∀ (E : String) (ce : Cell) (q9 : Addr) (u : SX) (t : State) (H1 : Heap) (locs1 : List Loc), t.heap = H1 → s.vm.Alike t.vm → px u → BX E u t → H.size ≤ H1.size → (∀ q : Nat, q < H.size → ¬ AX q → H1[q]? = H[q]?) → va_S A0 H0 H1 locs1 → H1[q9]? = some ce → ce.vm = .none → s.vm.findClass E = some ce.cls → vx_W p l e R s m args below meth c H1 locs1 (cells + mc) (slots + ms) Q (F0 m pc ls rest) q9)
    (kk : ∀ (r : UInt32) (u : S) (t : State) (H1 : Heap) (locs1 : List Loc), t.heap = H1 → s.vm.Alike t.vm → post r u → B u t → H.size ≤ H1.size → (∀ q : Nat, q < H.size → ¬ A1 q → H1[q]? = H[q]?) → va_S A0 H0 H1 locs1 → W p l e R s m args below meth c H1 locs1 (cells + mc) (slots + ms) Q (F0 m (pc + 3) ls (.float r :: rest))) : W p l e R s m args below meth c H locs cells slots Q (F0 m pc ls st0) := by
  intro T hT X
  rcases hr T hT X with ⟨v, st₀, t, T', L, h0, X', hL, e1, e2, ⟨⟨r, u, hv, hp, hb⟩, hF⟩, st⟩ | ⟨q, st₀, t, T', L, E, ce, h0, X', hL, e1, e2, ⟨u, hp, hb, hF⟩, hce, hcv, hcl, st⟩
  · cases hv
    obtain ⟨k1, k2, k3⟩ := vx_keep h0 e1 hS hA hf hL hF
    obtain ⟨t2, a1, b1⟩ := kk r u t T'.heap (locs ++ L) e1.symm (by rw [← e2]; exact X'.warmed.alike) hp hb k1 k2 k3 T' rfl X'
    exact ⟨t2, st t2 a1, b1⟩
  · obtain ⟨k1, k2, k3⟩ := vx_keep h0 e1 hS hAX hf hL hF
    obtain ⟨t2, a1, b1⟩ := kx E ce q u t T'.heap (locs ++ L) e1.symm (by rw [← e2]; exact X'.warmed.alike) hp hb k1 k2 k3 (by rw [e1]; exact hce) hcv hcl T' rfl X'
    exact ⟨t2, st.trans a1, b1⟩
theorem vx_calld {S SX : Type} {post : UInt64 → S → Prop} {px : SX → Prop} {B : S → State → Prop} {BX : String → SX → State → Prop} {AX : Nat → Prop} (hr : vx_Run p l e R s m args below meth c H locs cells slots mc ms (F0 m pc ls st0) rest (va_Qd post B A1 a) (vx_X px BX AX) free) (hS : va_S A0 H0 H locs) (hA : ∀ q, q < H.size → A1 q → A0 q) (hf : ∀ q, free q → A0 q) (hAX : ∀ q, q < H.size → AX q → A0 q)
    (kx : ∀ (E : String) (ce : Cell) (q9 : Addr) (u : SX) (t : State) (H1 : Heap) (locs1 : List Loc), t.heap = H1 → s.vm.Alike t.vm → px u → BX E u t → H.size ≤ H1.size → (∀ q : Nat, q < H.size → ¬ AX q → H1[q]? = H[q]?) → va_S A0 H0 H1 locs1 → H1[q9]? = some ce → ce.vm = .none → s.vm.findClass E = some ce.cls → vx_W p l e R s m args below meth c H1 locs1 (cells + mc) (slots + ms) Q (F0 m pc ls rest) q9)
    (kk : ∀ (r : UInt64) (u : S) (t : State) (H1 : Heap) (locs1 : List Loc), t.heap = H1 → s.vm.Alike t.vm → post r u → B u t → H.size ≤ H1.size → (∀ q : Nat, q < H.size → ¬ A1 q → H1[q]? = H[q]?) → va_S A0 H0 H1 locs1 → W p l e R s m args below meth c H1 locs1 (cells + mc) (slots + ms) Q (F0 m (pc + 3) ls (.double r :: rest))) : W p l e R s m args below meth c H locs cells slots Q (F0 m pc ls st0) := by
  intro T hT X
  rcases hr T hT X with ⟨v, st₀, t, T', L, h0, X', hL, e1, e2, ⟨⟨r, u, hv, hp, hb⟩, hF⟩, st⟩ | ⟨q, st₀, t, T', L, E, ce, h0, X', hL, e1, e2, ⟨u, hp, hb, hF⟩, hce, hcv, hcl, st⟩
  · cases hv
    obtain ⟨k1, k2, k3⟩ := vx_keep h0 e1 hS hA hf hL hF
    obtain ⟨t2, a1, b1⟩ := kk r u t T'.heap (locs ++ L) e1.symm (by rw [← e2]; exact X'.warmed.alike) hp hb k1 k2 k3 T' rfl X'
    exact ⟨t2, st t2 a1, b1⟩
  · obtain ⟨k1, k2, k3⟩ := vx_keep h0 e1 hS hAX hf hL hF
    obtain ⟨t2, a1, b1⟩ := kx E ce q u t T'.heap (locs ++ L) e1.symm (by rw [← e2]; exact X'.warmed.alike) hp hb k1 k2 k3 (by rw [e1]; exact hce) hcv hcl T' rfl X'
    exact ⟨t2, st.trans a1, b1⟩
theorem vx_callv {S SX : Type} {post : S → Prop} {px : SX → Prop} {B : S → State → Prop} {BX : String → SX → State → Prop} {AX : Nat → Prop} (hr : vx_Run p l e R s m args below meth c H locs cells slots mc ms (F0 m pc ls st0) rest (va_Qv post B A1 a) (vx_X px BX AX) free) (hS : va_S A0 H0 H locs) (hA : ∀ q, q < H.size → A1 q → A0 q) (hf : ∀ q, free q → A0 q) (hAX : ∀ q, q < H.size → AX q → A0 q)
    (kx : ∀ (E : String) (ce : Cell) (q9 : Addr) (u : SX) (t : State) (H1 : Heap) (locs1 : List Loc), t.heap = H1 → s.vm.Alike t.vm → px u → BX E u t → H.size ≤ H1.size → (∀ q : Nat, q < H.size → ¬ AX q → H1[q]? = H[q]?) → va_S A0 H0 H1 locs1 → H1[q9]? = some ce → ce.vm = .none → s.vm.findClass E = some ce.cls → vx_W p l e R s m args below meth c H1 locs1 (cells + mc) (slots + ms) Q (F0 m pc ls rest) q9)
    (kk : ∀ (u : S) (t : State) (H1 : Heap) (locs1 : List Loc), t.heap = H1 → s.vm.Alike t.vm → post u → B u t → H.size ≤ H1.size → (∀ q : Nat, q < H.size → ¬ A1 q → H1[q]? = H[q]?) → va_S A0 H0 H1 locs1 → W p l e R s m args below meth c H1 locs1 (cells + mc) (slots + ms) Q (F0 m (pc + 3) ls (rest))) : W p l e R s m args below meth c H locs cells slots Q (F0 m pc ls st0) := by
  intro T hT X
  rcases hr T hT X with ⟨v, st₀, t, T', L, h0, X', hL, e1, e2, ⟨⟨u, hv, hp, hb⟩, hF⟩, st⟩ | ⟨q, st₀, t, T', L, E, ce, h0, X', hL, e1, e2, ⟨u, hp, hb, hF⟩, hce, hcv, hcl, st⟩
  · cases hv
    obtain ⟨k1, k2, k3⟩ := vx_keep h0 e1 hS hA hf hL hF
    obtain ⟨t2, a1, b1⟩ := kk u t T'.heap (locs ++ L) e1.symm (by rw [← e2]; exact X'.warmed.alike) hp hb k1 k2 k3 T' rfl X'
    exact ⟨t2, st t2 a1, b1⟩
  · obtain ⟨k1, k2, k3⟩ := vx_keep h0 e1 hS hAX hf hL hF
    obtain ⟨t2, a1, b1⟩ := kx E ce q u t T'.heap (locs ++ L) e1.symm (by rw [← e2]; exact X'.warmed.alike) hp hb k1 k2 k3 (by rw [e1]; exact hce) hcv hcl T' rfl X'
    exact ⟨t2, st.trans a1, b1⟩
end Rows
section Ends
variable {p : Program} {l : Launch} {e : Env} {R : Room} {s : State} {m : MethodId} {args : Array Value} {below : List Frame} {meth : Method} {c : Code} {H : Heap} {locs : List Loc} {cells slots : Nat} {Q : State → Prop}
variable {mc ms : Nat} {free : Addr → Prop} {A0 A1 : Nat → Prop} {H0 : Heap} {a : Array Value} {ls : Array Slot} {st0 rest : List Value}
variable {Qc : Array Value → State → Outcome → State → Prop} {XC : String → State → State → Prop}
/-- what a body that may throw owes at its end -/
def vx_MQ (below : List Frame) (Qc : Array Value → State → Outcome → State → Prop) (XC : String → State → State → Prop) (a : Array Value) (s : State) (mc ms : Nat) (free : Addr → Prop) : State → Prop := fun t =>
  ∃ o, t.status = .running ∧ Ended t below o ∧ vx_Q Qc XC mc ms free a s o t
theorem vx_ret {g : JFrame} {mc ms : Nat} (k : W p l e R s m args below meth c H locs cells slots (MQ below Qc args s mc ms free) g) : W p l e R s m args below meth c H locs cells slots (vx_MQ below Qc XC args s mc ms free) g := by
  intro T hT X
  obtain ⟨t, a1, o, b1, b2, b3, b4⟩ := k T hT X
  exact ⟨t, a1, o, b1, b2, Or.inl ⟨b3, b4⟩⟩
/-- not caught here: it goes on to the caller -/
theorem vx_widen {g : JFrame} {q : Addr} {k n : Nat} (h1 : cells ≤ k) (h2 : slots ≤ n) (kk : vx_W p l e R s m args below meth c H locs k n Q g q) : vx_W p l e R s m args below meth c H locs cells slots Q g q := fun T hT X => kk T hT (stand_widen X h1 h2)
theorem vx_out {pc : Nat} {E : String} {ce : Cell} {q : Addr} {mc ms : Nat} (hout : ∀ x ∈ c.exceptionTable.toList, covers x pc = false) (hlocks : meth.locks = false) (hcell : H[q]? = some ce) (hv : ce.vm = .none) (hcl : s.vm.findClass E = some ce.cls)
    (hx : ∀ t : State, t.heap = H → s.vm.Alike t.vm → XC E s t) (hf : ∀ z ∈ locs, free z.base) (hc : cells ≤ mc) (hs : slots ≤ ms) :
    vx_W p l e R s m args below meth c H locs cells slots (vx_MQ below Qc XC args s mc ms free) (F0 m pc ls rest) q := by
  intro T hT X
  obtain ⟨st1, hrun, hend, hW, hsm⟩ := X.leaveThrown q (g := F0 m pc ls rest) rfl rfl rfl hout hlocks
  have hcell9 : (T.setFrames (.throwing q :: below)).heap[q]? = some ce := by
    show T.heap[q]? = some ce
    rw [hT]; exact hcell
  exact ⟨_, st1, .threw q, hrun, hend, Or.inr ⟨q, rfl, E, ce, locs, hx _ hT hW.alike, hcell9, hv, hcl, hW, hsm.mono hc hs, hf⟩⟩
theorem vx_frame {U : State} {k n : Nat} (h : s.sameButNew ({ U with vm := s.vm } : State) locs k n) : s.heap.size ≤ U.heap.size ∧ ∀ q : Nat, q < s.heap.size → (∀ z ∈ locs, z.base ≠ q) → U.heap[q]? = s.heap[q]? := by
  obtain ⟨-, h2, -, -, -, h6⟩ := h
  refine ⟨h2, fun q hq hz => ?_⟩
  obtain ⟨c9, e1, e2, e3, e4⟩ := h6 q _ (Array.getElem?_eq_getElem hq)
  have hs : c9.slots = (s.heap[q]).slots := Array.ext_getElem? fun i => e4 i fun hm => hz _ hm rfl
  have h9 : c9 = s.heap[q] := by
    rw [hs] at e2
    exact e2
  have e5 : U.heap[q]? = some c9 := e1
  rw [e5, h9, Array.getElem?_eq_getElem hq]
/-- the words of a throw but the four that speak of the heap -/
def vx_no (w : Cond) : Bool := decide (w ≠ .isRef (.static Bundle.tN "UNASSIGNED_STACK" Bundle.steD)) && decide (w ≠ .isRef (.static Bundle.tN "SUPPRESSED_SENTINEL" Bundle.listD)) && decide (w ≠ .laysStatic Bundle.tN "UNASSIGNED_STACK" Bundle.steD) && decide (w ≠ .laysStatic Bundle.tN "SUPPRESSED_SENTINEL" Bundle.listD)
def vx_at0 (own : String) (ic : Nat) (X : String) (names : List String) : List Cond := (Bundle.ownAtoms0 own ic X names).filter vx_no
def vx_atS (own : String) (ic : Nat) (X : String) (names : List String) : List Cond := (Bundle.ownAtoms own ic X names).filter vx_no
/-- a word that the tables alone decide, or a good one -/
def vx_ot (w : Cond) : Bool := w.onTables || goodWord w
theorem vx_ot_at {args a' : Array Value} {s U : State} {w : Cond} (hW : s.WarmedH U.vm) (hvm : s.vm = U.vm) (hg : vx_ot w = true) (h : w.before args s = true) : w.before a' U = true := by
  simp only [vx_ot, Bool.or_eq_true] at hg
  rcases hg with hg | hg
  · exact va_tabs hg hvm h
  · exact word_at hW (good_of_word hg) h
/-- a list's words: the good ones out of the method's own list, the others by premises of their own -/
theorem vx_hat {args : Array Value} {s : State} {L B : List Cond} (h1 : ∀ w ∈ L.filter goodWord, w.before args s = true) (h2 : ∀ w ∈ L.filter (fun w => !goodWord w), w ∈ B) (h3 : ∀ w ∈ B, w.before args s = true) : ∀ w ∈ L, w.before args s = true := by
  intro w hw
  by_cases g : goodWord w = true
  · exact h1 w (List.mem_filter.mpr ⟨hw, g⟩)
  · refine h3 w (h2 w (List.mem_filter.mpr ⟨hw, ?_⟩))
    show (!goodWord w) = true
    cases hgw : goodWord w
    · rfl
    · exact absurd hgw g
theorem vx_c {args : Array Value} {s : State} {w : Cond} {B : List Cond} (h : w.before args s = true) (t : ∀ w ∈ B, w.before args s = true) : ∀ w' ∈ w :: B, w'.before args s = true := fun w' h' => (List.mem_cons.mp h').elim (fun e => by rw [e]; exact h) (t w')
theorem vx_n {args : Array Value} {s : State} : ∀ w ∈ ([] : List Cond), w.before args s = true := fun _ h => nomatch h
theorem vx_own {args : Array Value} {s : State} {L : List Cond} (h1 : ∀ w ∈ L.filter vx_no, w.before args s = true)
    (hU : (Cond.isRef (.static Bundle.tN "UNASSIGNED_STACK" Bundle.steD)).before args s = true) (hN : (Cond.isRef (.static Bundle.tN "SUPPRESSED_SENTINEL" Bundle.listD)).before args s = true)
    (lU : (Cond.laysStatic Bundle.tN "UNASSIGNED_STACK" Bundle.steD).before args s = true) (lN : (Cond.laysStatic Bundle.tN "SUPPRESSED_SENTINEL" Bundle.listD).before args s = true) : ∀ w ∈ L, w.before args s = true := by
  intro w hw
  by_cases e1 : w = .isRef (.static Bundle.tN "UNASSIGNED_STACK" Bundle.steD)
  · rw [e1]; exact hU
  · by_cases e2 : w = .isRef (.static Bundle.tN "SUPPRESSED_SENTINEL" Bundle.listD)
    · rw [e2]; exact hN
    · by_cases e3 : w = .laysStatic Bundle.tN "UNASSIGNED_STACK" Bundle.steD
      · rw [e3]; exact lU
      · by_cases e4 : w = .laysStatic Bundle.tN "SUPPRESSED_SENTINEL" Bundle.listD
        · rw [e4]; exact lN
        · exact h1 w (List.mem_filter.mpr ⟨hw, by unfold vx_no; rw [decide_eq_true e1, decide_eq_true e2, decide_eq_true e3, decide_eq_true e4]; rfl⟩)
/-- where a static field lies, its class's statics cell in H -/
def vx_L (C n d : String) (A : Nat → Prop) (U : State) (H : Heap) : Prop := ∃ (c : ClassId) (k : Class) (i : Nat) (f : Field) (a : Nat) (cell : Cell), U.vm.findClass C = some c ∧ U.fieldFound? C n d = some (c, k, i, f) ∧ f.isStatic = true ∧ k.statics = some a ∧ H[a]? = some cell ∧ cell.vm.isStatics = true ∧ cell.cls = c ∧ f.slot < cell.slots.size ∧ k.staticTypes[f.slot]? = some f.type ∧ ¬ A a
theorem vx_L.moved {C n d : String} {A : Nat → Prop} {u U : State} {H : Heap} (hvm : u.vm.Alike U.vm) (h : vx_L C n d A u H) : vx_L C n d A U H := by
  obtain ⟨c, k, i, f, a, cell, h1, h2, h3, h4, h5, h6, h7, h8, h9, h10⟩ := h
  obtain ⟨k', hi', he⟩ := State.fieldFound?_setVm hvm h2
  exact ⟨c, k', i, f, a, cell, by rw [hvm.findClass]; exact h1, hi', h3, by rw [he]; exact h4, h5, h6, h7, h8, by rw [he]; exact h9, h10⟩
theorem vx_L.kept {C n d : String} {A : Nat → Prop} {U : State} {H H1 : Heap} (h : vx_L C n d A U H) (hq : ∀ a : Nat, a < H.size → ¬ A a → H1[a]? = H[a]?) : vx_L C n d A U H1 := by
  obtain ⟨c, k, i, f, a, cell, h1, h2, h3, h4, h5, h6, h7, h8, h9, h10⟩ := h
  exact ⟨c, k, i, f, a, cell, h1, h2, h3, h4, by rw [hq a (Array.getElem?_eq_some_iff.mp h5).1 h10]; exact h5, h6, h7, h8, h9, h10⟩
theorem vx_L.narrow {C n d : String} {A B : Nat → Prop} {U : State} {H : Heap} (h : vx_L C n d A U H) (hAB : ∀ q, B q → A q) : vx_L C n d B U H := by
  obtain ⟨c, k, i, f, a, cell, h1, h2, h3, h4, h5, h6, h7, h8, h9, h10⟩ := h
  exact ⟨c, k, i, f, a, cell, h1, h2, h3, h4, h5, h6, h7, h8, h9, fun z => h10 (hAB _ z)⟩
theorem vx_L.word {C n d : String} {A : Nat → Prop} {s : State} {args : Array Value} (h : vx_L C n d A s s.heap) : (Cond.laysStatic C n d).before args s = true := by
  obtain ⟨c, k, i, f, a, cell, h1, h2, h3, h4, h5, h6, h7, h8, h9, -⟩ := h
  show (Cond.laysStatic C n d).holds args s none s [] = true
  exact Cond.laysStatic_of h1 h2 h3 h4 h5 h6 h7 h8 h9
/-- .. and what it holds: null or some reference -/
def vx_Zq (C n d : String) (A : Nat → Prop) (U : State) (H : Heap) : Prop := va_Zq C n d A U H ∧ vx_L C n d A U H
theorem vx_Zq.moved {C n d : String} {A : Nat → Prop} {u U : State} {H : Heap} (hvm : u.vm.Alike U.vm) (h : vx_Zq C n d A u H) : vx_Zq C n d A U H := ⟨va_Zq.moved hvm h.1, vx_L.moved hvm h.2⟩
theorem vx_Zq.kept {C n d : String} {A : Nat → Prop} {U : State} {H H1 : Heap} (h : vx_Zq C n d A U H) (hq : ∀ a : Nat, a < H.size → ¬ A a → H1[a]? = H[a]?) : vx_Zq C n d A U H1 := ⟨va_Zq.kept h.1 hq, vx_L.kept h.2 hq⟩
theorem vx_Zq.narrow {C n d : String} {A B : Nat → Prop} {U : State} {H : Heap} (h : vx_Zq C n d A U H) (hAB : ∀ q, B q → A q) : vx_Zq C n d B U H := ⟨va_Zq.narrow h.1 hAB, vx_L.narrow h.2 hAB⟩
theorem vx_Zqof {args : Array Value} {s : State} {C n d : String} {A : Nat → Prop} (hl : (Cond.laysStatic C n d).before args s = true) (hini : (Cond.initialized C).before args s = true) (h : (Cond.isRef (.static C n d)).before args s = true) (hA : ∀ a : Nat, a < s.heap.size → ¬ A a) : vx_Zq C n d A s s.heap := by
  refine ⟨va_Zqof hl hini h hA, ?_⟩
  obtain ⟨c, k, i, f, a, cell, h1, h2, h3, h4, h5, h6, h7, h8, h9⟩ := Cond.laysStatic_spec hl
  exact ⟨c, k, i, f, a, cell, h1, h2, h3, h4, h5, h6, h7, h8, h9, hA a (Array.getElem?_eq_some_iff.mp h5).1⟩
theorem vx_isRef {C n d : String} {v : Value} {A : Nat → Prop} {s : State} {args : Array Value} (h : va_Z C n d v A s s.heap) (hv : v.isRef = true) : (Cond.isRef (.static C n d)).before args s = true := by
  obtain ⟨cf, kf, fi, f, a, cell, h1, h2, h3, h4, h5, h6, h7, -⟩ := h
  have he : (Term.static C n d).eval args s none [] s = some v := by
    simp [Term.eval, State.fieldNamed?, h1, h2, h4, h5, h6, h7]
  simp only [Cond.before, Cond.holds, Cond.value, he]
  cases v <;> simp_all [Value.isRef]
theorem vx_isRefq {C n d : String} {A : Nat → Prop} {s : State} {args : Array Value} (h : va_Zq C n d A s s.heap) : (Cond.isRef (.static C n d)).before args s = true := by
  rcases h with h | ⟨t, h⟩
  · exact vx_isRef h rfl
  · exact vx_isRef h rfl
/-- the same frame, seen from here: as if the method were called anew in this heap -/
theorem vx_rebase {T : State} (X : Stand p l e R s m args below meth c T locs cells slots) {R' : Room} (hf : R'.frames ≤ R.frames) (hl : R'.locals ≤ R.locals) (hc : cells + R'.cells ≤ R.cells) (hs : slots + R'.slots ≤ R.slots) :
    Stand p l e R' ((T.setVm s.vm).setFrames (.invoking m args :: below)) m args below meth c T [] 0 0 := by
  have htop : (T.setVm s.vm).topJava?.isSome := X.here.top
  have hF : ((T.setVm s.vm).setFrames (.invoking m args :: below)).frames = .invoking m args :: below := State.frames_setFrames _ (State.cur_lt_of_top htop)
  obtain ⟨g₀, hg0⟩ := Option.isSome_iff_exists.mp htop
  obtain ⟨r, hr⟩ := State.topJava?_eq_some.mp hg0
  have hl9 : e.platform.stackLimits (T.setVm s.vm).me = e.platform.stackLimits s.me := X.limits
  have hb9 : (T.setVm s.vm).me.stackBytes = s.me.stackBytes := X.bytes
  refine ⟨X.admits, X.cas, X.clock, hF, ?_, X.hears, X.method, X.code, X.here, X.tail, X.warmed, ?_, ?_, ?_⟩
  · have h := X.room
    have hU : ((T.setVm s.vm).setFrames (.invoking m args :: below)).localsInUse = s.localsInUse := by
      rw [State.localsInUse_invoking hF (meth := meth) (c := c) X.method X.code, State.localsInUse_invoking X.frames X.method X.code]
    simp only [State.hasRoom, Bool.and_eq_true, decide_eq_true_eq] at h ⊢
    obtain ⟨⟨⟨⟨h1, h2, h3, h4, h5, h6⟩, h7⟩, h8⟩, h9⟩ := h
    rw [X.frames, List.length_cons] at h2 h3
    have q1 := X.heapSize
    have q2 := X.used
    simp only [hF, hU, List.length_cons, State.stackLimits_setFrames, State.stackBytes_setFrames, hl9, hb9]
    refine ⟨⟨⟨⟨by omega, by omega, by omega, by omega, by omega, h6⟩, ?_⟩, ?_⟩, X.book⟩
    · show T.heap.size + R'.cells ≤ e.platform.maxCells
      omega
    · show T.slotsUsed + R'.slots ≤ e.platform.maxSlots
      omega
  · rw [State.stackLimits_setFrames]; rfl
  · rw [State.stackBytes_setFrames]; rfl
  · refine ⟨?_, Nat.le_refl _, Nat.le_refl _, ?_, ?_, fun a c9 h9 => ⟨c9, h9, rfl, rfl, fun _ _ => rfl⟩⟩
    · obtain ⟨t, ht, -⟩ := State.frames_cons hr
      show T.setVm s.vm = { ((T.setVm s.vm).setFrames (.invoking m args :: below)).setFrames (T.setVm s.vm).frames with heap := T.heap, slotsUsed := T.slotsUsed }
      rw [State.setFrames_setFrames, State.setFrames_self ht]
      rfl
    · show T.slotsUsed = T.slotsUsed + ((T.heap.toList.drop T.heap.size).map (·.slots.size)).sum
      rw [List.drop_eq_nil_of_le (Nat.le_of_eq Array.length_toList)]
      rfl
    · show ((T.heap.toList.drop T.heap.size).map (·.slots.size)).sum ≤ 0
      rw [List.drop_eq_nil_of_le (Nat.le_of_eq Array.length_toList)]
      exact Nat.le_refl _
/-- 'throw new E()': new; dup; invokespecial; athrow -/
theorem vx_throw0 {cc : ByteArray} {pc : Nat} (hexec : p.tables.exec = Jvm.exec) (hb : c.code = cc) (hl : l.stackTraces = false) {own cls : String} {names : List String} {ik ic mc ms : Nat} {A : Nat → Prop}
    (hown : s.vm.findClass own = some m.cls) (hcls : Bundle.fit cls = true) (hnames : ∀ n ∈ names, Bundle.fit n = true)
    (hk : (Cond.classLink own ik cls).before args s = true) (hini : (Cond.initialized cls).before args s = true) (hat : ∀ w ∈ vx_at0 own ic cls names, w.before args s = true)
    (hgood : ∀ w ∈ Cond.classLink own ik cls :: Cond.initialized cls :: vx_at0 own ic cls names, vx_ot w = true)
    (hU : vx_Zq Bundle.tN "UNASSIGNED_STACK" Bundle.steD A s s.heap) (hN : vx_Zq Bundle.tN "SUPPRESSED_SENTINEL" Bundle.listD A s s.heap) (hS : va_S A s.heap H locs) (hsize : ls.size = c.maxLocals)
    (d0 : decode cc pc = .ok (.new ik, 3)) (d3 : decode cc (pc + 3) = .ok (.dup, 1)) (d4 : decode cc (pc + 4) = .ok (.invokespecial ic, 3)) (d7 : decode cc (pc + 7) = .ok (.athrow, 1))
    (hout : ∀ x ∈ c.exceptionTable.toList, covers x (pc + 7) = false)
    (hRframes : names.length + 3 < R.frames) (hRlocals : (rest.map fun v => v.category).sum + (13 * (names.length + 1) + 42) ≤ R.locals) (hRcells : cells + 1 ≤ R.cells) (hRslots : slots + 6 ≤ R.slots) (hlocks : meth.locks = false)
    (hx : ∀ t : State, s.vm.Alike t.vm → H.size ≤ t.heap.size → (∀ q : Nat, q < H.size → t.heap[q]? = H[q]?) → XC cls s t)
    (hf : ∀ z ∈ locs, free z.base) (hc : cells + 1 ≤ mc) (hs : slots + 6 ≤ ms) :
    W p l e R s m args below meth c H locs cells slots (vx_MQ below Qc XC args s mc ms free) (F0 m pc ls rest) := by
  intro T hT X
  have htr : e.platform.stackTraces = false := (show e.platform.stackTraces = l.stackTraces by rw [X.admits.platform]).trans hl
  have Y := vx_rebase X (R' := { frames := R.frames, locals := R.locals, cells := 1, slots := 6 }) (Nat.le_refl _) (Nat.le_refl _) hRcells hRslots
  obtain ⟨s', hA⟩ : ∃ z, z = (T.setVm s.vm).setFrames (.invoking m args :: below) := ⟨_, rfl⟩
  rw [← hA] at Y
  have hvm : s'.vm = s.vm := by rw [hA]; rfl
  have hhp : s'.heap = H := by rw [hA]; exact hT
  have hW0 : s.WarmedH s'.vm := by rw [hvm]; exact State.WarmedH.refl s
  have hat' : ∀ w ∈ vx_at0 own ic cls names, w.before args s' = true := fun w hw => vx_ot_at hW0 hvm.symm (hgood w (List.mem_cons_of_mem _ (List.mem_cons_of_mem _ hw))) (hat w hw)
  have hk' : (Cond.classLink own ik cls).before args s' = true := vx_ot_at hW0 hvm.symm (hgood _ List.mem_cons_self) hk
  have hini' : (Cond.initialized cls).before args s' = true := vx_ot_at hW0 hvm.symm (hgood _ (List.mem_cons_of_mem _ List.mem_cons_self)) hini
  have hU' : vx_Zq Bundle.tN "UNASSIGNED_STACK" Bundle.steD A s' s'.heap := by rw [hhp]; exact vx_Zq.moved hW0.alike (hU.kept hS.2.1)
  have hN' : vx_Zq Bundle.tN "SUPPRESSED_SENTINEL" Bundle.listD A s' s'.heap := by rw [hhp]; exact vx_Zq.moved hW0.alike (hN.kept hS.2.1)
  have h : ∀ w ∈ Bundle.ownAtoms0 own ic cls names, w.before args s' = true := vx_own hat' (vx_isRefq hU'.1) (vx_isRefq hN'.1) hU'.2.word hN'.2.word
  have hown' : s'.vm.findClass own = some m.cls := by rw [hvm]; exact hown
  have hins : (Cond.instantiable cls 6).before args s' = true := h _ (by simp [Bundle.ownAtoms0])
  obtain ⟨vm₁, cX, kX, hfX, hkX, -, -, X₁, st1⟩ := Y.newCold hexec (own := own) (C := cls) (index := ik) (n := 6) hown' hk' hins hini'
    (g := F0 m pc ls rest) rfl (by rw [hb]; exact d0) (Nat.le_refl _) (Nat.le_refl _)
  generalize hT1 : (T.setVm vm₁).pushCell { cls := cX, slots := kX.instanceTypes.map defaultValue, vm := .none } = T1 at X₁ st1
  have hcat : (Value.ref T.heap.size).category = 1 := rfl
  have hcellA : T1.heap[T.heap.size]? = some (freshCell cX kX) := by rw [← hT1]; exact State.heap_pushCell_size _ _
  have d3' : decode c.code (pc + 3) = .ok (.dup, 1) := by rw [hb]; exact d3
  obtain ⟨U, hsteps, hrun, hend, hW, hsame, ce, hce, hO⟩ := X₁.ctorThrow0 hexec htr (own := own) (cls := cls) (names := names) (ic := ic) hown' hcls hnames h (fun x hx => nomatch hx) hfX hkX hcellA (by rw [hhp, hT]; exact Nat.le_refl _)
    (g := { method := m, pc := pc + 4, locals := ls, stack := .ref T.heap.size :: .ref T.heap.size :: rest, locked := none }) rfl hsize rfl rfl (rest := rest) rfl
    (by rw [hb]; exact d4) (by rw [hb]; exact d7) hout hRframes (by simp only [List.map_cons, List.sum_cons, hcat]; omega) hlocks
  obtain ⟨f1, f2⟩ := vx_frame hsame
  rw [hhp] at f1 f2
  have hWs : s.WarmedH U.vm := State.WarmedH.trans hW0 hW
  have hcl : s.vm.findClass cls = some ce.cls := by
    have h9 := hO.cls
    rw [hvm] at h9
    exact h9
  have hall : s.sameButNew ({ U with vm := s.vm } : State) locs mc ms := by
    subst hA
    obtain ⟨e1, e2⟩ := hsame
    rw [State.setFrames_setFrames] at e1
    have h2 : (T.setVm s.vm).sameButNew ({ U with vm := s.vm } : State) [] (0 + 1) (0 + 6) := ⟨e1, e2⟩
    have h3 := X.same.trans h2
    rw [List.append_nil] at h3
    exact h3.mono hc hs
  refine ⟨U, ?_, .threw T.heap.size, hrun, hend, Or.inr ⟨T.heap.size, rfl, cls, ce, locs, hx U hWs.alike f1 (fun q hq => f2 q hq (fun z hz => nomatch hz)), hce, hO.vm, hcl, hWs, hall, hf⟩⟩
  refine st1 _ ?_
  show Steps p.tables e below (T1.setTop { method := m, pc := pc + 3, locals := ls, stack := .ref T.heap.size :: rest, locked := none }) _
  jvm_step X₁.here [X₁.here.top, hexec, d3', Value.category]
  exact hsteps
/-- 'throw new E("text")': new; dup; ldc; invokespecial; athrow -/
theorem vx_throwS {cc : ByteArray} {pc : Nat} (hexec : p.tables.exec = Jvm.exec) (hb : c.code = cc) (hl : l.stackTraces = false) {own cls text : String} {names : List String} {ik is ic mc ms sa : Nat} {A : Nat → Prop}
    (hown : s.vm.findClass own = some m.cls) (hcls : Bundle.fit cls = true) (hnames : ∀ n ∈ names, Bundle.fit n = true)
    (hk : (Cond.classLink own ik cls).before args s = true) (hini : (Cond.initialized cls).before args s = true) (hstr : vk_R own is text sa s) (hat : ∀ w ∈ vx_atS own ic cls names, w.before args s = true)
    (hgood : ∀ w ∈ Cond.classLink own ik cls :: Cond.initialized cls :: vx_atS own ic cls names, vx_ot w = true)
    (hU : vx_Zq Bundle.tN "UNASSIGNED_STACK" Bundle.steD A s s.heap) (hN : vx_Zq Bundle.tN "SUPPRESSED_SENTINEL" Bundle.listD A s s.heap) (hS : va_S A s.heap H locs) (hsize : ls.size = c.maxLocals)
    (d0 : decode cc pc = .ok (.new ik, 3)) (d3 : decode cc (pc + 3) = .ok (.dup, 1)) (d4 : decode cc (pc + 4) = .ok (.ldc is, 2)) (d6 : decode cc (pc + 6) = .ok (.invokespecial ic, 3)) (d9 : decode cc (pc + 9) = .ok (.athrow, 1))
    (hout : ∀ x ∈ c.exceptionTable.toList, covers x (pc + 9) = false)
    (hRframes : names.length + 3 < R.frames) (hRlocals : (rest.map fun v => v.category).sum + (13 * (names.length + 1) + 43) ≤ R.locals) (hRcells : cells + 1 ≤ R.cells) (hRslots : slots + 6 ≤ R.slots) (hlocks : meth.locks = false)
    (hx : ∀ t : State, s.vm.Alike t.vm → H.size ≤ t.heap.size → (∀ q : Nat, q < H.size → t.heap[q]? = H[q]?) → XC cls s t)
    (hf : ∀ z ∈ locs, free z.base) (hc : cells + 1 ≤ mc) (hs : slots + 6 ≤ ms) :
    W p l e R s m args below meth c H locs cells slots (vx_MQ below Qc XC args s mc ms free) (F0 m pc ls rest) := by
  intro T hT X
  have htr : e.platform.stackTraces = false := (show e.platform.stackTraces = l.stackTraces by rw [X.admits.platform]).trans hl
  have Y := vx_rebase X (R' := { frames := R.frames, locals := R.locals, cells := 1, slots := 6 }) (Nat.le_refl _) (Nat.le_refl _) hRcells hRslots
  obtain ⟨s', hA⟩ : ∃ z, z = (T.setVm s.vm).setFrames (.invoking m args :: below) := ⟨_, rfl⟩
  rw [← hA] at Y
  have hvm : s'.vm = s.vm := by rw [hA]; rfl
  have hhp : s'.heap = H := by rw [hA]; exact hT
  have hW0 : s.WarmedH s'.vm := by rw [hvm]; exact State.WarmedH.refl s
  have hat' : ∀ w ∈ vx_atS own ic cls names, w.before args s' = true := fun w hw => vx_ot_at hW0 hvm.symm (hgood w (List.mem_cons_of_mem _ (List.mem_cons_of_mem _ hw))) (hat w hw)
  have hk' : (Cond.classLink own ik cls).before args s' = true := vx_ot_at hW0 hvm.symm (hgood _ List.mem_cons_self) hk
  have hini' : (Cond.initialized cls).before args s' = true := vx_ot_at hW0 hvm.symm (hgood _ (List.mem_cons_of_mem _ List.mem_cons_self)) hini
  have hU' : vx_Zq Bundle.tN "UNASSIGNED_STACK" Bundle.steD A s' s'.heap := by rw [hhp]; exact vx_Zq.moved hW0.alike (hU.kept hS.2.1)
  have hN' : vx_Zq Bundle.tN "SUPPRESSED_SENTINEL" Bundle.listD A s' s'.heap := by rw [hhp]; exact vx_Zq.moved hW0.alike (hN.kept hS.2.1)
  have h : ∀ w ∈ Bundle.ownAtoms own ic cls names, w.before args s' = true := vx_own hat' (vx_isRefq hU'.1) (vx_isRefq hN'.1) hU'.2.word hN'.2.word
  have hown' : s'.vm.findClass own = some m.cls := by rw [hvm]; exact hown
  have hins : (Cond.instantiable cls 6).before args s' = true := h _ (by simp [Bundle.ownAtoms])
  obtain ⟨vm₁, cX, kX, hfX, hkX, -, -, X₁, st1⟩ := Y.newCold hexec (own := own) (C := cls) (index := ik) (n := 6) hown' hk' hins hini'
    (g := F0 m pc ls rest) rfl (by rw [hb]; exact d0) (Nat.le_refl _) (Nat.le_refl _)
  generalize hT1 : (T.setVm vm₁).pushCell { cls := cX, slots := kX.instanceTypes.map defaultValue, vm := .none } = T1 at X₁ st1
  have hcat : (Value.ref T.heap.size).category = 1 := rfl
  have hcellA : T1.heap[T.heap.size]? = some (freshCell cX kX) := by rw [← hT1]; exact State.heap_pushCell_size _ _
  have d3' : decode c.code (pc + 3) = .ok (.dup, 1) := by rw [hb]; exact d3
  have d4' : decode c.code (pc + 4) = .ok (.ldc is, 2) := by rw [hb]; exact d4
  have hstr' : vk_R own is text sa s' := vk_R.warm hW0 hstr
  obtain ⟨U, hsteps, hrun, hend, hW, hsame, ce, hce, hO⟩ := X₁.ctorThrowS hexec htr (own := own) (cls := cls) (names := names) (ic := ic) hown' hcls hnames h (fun x hx => nomatch hx) hfX hkX hcellA (by rw [hhp, hT]; exact Nat.le_refl _) (msg := .ref sa) rfl
    (g := { method := m, pc := pc + 6, locals := ls, stack := .ref sa :: .ref T.heap.size :: .ref T.heap.size :: rest, locked := none }) rfl hsize rfl rfl (rest := rest) rfl
    (by rw [hb]; exact d6) (by rw [hb]; exact d9) hout hRframes (by simp only [List.map_cons, List.sum_cons, hcat]; omega) hlocks
  obtain ⟨f1, f2⟩ := vx_frame hsame
  rw [hhp] at f1 f2
  have hWs : s.WarmedH U.vm := State.WarmedH.trans hW0 hW
  have hcl : s.vm.findClass cls = some ce.cls := by
    have h9 := hO.cls
    rw [hvm] at h9
    exact h9
  have hall : s.sameButNew ({ U with vm := s.vm } : State) locs mc ms := by
    subst hA
    obtain ⟨e1, e2⟩ := hsame
    rw [State.setFrames_setFrames] at e1
    have h2 : (T.setVm s.vm).sameButNew ({ U with vm := s.vm } : State) [] (0 + 1) (0 + 6) := ⟨e1, e2⟩
    have h3 := X.same.trans h2
    rw [List.append_nil] at h3
    exact h3.mono hc hs
  refine ⟨U, ?_, .threw T.heap.size, hrun, hend, Or.inr ⟨T.heap.size, rfl, cls, ce, locs, hx U hWs.alike f1 (fun q hq => f2 q hq (fun z hz => nomatch hz)), hce, hO.vm, hcl, hWs, hall, hf⟩⟩
  refine st1 _ ?_
  show Steps p.tables e below (T1.setTop { method := m, pc := pc + 3, locals := ls, stack := .ref T.heap.size :: rest, locked := none }) _
  jvm_step X₁.here [X₁.here.top, hexec, d3', Value.category]
  exact X₁.ldcString hexec (own := own) (text := text) (index := is) (a := sa) hown' hstr'.1 hstr'.2
    (g := { method := m, pc := pc + 4, locals := ls, stack := .ref T.heap.size :: .ref T.heap.size :: rest, locked := none }) rfl d4' _ hsteps
/-- 'throw new E("text")', the text by a wide index -/
theorem vx_throwSW {cc : ByteArray} {pc : Nat} (hexec : p.tables.exec = Jvm.exec) (hb : c.code = cc) (hl : l.stackTraces = false) {own cls text : String} {names : List String} {ik is ic mc ms sa : Nat} {A : Nat → Prop}
    (hown : s.vm.findClass own = some m.cls) (hcls : Bundle.fit cls = true) (hnames : ∀ n ∈ names, Bundle.fit n = true)
    (hk : (Cond.classLink own ik cls).before args s = true) (hini : (Cond.initialized cls).before args s = true) (hstr : vk_R own is text sa s) (hat : ∀ w ∈ vx_atS own ic cls names, w.before args s = true)
    (hgood : ∀ w ∈ Cond.classLink own ik cls :: Cond.initialized cls :: vx_atS own ic cls names, vx_ot w = true)
    (hU : vx_Zq Bundle.tN "UNASSIGNED_STACK" Bundle.steD A s s.heap) (hN : vx_Zq Bundle.tN "SUPPRESSED_SENTINEL" Bundle.listD A s s.heap) (hS : va_S A s.heap H locs) (hsize : ls.size = c.maxLocals)
    (d0 : decode cc pc = .ok (.new ik, 3)) (d3 : decode cc (pc + 3) = .ok (.dup, 1)) (d4 : decode cc (pc + 4) = .ok (.ldc_w is, 3)) (d7 : decode cc (pc + 7) = .ok (.invokespecial ic, 3)) (d10 : decode cc (pc + 10) = .ok (.athrow, 1))
    (hout : ∀ x ∈ c.exceptionTable.toList, covers x (pc + 10) = false)
    (hRframes : names.length + 3 < R.frames) (hRlocals : (rest.map fun v => v.category).sum + (13 * (names.length + 1) + 43) ≤ R.locals) (hRcells : cells + 1 ≤ R.cells) (hRslots : slots + 6 ≤ R.slots) (hlocks : meth.locks = false)
    (hx : ∀ t : State, s.vm.Alike t.vm → H.size ≤ t.heap.size → (∀ q : Nat, q < H.size → t.heap[q]? = H[q]?) → XC cls s t)
    (hf : ∀ z ∈ locs, free z.base) (hc : cells + 1 ≤ mc) (hs : slots + 6 ≤ ms) :
    W p l e R s m args below meth c H locs cells slots (vx_MQ below Qc XC args s mc ms free) (F0 m pc ls rest) := by
  intro T hT X
  have htr : e.platform.stackTraces = false := (show e.platform.stackTraces = l.stackTraces by rw [X.admits.platform]).trans hl
  have Y := vx_rebase X (R' := { frames := R.frames, locals := R.locals, cells := 1, slots := 6 }) (Nat.le_refl _) (Nat.le_refl _) hRcells hRslots
  obtain ⟨s', hA⟩ : ∃ z, z = (T.setVm s.vm).setFrames (.invoking m args :: below) := ⟨_, rfl⟩
  rw [← hA] at Y
  have hvm : s'.vm = s.vm := by rw [hA]; rfl
  have hhp : s'.heap = H := by rw [hA]; exact hT
  have hW0 : s.WarmedH s'.vm := by rw [hvm]; exact State.WarmedH.refl s
  have hat' : ∀ w ∈ vx_atS own ic cls names, w.before args s' = true := fun w hw => vx_ot_at hW0 hvm.symm (hgood w (List.mem_cons_of_mem _ (List.mem_cons_of_mem _ hw))) (hat w hw)
  have hk' : (Cond.classLink own ik cls).before args s' = true := vx_ot_at hW0 hvm.symm (hgood _ List.mem_cons_self) hk
  have hini' : (Cond.initialized cls).before args s' = true := vx_ot_at hW0 hvm.symm (hgood _ (List.mem_cons_of_mem _ List.mem_cons_self)) hini
  have hU' : vx_Zq Bundle.tN "UNASSIGNED_STACK" Bundle.steD A s' s'.heap := by rw [hhp]; exact vx_Zq.moved hW0.alike (hU.kept hS.2.1)
  have hN' : vx_Zq Bundle.tN "SUPPRESSED_SENTINEL" Bundle.listD A s' s'.heap := by rw [hhp]; exact vx_Zq.moved hW0.alike (hN.kept hS.2.1)
  have h : ∀ w ∈ Bundle.ownAtoms own ic cls names, w.before args s' = true := vx_own hat' (vx_isRefq hU'.1) (vx_isRefq hN'.1) hU'.2.word hN'.2.word
  have hown' : s'.vm.findClass own = some m.cls := by rw [hvm]; exact hown
  have hins : (Cond.instantiable cls 6).before args s' = true := h _ (by simp [Bundle.ownAtoms])
  obtain ⟨vm₁, cX, kX, hfX, hkX, -, -, X₁, st1⟩ := Y.newCold hexec (own := own) (C := cls) (index := ik) (n := 6) hown' hk' hins hini'
    (g := F0 m pc ls rest) rfl (by rw [hb]; exact d0) (Nat.le_refl _) (Nat.le_refl _)
  generalize hT1 : (T.setVm vm₁).pushCell { cls := cX, slots := kX.instanceTypes.map defaultValue, vm := .none } = T1 at X₁ st1
  have hcat : (Value.ref T.heap.size).category = 1 := rfl
  have hcellA : T1.heap[T.heap.size]? = some (freshCell cX kX) := by rw [← hT1]; exact State.heap_pushCell_size _ _
  have d3' : decode c.code (pc + 3) = .ok (.dup, 1) := by rw [hb]; exact d3
  have d4' : decode c.code (pc + 4) = .ok (.ldc_w is, 3) := by rw [hb]; exact d4
  have hstr' : vk_R own is text sa s' := vk_R.warm hW0 hstr
  obtain ⟨U, hsteps, hrun, hend, hW, hsame, ce, hce, hO⟩ := X₁.ctorThrowS hexec htr (own := own) (cls := cls) (names := names) (ic := ic) hown' hcls hnames h (fun x hx => nomatch hx) hfX hkX hcellA (by rw [hhp, hT]; exact Nat.le_refl _) (msg := .ref sa) rfl
    (g := { method := m, pc := pc + 7, locals := ls, stack := .ref sa :: .ref T.heap.size :: .ref T.heap.size :: rest, locked := none }) rfl hsize rfl rfl (rest := rest) rfl
    (by rw [hb]; exact d7) (by rw [hb]; exact d10) hout hRframes (by simp only [List.map_cons, List.sum_cons, hcat]; omega) hlocks
  obtain ⟨f1, f2⟩ := vx_frame hsame
  rw [hhp] at f1 f2
  have hWs : s.WarmedH U.vm := State.WarmedH.trans hW0 hW
  have hcl : s.vm.findClass cls = some ce.cls := by
    have h9 := hO.cls
    rw [hvm] at h9
    exact h9
  have hall : s.sameButNew ({ U with vm := s.vm } : State) locs mc ms := by
    subst hA
    obtain ⟨e1, e2⟩ := hsame
    rw [State.setFrames_setFrames] at e1
    have h2 : (T.setVm s.vm).sameButNew ({ U with vm := s.vm } : State) [] (0 + 1) (0 + 6) := ⟨e1, e2⟩
    have h3 := X.same.trans h2
    rw [List.append_nil] at h3
    exact h3.mono hc hs
  refine ⟨U, ?_, .threw T.heap.size, hrun, hend, Or.inr ⟨T.heap.size, rfl, cls, ce, locs, hx U hWs.alike f1 (fun q hq => f2 q hq (fun z hz => nomatch hz)), hce, hO.vm, hcl, hWs, hall, hf⟩⟩
  refine st1 _ ?_
  show Steps p.tables e below (T1.setTop { method := m, pc := pc + 3, locals := ls, stack := .ref T.heap.size :: rest, locked := none }) _
  jvm_step X₁.here [X₁.here.top, hexec, d3', Value.category]
  exact X₁.ldcStringW hexec (own := own) (text := text) (index := is) (a := sa) hown' hstr'.1 hstr'.2
    (g := { method := m, pc := pc + 4, locals := ls, stack := .ref T.heap.size :: .ref T.heap.size :: rest, locked := none }) rfl d4' _ hsteps
end Ends
section Bodies
variable {l : Launch}
theorem vx_ofW {y : MethodName} {ws ws' : List Cond} {rm : Room} {Pc : Array Value → State → Prop} {Qc : Array Value → State → Outcome → State → Prop} {XC : String → State → State → Prop} {mc ms : Nat} {free : Addr → Prop} {cc : ByteArray} {maxL : Nat} {ret : Option FieldType}
    (hy : plainName y.cls = true) (hw : ws = Cond.code y cc maxL ret :: ws')
    (body : ∀ p e s m args below meth c s₁, BodyLoose p l y (headSpec ws rm) cc maxL ret e s m args below meth c s₁ → c.maxLocals = maxL → (∀ x ∈ c.exceptionTable.toList, False) → Pc args s →
      W p l e (headSpec ws rm).room s m args below meth c s.heap [] 0 0 (vx_MQ below Qc XC args s mc ms free) (entryFrame m args maxL)) : vx_Met l y ws rm Pc Qc XC mc ms free := by
  refine MetFree.of_bodyS (code := cc) (maxLocals := maxL) (ret := ret) hy ?_ ?_
  · intro args s m h hn
    obtain ⟨meth, c, h1, h2, h3, h4, h5, h6, -, -⟩ := Cond.code_spec hn (atoms_spec (ws := ws) h _ (by rw [hw]; exact List.mem_cons_self))
    exact ⟨meth, c, h1, h2, h3, h4, h5, h6⟩
  · intro p e s m args below meth c s₁ B hml hP _
    have hh0 : s₁.heap = s.heap := by rw [B.state]; rfl
    have ht : ∀ x ∈ c.exceptionTable.toList, False := by
      obtain ⟨meth9, c9, h1, h2, -, -, -, -, h7, -⟩ := Cond.code_spec B.named (atoms_spec (ws := ws) B.pre _ (by rw [hw]; exact List.mem_cons_self))
      cases Option.some.inj (h1.symm.trans B.method)
      cases Option.some.inj (h2.symm.trans (Stand.of_body B).code)
      intro x hx
      rw [Array.isEmpty_iff.mp h7] at hx
      cases hx
    obtain ⟨t, a1, o, b1, b2, b3⟩ := body p e s m args below meth c s₁ B hml ht hP s₁ hh0 (Stand.of_body B)
    exact ⟨t, o, a1, b1, b2, b3⟩
/-- the table of a body with handlers -/
theorem vx_table {p : Program} {x y : MethodName} {S : Spec} {cc bytes : ByteArray} {maxL maxL' : Nat} {ret ret' : Option FieldType} {e : Env} {s s₁ : State} {m : MethodId} {args : Array Value} {below : List Frame} {meth : Method} {c : Code} {hh : List (Nat × Nat × Nat × Nat)}
    (B : BodyLoose p l y S cc maxL ret e s m args below meth c s₁) (h : (Cond.codeWith y bytes maxL' ret' hh).before args s = true) : c.exceptionTable.toList = tableOf hh := by
  obtain ⟨m9, meth9, c9, hn9, h1, h2, -, -, h6, -⟩ := Cond.codeWith_spec h
  cases Option.some.inj (hn9.symm.trans B.named)
  cases Option.some.inj (h1.symm.trans B.method)
  cases Option.some.inj (h2.symm.trans (Stand.of_body B).code)
  rw [← h6, table_eq]
end Bodies
end VXA
/-! ===== END ===== -/
/-! ===== BEGIN a static call of a method with an exception table ===== -/
section VXS
variable {p : Program} {l : Launch} {e : Env} {R : Room} {s : State} {m : MethodId} {args : Array Value} {below : List Frame} {meth : Method} {c : Code} {T : State} {H : Heap} {locs : List Loc} {cells slots : Nat}
abbrev vx_CSW (R : Room) (s : State) (args : Array Value) (own : String) (index : Nat) (y : MethodName) (bytes : ByteArray) (maxL : Nat) (ret : Option FieldType) (hh : List (Nat × Nat × Nat × Nat)) (ws : List Cond) (rm : Room) (mc ms n : Nat) : Prop :=
  (rm.cells = mc ∧ rm.slots = ms ∧ rm.frames + 1 ≤ R.frames ∧ 8 + (maxL + 11) + rm.locals ≤ R.locals ∧ (∀ w ∈ ws, ∀ (a' : Array Value) (U : State), s.WarmedH U.vm → w.before a' U = true) ∧ Cond.codeWith y bytes maxL ret hh ∈ ws) ∧
  (Cond.codeWith y bytes maxL ret hh).before args s = true ∧ (Cond.initialized y.cls).before args s = true ∧ (y.cls ≠ "java/lang/invoke/MethodHandle" ∧ y.cls ≠ "java/lang/invoke/VarHandle") ∧
  (∀ sig, parseMethodDescriptor y.desc = some sig → n = sig.parameters.length) ∧ (Cond.methodLink own index y).before args s = true ∧ (Cond.static y).before args s = true
theorem vx_cwSW {own : String} {index maxL mc ms : Nat} {y : MethodName} {bytes : ByteArray} {ret : Option FieldType} {hh : List (Nat × Nat × Nat × Nat)} {Ts ws ws' : List Cond} {rm : Room} (n : Nat) (ht : ∀ w ∈ Ts, w.before args s = true) (hT : GoodIn Ts (va_wsS own index y ws)) (hw : ws = Cond.codeWith y bytes maxL ret hh :: ws') (hrc : rm.cells = mc) (hrs : rm.slots = ms)
    (hd : y.cls ≠ "java/lang/invoke/MethodHandle" ∧ y.cls ≠ "java/lang/invoke/VarHandle" ∧ (parseMethodDescriptor y.desc).map (fun d => d.parameters.length) = some n) (hR : rm.frames + 1 ≤ R.frames ∧ 8 + (maxL + 11) + rm.locals ≤ R.locals) :
    vx_CSW R s args own index y bytes maxL ret hh ws rm mc ms n := by
  have ok : ∀ w ∈ va_wsS own index y ws, w.before args s = true := fun w h => ht w (hT w h).1
  have hG : GoodIn Ts ws := fun w h => hT w (by unfold va_wsS; exact List.mem_append_right _ h)
  have hc : Cond.codeWith y bytes maxL ret hh ∈ ws := by rw [hw]; exact List.mem_cons_self
  refine ⟨⟨hrc, hrs, hR.1, hR.2, pay_in ht hG, hc⟩, ht _ (hG _ hc).1, ok _ (by simp [va_wsS]), ⟨hd.1, hd.2.1⟩, fun sig h => ?_, ok _ (by simp [va_wsS]), ok _ (by simp [va_wsS])⟩
  have h2 := hd.2.2
  rw [h] at h2
  exact (Option.some.inj h2).symm
theorem vx_callSW (X : Stand p l e R s m args below meth c T locs cells slots) (hexec : p.tables.exec = Jvm.exec) {own : String} {index : Nat} {y : MethodName} {bytes : ByteArray} {maxL : Nat} {ret : Option FieldType} {hh : List (Nat × Nat × Nat × Nat)}
    (hown : s.vm.findClass own = some m.cls) (hlink : (Cond.methodLink own index y).before args s = true) (hstat : (Cond.static y).before args s = true) (hinit : (Cond.initialized y.cls).before args s = true)
    (hcode : (Cond.codeWith y bytes maxL ret hh).before args s = true) (hy : y.cls ≠ "java/lang/invoke/MethodHandle" ∧ y.cls ≠ "java/lang/invoke/VarHandle")
    {W9 : Nat} {Pre : Pt → Array Value → Prop} {Post : Pt → Array Value → Option Value → Pt → Prop} (hK : Back l R p e below s args y 3 W9 Pre Post)
    {g : JFrame} (hg : g.method = m) (hsize : g.locals.size = c.maxLocals) {argsL rest : List Value} (hlen : ∀ sig, parseMethodDescriptor y.desc = some sig → argsL.length = sig.parameters.length)
    (hstack : g.stack = argsL.reverse ++ rest) (hW : 2 * g.monitorRoom + (rest.map fun v => v.category).sum ≤ W9) (hdg : decode c.code g.pc = .ok (.invokestatic index, 3))
    (hpre : ∀ vm₁, s.WarmedH vm₁ → Pre ⟨T.setVm vm₁, locs, cells, slots⟩ argsL.toArray) :
    ∃ (v : Option Value) (vm₁ : Vm) (B : Pt), s.WarmedH vm₁ ∧ Stand p l e R s m args below meth c B.U B.locs B.cells B.slots ∧ Post ⟨T.setVm vm₁, locs, cells, slots⟩ argsL.toArray v B ∧
      ∀ target, Steps p.tables e below (B.U.setTop { g with pc := g.pc + 3, stack := v.toList ++ rest }) target → Steps p.tables e below (T.setTop g) target := by
  obtain ⟨mk, methM, cM, hnamed, hmethM, -, -, -, -, -, -, hsigM⟩ := Cond.codeWith_spec hcode
  have hstatic : methM.isStatic = true := Cond.static_spec hnamed hmethM hstat
  obtain ⟨kP, hkP, -⟩ := className_of_methodNamed hnamed
  have hinitP : kP.init = .initialized := Cond.initialized_spec (findClass_of_methodNamed hnamed) hkP hinit
  obtain ⟨vm₁, X₁, hstep₁⟩ := X.invokestatic hexec hown hlink hnamed hmethM hstatic hkP hinitP hy (g := g) hg (argsL := argsL) (rest := rest) (hlen _ hsigM) hstack hdg
  obtain ⟨v, B, X', hpost, hsteps⟩ := hK m meth c ⟨T.setVm vm₁, locs, cells, slots⟩ { g with stack := rest } (.invokestatic index) mk argsL.toArray X₁ hg hsize hdg hW (X₁.named hnamed) (hpre vm₁ X₁.warmed)
  exact ⟨v, vm₁, B, X₁.warmed, X', hpost, fun target h => hstep₁ _ fun acts => by rw [doInvoke_state]; exact hsteps.trans h⟩
theorem vx_runSW {y : MethodName} {bytes cc : ByteArray} {maxL nL mc ms n index : Nat} {ret : Option FieldType} {hh : List (Nat × Nat × Nat × Nat)} {ws : List Cond} {rm : Room} {Pc : Array Value → State → Prop} {Qc : Array Value → State → Outcome → State → Prop} {free : Addr → Prop} {Ts : List Cond} {own : String} {As rest : List Value} {g : JFrame}
    (S : CallFix p m c cc nL s args Ts own) (hM : Met l y ws rm Pc Qc mc ms free) (cw : vx_CSW R s args own index y bytes maxL ret hh ws rm mc ms n) (hp : PreS s H Pc As)
    (hg : g.method = m) (hn : As.length = n) (hsize : g.locals.size = nL) (hstack : g.stack = As.reverse ++ rest) (hW : 2 * g.monitorRoom + (rest.map fun v => v.category).sum ≤ 8) (hdg : decode cc g.pc = .ok (.invokestatic index, 3)) (hf : cells + mc ≤ R.cells ∧ slots + ms ≤ R.slots) :
    va_Run p l e R s m args below meth c H locs cells slots mc ms g rest (Qc As.toArray) (free) := by
  obtain ⟨⟨hrc, hrs, hfr, hlo, hws, hcw⟩, hcode, hini, hy, hlen, hl, hstt⟩ := cw
  have hK : Back l R p e below s args y 3 8 (PreOf R mc ms Pc) (PostOf Qc mc ms free) := va_backW (hh := hh) (bytes := bytes) (maxL := maxL) (ret := ret) hM hp.1 hrc hrs hfr hlo hws hcw (fun a' U hW => word_at hW (Or.inl (by first | rfl | simp [Cond.onTables, Cond.keeps, Cond.steady])) hini)
  obtain ⟨hx, hb, hml, ho, -⟩ := S
  intro T hT X
  obtain ⟨v, vm₁, ⟨U', l2, c2, s2⟩, hW₁, X', ⟨g', mk, t, L, e1, e2, hq, h1, hL, h2, h3⟩, st⟩ := vx_callSW X hx (hh := hh) (bytes := bytes) (maxL := maxL) (ret := ret) ho hl hstt hini hcode hy hK hg (hsize.trans hml.symm) (argsL := As) (rest := rest) (fun sig h => hn.trans (hlen sig h)) hstack hW (by rw [hb]; exact hdg)
    (fun vm₁ hW₁ => ⟨hf.1, hf.2, hp.2 (T.setVm vm₁) hT hW₁⟩)
  dsimp only [Pt.U, Pt.locs, Pt.cells, Pt.slots] at X' e1 e2 h1 h2 h3 st
  subst h1; subst h2; subst h3
  exact ⟨v, (T.setVm vm₁).calling g' mk As.toArray, t, U', L, hT, X', hL, e1, e2, hq, st⟩
/-- a thing of a world lies in the heap -/
theorem vx_lt {D : va_G} {cl : List vw_C} {ws : va_W} {H1 : Heap} (h : va_P D cl ws H1) {k : Nat} {q : Nat × va_E} (hk : ws[k]? = some q) : q.1 < H1.size := (h k q hk).lt
end VXS
/-! ===== END ===== -/
/-! ===== BEGIN methods with a table of their own: called by a name, returning or throwing ===== -/
section VXH
/-! vx_backW, vx_callVX, vx_callSX, vx_callVW, vx_runVW, vx_runVX, vx_runSX, vx_ofWH follow the same proofs as their sisters above (Free/Laws.lean, Shelf42/LK1.lean); vx_outP calls Shelf42/NT130.lean (outThrough). -/
section
variable {l : Launch} {R : Room} {p : Program} {e : Env} {below : List Frame} {s : State} {sargs : Array Value} {y : MethodName} {len W9 : Nat}
theorem vx_backW {ws : List Cond} {rm : Room} {Pc : Array Value → State → Prop} {Qc : Array Value → State → Outcome → State → Prop} {XC : String → State → State → Prop} {mc ms : Nat} {free : Addr → Prop} {bytes : ByteArray} {maxL : Nat} {ret : Option FieldType} {hh : List (Nat × Nat × Nat × Nat)}
    (hM : vx_Met l y ws rm Pc Qc XC mc ms free) (hblind : FrameBlind Pc) (hrc : rm.cells = mc) (hrs : rm.slots = ms)
    (hframes : rm.frames + 1 ≤ R.frames) (hlocals : W9 + (maxL + 11) + rm.locals ≤ R.locals)
    (hws : ∀ w ∈ ws, ∀ a' U, s.WarmedH U.vm → w.before a' U = true) (hcode : Cond.codeWith y bytes maxL ret hh ∈ ws) (hinit : ∀ a' U, s.WarmedH U.vm → (Cond.initialized y.cls).before a' U = true) :
    vx_Back l R p e below s sargs y len W9 (PreOf R mc ms Pc) (PostOf Qc mc ms free) (vx_Post XC mc ms free) := by
  intro m meth c A g ig mk a X hg hsize hdg hW hn hp
  have h1 : (headSpec ws rm).pre.before a A.U = true := atoms_intro fun w hw => hws w hw _ _ X.warmed
  have h2 : (Cond.codeWith y bytes maxL ret hh).before a A.U = true := hws _ hcode _ _ X.warmed
  have h3 : (Cond.initialized y.cls).before a A.U = true := hinit _ _ X.warmed
  have h4 : A.cells + (headSpec ws rm).room.cells ≤ R.cells := by rw [show (headSpec ws rm).room.cells = mc from hrc]; exact hp.1
  have h5 : A.slots + (headSpec ws rm).room.slots ≤ R.slots := by rw [show (headSpec ws rm).room.slots = ms from hrs]; exact hp.2.1
  have hPc : Pc a (A.U.calling g mk a) := hblind _ _ _ _ hp.2.2
  obtain ⟨U, Ls, c0, s0⟩ := A
  dsimp only [Pt.U, Pt.locs, Pt.cells, Pt.slots] at h1 h2 h3 h4 h5 X hn hPc ⊢
  obtain ⟨m9, methY, cY, hn9, hmY, hcY, -, hlY, -⟩ := Cond.codeWith_spec h2
  cases Option.some.inj (hn9.symm.trans hn)
  obtain ⟨kY, hkY, -⟩ := className_of_methodNamed hn
  have hinitY : kY.init = .initialized := Cond.initialized_spec (findClass_of_methodNamed hn) hkY h3
  have h : At U g.method c below := by rw [hg]; exact X.here
  have hlocals9 : W9 + (maxL + 11) + (headSpec ws rm).room.locals ≤ R.locals := hlocals
  have happ : (headSpec ws rm).appliesLoose y e.platform (U.calling g mk a) = true :=
    Spec.appliesLoose_calling (g := g) h hdg hn hkY hinitY
      (X.room_calling (g := g) (R' := (headSpec ws rm).room) hsize hmY hcY hframes (by rw [hlY]; omega) h4 h5) h1
  obtain ⟨mid, hmid⟩ := h.above
  have hfr : (U.setTop g).frames = (.java g :: mid) ++ below := by rw [State.frames_setTop' g h.top, hmid]; rfl
  obtain ⟨o, s₂, hsteps, -, hend, hq⟩ := Steps.callFree hM p X.admits X.cas X.clock (acts := []) hfr happ hPc trivial
  have hq' : vx_Q Qc XC mc ms free a (U.calling g mk a) o s₂ := hq
  rw [State.frames_setTop' g h.top] at hend
  obtain ⟨g₀, hg0⟩ := Option.isSome_iff_exists.mp h.top
  obtain ⟨r, hr⟩ := State.topJava?_eq_some.mp hg0
  have hr' : (({ U with heap := s₂.heap, slotsUsed := s₂.slotsUsed } : State).setVm s₂.vm).frames = .java g₀ :: r := hr
  rcases hq' with ⟨hqc, L, hfe, hL⟩ | ⟨q, rfl, E, ce, L, hx, hce, hcv, hcl, hW₂, hsm, hL⟩
  · obtain ⟨⟨v, rfl⟩, hW₂, e2, q2, q3, q4, q5, q6⟩ := id hfe
    have e3 : s₂ = ({ (U.calling g mk a).setFrames s₂.frames with heap := s₂.heap, slotsUsed := s₂.slotsUsed } : State).setVm s₂.vm := by
      have : s₂ = ({ s₂ with vm := (U.calling g mk a).vm } : State).setVm s₂.vm := rfl
      rw [e2] at this
      exact this
    obtain ⟨c₂, i₂, len₂, hc₂, hd₂, hf₂⟩ := hend
    have hW' : U.WarmedH s₂.vm := hW₂
    have hcc : c₂ = c := by
      have h1 : s₂.code? g.method = U.code? g.method := by
        rw [State.code?_eq, State.code?_eq, hW'.alike.method?]
      exact Option.some.inj (hc₂.symm.trans (h1.trans h.code))
    subst hcc
    have hlen : len₂ = len := by rw [hdg] at hd₂; cases hd₂; rfl
    subst hlen
    have hs₂ : s₂ = (({ U with heap := s₂.heap, slotsUsed := s₂.slotsUsed } : State).setVm s₂.vm).setTop { g with pc := g.pc + len₂, stack := v.toList ++ g.stack } := by
      refine e3.trans ?_
      rw [hf₂, State.calling_eq h.top, State.setFrames_setFrames, State.setTop_of_frames _ hr', hr]
      rfl
    have hsame : U.sameButNew ({ U with heap := s₂.heap, slotsUsed := s₂.slotsUsed } : State) L mc ms := by
      refine ⟨?_, q2, q3, q4, q5, q6⟩
      obtain ⟨t, ht, -⟩ := State.frames_cons hr
      show ({ U with heap := s₂.heap, slotsUsed := s₂.slotsUsed } : State) = { U.setFrames U.frames with heap := s₂.heap, slotsUsed := s₂.slotsUsed }
      rw [State.setFrames_self ht]
    subst hg
    refine Or.inl ⟨v, ⟨(({ U with heap := s₂.heap, slotsUsed := s₂.slotsUsed } : State).setVm s₂.vm), Ls ++ L, c0 + mc, s0 + ms⟩,
      ⟨X.admits, X.cas, X.clock, X.frames, X.room, X.hears, X.method, X.code, (X.here.setHeapUsed s₂.heap s₂.slotsUsed).setVm hW'.alike, X.tail, State.WarmedH.trans X.warmed hW', X.limits, X.bytes, X.same.trans (hsame.setVm s.vm)⟩,
      ⟨g, mk, s₂, L, rfl, rfl, hqc, rfl, hL, rfl, rfl⟩, ?_⟩
    show Steps p.tables e below _ ((({ U with heap := s₂.heap, slotsUsed := s₂.slotsUsed } : State).setVm s₂.vm).setTop { g with pc := g.pc + len₂, stack := v.toList ++ g.stack })
    rw [← hs₂]
    exact hsteps
  · obtain ⟨e2, q2, q3, q4, q5, q6⟩ := id hsm
    have e3 : s₂ = ({ (U.calling g mk a).setFrames s₂.frames with heap := s₂.heap, slotsUsed := s₂.slotsUsed } : State).setVm s₂.vm := by
      have : s₂ = ({ s₂ with vm := (U.calling g mk a).vm } : State).setVm s₂.vm := rfl
      rw [e2] at this
      exact this
    have hf₂ : s₂.frames = .throwing q :: .java g :: U.frames.tail := hend
    have hW' : U.WarmedH s₂.vm := hW₂
    have hs₂ : s₂ = ((({ U with heap := s₂.heap, slotsUsed := s₂.slotsUsed } : State).setVm s₂.vm).setTop g).pushFrame (.throwing q) := by
      refine e3.trans ?_
      rw [hf₂, State.calling_eq h.top, State.setFrames_setFrames, State.pushFrame, State.frames_setTop _ hr', State.setTop_of_frames _ hr', State.setFrames_setFrames, hr]
      rfl
    have hsame : U.sameButNew ({ U with heap := s₂.heap, slotsUsed := s₂.slotsUsed } : State) L mc ms := by
      refine ⟨?_, q2, q3, q4, q5, q6⟩
      obtain ⟨t, ht, -⟩ := State.frames_cons hr
      show ({ U with heap := s₂.heap, slotsUsed := s₂.slotsUsed } : State) = { U.setFrames U.frames with heap := s₂.heap, slotsUsed := s₂.slotsUsed }
      rw [State.setFrames_self ht]
    subst hg
    refine Or.inr ⟨q, ⟨(({ U with heap := s₂.heap, slotsUsed := s₂.slotsUsed } : State).setVm s₂.vm), Ls ++ L, c0 + mc, s0 + ms⟩,
      ⟨X.admits, X.cas, X.clock, X.frames, X.room, X.hears, X.method, X.code, (X.here.setHeapUsed s₂.heap s₂.slotsUsed).setVm hW'.alike, X.tail, State.WarmedH.trans X.warmed hW', X.limits, X.bytes, X.same.trans (hsame.setVm s.vm)⟩,
      ⟨g, mk, s₂, L, E, ce, rfl, rfl, hx, hce, hcv, hcl, rfl, hL, rfl, rfl⟩, ?_⟩
    show Steps p.tables e below _ (((({ U with heap := s₂.heap, slotsUsed := s₂.slotsUsed } : State).setVm s₂.vm).setTop g).pushFrame (.throwing q))
    rw [← hs₂]
    exact hsteps
end
variable {p : Program} {l : Launch} {e : Env} {R : Room} {s : State} {m : MethodId} {args : Array Value} {below : List Frame} {meth : Method} {c : Code} {T : State} {H : Heap} {locs : List Loc} {cells slots : Nat}
theorem vx_callVX (X : Stand p l e R s m args below meth c T locs cells slots) (hexec : p.tables.exec = Jvm.exec) {own C : String} {index : Nat} {y : MethodName} {bytes : ByteArray} {maxL : Nat} {ret : Option FieldType} {hh : List (Nat × Nat × Nat × Nat)}
    (hown : s.vm.findClass own = some m.cls) (hlink : (Cond.methodLink own index y).before args s = true) (hinst : (Cond.instanceMethod y).before args s = true) (hsel : (Cond.selects C y y).before args s = true)
    (hcode : (Cond.codeWith y bytes maxL ret hh).before args s = true) (hy : y.cls ≠ "java/lang/invoke/MethodHandle" ∧ y.cls ≠ "java/lang/invoke/VarHandle")
    {W9 : Nat} {Pre : Pt → Array Value → Prop} {Post : Pt → Array Value → Option Value → Pt → Prop} {PostX : Pt → Array Value → Addr → Pt → Prop} (hK : vx_Back l R p e below s args y 3 W9 Pre Post PostX)
    {b : Addr} {cellB : Cell} (hcell : T.heap[b]? = some cellB) (hobj : cellB.vm.isStatics = false) (hcls : s.vm.findClass C = some cellB.cls)
    {g : JFrame} (hg : g.method = m) (hsize : g.locals.size = c.maxLocals) {argsL rest : List Value} (hlen : ∀ sig, parseMethodDescriptor y.desc = some sig → argsL.length = sig.parameters.length)
    (hstack : g.stack = argsL.reverse ++ .ref b :: rest) (hW : 2 * g.monitorRoom + (rest.map fun v => v.category).sum ≤ W9) (hdg : decode c.code g.pc = .ok (.invokevirtual index, 3))
    (hpre : ∀ vm₁, s.WarmedH vm₁ → Pre ⟨T.setVm vm₁, locs, cells, slots⟩ (Value.ref b :: argsL).toArray) :
    (∃ (v : Option Value) (vm₁ : Vm) (B : Pt), s.WarmedH vm₁ ∧ Stand p l e R s m args below meth c B.U B.locs B.cells B.slots ∧ Post ⟨T.setVm vm₁, locs, cells, slots⟩ (Value.ref b :: argsL).toArray v B ∧
      ∀ target, Steps p.tables e below (B.U.setTop { g with pc := g.pc + 3, stack := v.toList ++ rest }) target → Steps p.tables e below (T.setTop g) target) ∨
    (∃ (q : Addr) (vm₁ : Vm) (B : Pt), s.WarmedH vm₁ ∧ Stand p l e R s m args below meth c B.U B.locs B.cells B.slots ∧ PostX ⟨T.setVm vm₁, locs, cells, slots⟩ (Value.ref b :: argsL).toArray q B ∧
      Steps p.tables e below (T.setTop g) ((B.U.setTop { g with stack := rest }).pushFrame (.throwing q))) := by
  obtain ⟨mk, methM, hnamed, hmethM, hstM, habM⟩ := Cond.instanceMethod_spec hinst
  obtain ⟨m8, methM', cM, hn8, hmethM', -, -, -, -, -, -, hsigM⟩ := Cond.codeWith_spec hcode
  cases Option.some.inj (hn8.symm.trans hnamed)
  cases hmethM.symm.trans hmethM'
  obtain ⟨c2, r2, m2, q1, q2, q3, q4, kP, hkP, hkPi⟩ := Cond.selects_spec hsel
  cases hcls.symm.trans q1
  cases (State.methodFound?_of_named hnamed hy).symm.trans q2
  cases hnamed.symm.trans q3
  have hselP : selectMethod e.platform s.vm cellB.cls mk = .method mk := by rw [Launch.admits_selectMethod X.admits]; exact q4
  obtain ⟨vm₁, X₁, hstep₁⟩ := X.invokevirtual hexec hown hlink hnamed hmethM hstM hkP hkPi hy (a := b) (cell := cellB) hcell
    (fun z h => by rw [h] at hobj; cases hobj) hselP hmethM habM hkP hkPi (g := g) hg (argsL := argsL) (rest := rest) (hlen _ hsigM) hstack hdg
  rcases hK m meth c ⟨T.setVm vm₁, locs, cells, slots⟩ { g with stack := rest } (.invokevirtual index) mk (Value.ref b :: argsL).toArray X₁ hg hsize hdg hW (X₁.named hnamed) (hpre vm₁ X₁.warmed) with ⟨v, B, X', hpost, hsteps⟩ | ⟨q, B, X', hpost, hsteps⟩
  · exact Or.inl ⟨v, vm₁, B, X₁.warmed, X', hpost, fun target h => hstep₁ _ fun acts => by rw [doInvoke_state]; exact hsteps.trans h⟩
  · exact Or.inr ⟨q, vm₁, B, X₁.warmed, X', hpost, hstep₁ _ fun acts => by rw [doInvoke_state]; exact hsteps⟩
theorem vx_callSX (X : Stand p l e R s m args below meth c T locs cells slots) (hexec : p.tables.exec = Jvm.exec) {own : String} {index : Nat} {y : MethodName} {bytes : ByteArray} {maxL : Nat} {ret : Option FieldType} {hh : List (Nat × Nat × Nat × Nat)}
    (hown : s.vm.findClass own = some m.cls) (hlink : (Cond.methodLink own index y).before args s = true) (hstat : (Cond.static y).before args s = true) (hinit : (Cond.initialized y.cls).before args s = true)
    (hcode : (Cond.codeWith y bytes maxL ret hh).before args s = true) (hy : y.cls ≠ "java/lang/invoke/MethodHandle" ∧ y.cls ≠ "java/lang/invoke/VarHandle")
    {W9 : Nat} {Pre : Pt → Array Value → Prop} {Post : Pt → Array Value → Option Value → Pt → Prop} {PostX : Pt → Array Value → Addr → Pt → Prop} (hK : vx_Back l R p e below s args y 3 W9 Pre Post PostX)
    {g : JFrame} (hg : g.method = m) (hsize : g.locals.size = c.maxLocals) {argsL rest : List Value} (hlen : ∀ sig, parseMethodDescriptor y.desc = some sig → argsL.length = sig.parameters.length)
    (hstack : g.stack = argsL.reverse ++ rest) (hW : 2 * g.monitorRoom + (rest.map fun v => v.category).sum ≤ W9) (hdg : decode c.code g.pc = .ok (.invokestatic index, 3))
    (hpre : ∀ vm₁, s.WarmedH vm₁ → Pre ⟨T.setVm vm₁, locs, cells, slots⟩ argsL.toArray) :
    (∃ (v : Option Value) (vm₁ : Vm) (B : Pt), s.WarmedH vm₁ ∧ Stand p l e R s m args below meth c B.U B.locs B.cells B.slots ∧ Post ⟨T.setVm vm₁, locs, cells, slots⟩ argsL.toArray v B ∧
      ∀ target, Steps p.tables e below (B.U.setTop { g with pc := g.pc + 3, stack := v.toList ++ rest }) target → Steps p.tables e below (T.setTop g) target) ∨
    (∃ (q : Addr) (vm₁ : Vm) (B : Pt), s.WarmedH vm₁ ∧ Stand p l e R s m args below meth c B.U B.locs B.cells B.slots ∧ PostX ⟨T.setVm vm₁, locs, cells, slots⟩ argsL.toArray q B ∧
      Steps p.tables e below (T.setTop g) ((B.U.setTop { g with stack := rest }).pushFrame (.throwing q))) := by
  obtain ⟨mk, methM, cM, hnamed, hmethM, -, -, -, -, -, -, hsigM⟩ := Cond.codeWith_spec hcode
  have hstatic : methM.isStatic = true := Cond.static_spec hnamed hmethM hstat
  obtain ⟨kP, hkP, -⟩ := className_of_methodNamed hnamed
  have hinitP : kP.init = .initialized := Cond.initialized_spec (findClass_of_methodNamed hnamed) hkP hinit
  obtain ⟨vm₁, X₁, hstep₁⟩ := X.invokestatic hexec hown hlink hnamed hmethM hstatic hkP hinitP hy (g := g) hg (argsL := argsL) (rest := rest) (hlen _ hsigM) hstack hdg
  rcases hK m meth c ⟨T.setVm vm₁, locs, cells, slots⟩ { g with stack := rest } (.invokestatic index) mk argsL.toArray X₁ hg hsize hdg hW (X₁.named hnamed) (hpre vm₁ X₁.warmed) with ⟨v, B, X', hpost, hsteps⟩ | ⟨q, B, X', hpost, hsteps⟩
  · exact Or.inl ⟨v, vm₁, B, X₁.warmed, X', hpost, fun target h => hstep₁ _ fun acts => by rw [doInvoke_state]; exact hsteps.trans h⟩
  · exact Or.inr ⟨q, vm₁, B, X₁.warmed, X', hpost, hstep₁ _ fun acts => by rw [doInvoke_state]; exact hsteps⟩
theorem vx_callVW (X : Stand p l e R s m args below meth c T locs cells slots) (hexec : p.tables.exec = Jvm.exec) {own C : String} {index : Nat} {y : MethodName} {bytes : ByteArray} {maxL : Nat} {ret : Option FieldType} {hh : List (Nat × Nat × Nat × Nat)}
    (hown : s.vm.findClass own = some m.cls) (hlink : (Cond.methodLink own index y).before args s = true) (hinst : (Cond.instanceMethod y).before args s = true) (hsel : (Cond.selects C y y).before args s = true)
    (hcode : (Cond.codeWith y bytes maxL ret hh).before args s = true) (hy : y.cls ≠ "java/lang/invoke/MethodHandle" ∧ y.cls ≠ "java/lang/invoke/VarHandle")
    {W9 : Nat} {Pre : Pt → Array Value → Prop} {Post : Pt → Array Value → Option Value → Pt → Prop} (hK : Back l R p e below s args y 3 W9 Pre Post)
    {b : Addr} {cellB : Cell} (hcell : T.heap[b]? = some cellB) (hobj : cellB.vm.isStatics = false) (hcls : s.vm.findClass C = some cellB.cls)
    {g : JFrame} (hg : g.method = m) (hsize : g.locals.size = c.maxLocals) {argsL rest : List Value} (hlen : ∀ sig, parseMethodDescriptor y.desc = some sig → argsL.length = sig.parameters.length)
    (hstack : g.stack = argsL.reverse ++ .ref b :: rest) (hW : 2 * g.monitorRoom + (rest.map fun v => v.category).sum ≤ W9) (hdg : decode c.code g.pc = .ok (.invokevirtual index, 3))
    (hpre : ∀ vm₁, s.WarmedH vm₁ → Pre ⟨T.setVm vm₁, locs, cells, slots⟩ (Value.ref b :: argsL).toArray) :
    ∃ (v : Option Value) (vm₁ : Vm) (B : Pt), s.WarmedH vm₁ ∧ Stand p l e R s m args below meth c B.U B.locs B.cells B.slots ∧ Post ⟨T.setVm vm₁, locs, cells, slots⟩ (Value.ref b :: argsL).toArray v B ∧
      ∀ target, Steps p.tables e below (B.U.setTop { g with pc := g.pc + 3, stack := v.toList ++ rest }) target → Steps p.tables e below (T.setTop g) target := by
  obtain ⟨mk, methM, hnamed, hmethM, hstM, habM⟩ := Cond.instanceMethod_spec hinst
  obtain ⟨m8, methM', cM, hn8, hmethM', -, -, -, -, -, -, hsigM⟩ := Cond.codeWith_spec hcode
  cases Option.some.inj (hn8.symm.trans hnamed)
  cases hmethM.symm.trans hmethM'
  obtain ⟨c2, r2, m2, q1, q2, q3, q4, kP, hkP, hkPi⟩ := Cond.selects_spec hsel
  cases hcls.symm.trans q1
  cases (State.methodFound?_of_named hnamed hy).symm.trans q2
  cases hnamed.symm.trans q3
  have hselP : selectMethod e.platform s.vm cellB.cls mk = .method mk := by rw [Launch.admits_selectMethod X.admits]; exact q4
  obtain ⟨vm₁, X₁, hstep₁⟩ := X.invokevirtual hexec hown hlink hnamed hmethM hstM hkP hkPi hy (a := b) (cell := cellB) hcell
    (fun z h => by rw [h] at hobj; cases hobj) hselP hmethM habM hkP hkPi (g := g) hg (argsL := argsL) (rest := rest) (hlen _ hsigM) hstack hdg
  obtain ⟨v, B, X', hpost, hsteps⟩ := hK m meth c ⟨T.setVm vm₁, locs, cells, slots⟩ { g with stack := rest } (.invokevirtual index) mk (Value.ref b :: argsL).toArray X₁ hg hsize hdg hW (X₁.named hnamed) (hpre vm₁ X₁.warmed)
  exact ⟨v, vm₁, B, X₁.warmed, X', hpost, fun target h => hstep₁ _ fun acts => by rw [doInvoke_state]; exact hsteps.trans h⟩
abbrev vx_CVW (R : Room) (s : State) (args : Array Value) (own C : String) (index : Nat) (y : MethodName) (bytes : ByteArray) (maxL : Nat) (ret : Option FieldType) (hh : List (Nat × Nat × Nat × Nat)) (ws : List Cond) (rm : Room) (mc ms n : Nat) : Prop :=
  (rm.cells = mc ∧ rm.slots = ms ∧ rm.frames + 1 ≤ R.frames ∧ 8 + (maxL + 11) + rm.locals ≤ R.locals ∧ (∀ w ∈ ws, ∀ (a' : Array Value) (U : State), s.WarmedH U.vm → w.before a' U = true) ∧ Cond.codeWith y bytes maxL ret hh ∈ ws) ∧
  (Cond.codeWith y bytes maxL ret hh).before args s = true ∧ (Cond.initialized y.cls).before args s = true ∧ (y.cls ≠ "java/lang/invoke/MethodHandle" ∧ y.cls ≠ "java/lang/invoke/VarHandle") ∧
  (∀ sig, parseMethodDescriptor y.desc = some sig → n = sig.parameters.length) ∧ (Cond.methodLink own index y).before args s = true ∧ (Cond.instanceMethod y).before args s = true ∧ (Cond.selects C y y).before args s = true
theorem vx_cwVW {own C : String} {index maxL mc ms : Nat} {y : MethodName} {bytes : ByteArray} {ret : Option FieldType} {hh : List (Nat × Nat × Nat × Nat)} {Ts ws ws' : List Cond} {rm : Room} (n : Nat) (ht : ∀ w ∈ Ts, w.before args s = true) (hT : GoodIn Ts (wsV own index C y ws)) (hw : ws = Cond.codeWith y bytes maxL ret hh :: ws') (hrc : rm.cells = mc) (hrs : rm.slots = ms)
    (hd : y.cls = C ∧ y.cls ≠ "java/lang/invoke/MethodHandle" ∧ y.cls ≠ "java/lang/invoke/VarHandle" ∧ (parseMethodDescriptor y.desc).map (fun d => d.parameters.length) = some n) (hR : rm.frames + 1 ≤ R.frames ∧ 8 + (maxL + 11) + rm.locals ≤ R.locals) :
    vx_CVW R s args own C index y bytes maxL ret hh ws rm mc ms n := by
  obtain ⟨hC, hd⟩ := hd
  subst hC
  have ok : ∀ w ∈ wsV own index y.cls y ws, w.before args s = true := fun w h => ht w (hT w h).1
  have hG : GoodIn Ts ws := fun w h => hT w (by unfold wsV; exact List.mem_append_right _ h)
  have hc : Cond.codeWith y bytes maxL ret hh ∈ ws := by rw [hw]; exact List.mem_cons_self
  refine ⟨⟨hrc, hrs, hR.1, hR.2, pay_in ht hG, hc⟩, ht _ (hG _ hc).1, ok _ (by simp [wsV]), ⟨hd.1, hd.2.1⟩, fun sig h => ?_, ok _ (by simp [wsV]), ok _ (by simp [wsV]), ok _ (by simp [wsV])⟩
  have h2 := hd.2.2
  rw [h] at h2
  exact (Option.some.inj h2).symm
theorem vx_runVW {y : MethodName} {bytes cc : ByteArray} {maxL nL mc ms n index : Nat} {ret : Option FieldType} {hh : List (Nat × Nat × Nat × Nat)} {ws : List Cond} {rm : Room} {Pc : Array Value → State → Prop} {Qc : Array Value → State → Outcome → State → Prop} {free : Addr → Prop} {Ts : List Cond} {own C : String} {b : Addr} {As rest : List Value} {g : JFrame}
    (S : CallFix p m c cc nL s args Ts own) (hM : Met l y ws rm Pc Qc mc ms free) (cw : vx_CVW R s args own C index y bytes maxL ret hh ws rm mc ms n) (hp : PreV s H C b Pc As)
    (hg : g.method = m) (hn : As.length = n) (hsize : g.locals.size = nL) (hstack : g.stack = As.reverse ++ .ref b :: rest) (hW : 2 * g.monitorRoom + (rest.map fun v => v.category).sum ≤ 8) (hdg : decode cc g.pc = .ok (.invokevirtual index, 3)) (hf : cells + mc ≤ R.cells ∧ slots + ms ≤ R.slots) :
    va_Run p l e R s m args below meth c H locs cells slots mc ms g rest (Qc (Value.ref b :: As).toArray) free := by
  obtain ⟨⟨hrc, hrs, hfr, hlo, hws, hcw⟩, hcode, hini, hy, hlen, hl, hin, hse⟩ := cw
  have hK : Back l R p e below s args y 3 8 (PreOf R mc ms Pc) (PostOf Qc mc ms free) := va_backW (hh := hh) (bytes := bytes) (maxL := maxL) (ret := ret) hM hp.1 hrc hrs hfr hlo hws hcw (fun a' U hW => word_at hW (Or.inl (by first | rfl | simp [Cond.onTables, Cond.keeps, Cond.steady])) hini)
  obtain ⟨hx, hb, hml, ho, -⟩ := S
  obtain ⟨-, ⟨cellB, hcB, hoB, hclB⟩, hPc⟩ := hp
  intro T hT X
  obtain ⟨v, vm₁, ⟨U', l2, c2, s2⟩, hW₁, X', ⟨g', mk, t, L, e1, e2, hq, h1, hL, h2, h3⟩, st⟩ := vx_callVW X hx (C := C) (hh := hh) (bytes := bytes) (maxL := maxL) (ret := ret) ho hl hin hse hcode hy hK (by rw [hT]; exact hcB) hoB hclB hg (hsize.trans hml.symm) (argsL := As) (rest := rest) (fun sig h => hn.trans (hlen sig h)) hstack hW (by rw [hb]; exact hdg)
    (fun vm₁ hW₁ => ⟨hf.1, hf.2, hPc (T.setVm vm₁) hT hW₁⟩)
  dsimp only [Pt.U, Pt.locs, Pt.cells, Pt.slots] at X' e1 e2 h1 h2 h3 st
  subst h1; subst h2; subst h3
  exact ⟨v, (T.setVm vm₁).calling g' mk (Value.ref b :: As).toArray, t, U', L, hT, X', hL, e1, e2, hq, st⟩
section
variable {y : MethodName} {bytes cc : ByteArray} {maxL nL mc ms n index : Nat} {ret : Option FieldType} {ws : List Cond} {rm : Room} {Pc : Array Value → State → Prop} {Qc : Array Value → State → Outcome → State → Prop} {XC : String → State → State → Prop} {free : Addr → Prop} {Ts : List Cond} {own C : String} {b : Addr} {As rest : List Value} {g : JFrame}
theorem vx_runVX {hh : List (Nat × Nat × Nat × Nat)} (S : CallFix p m c cc nL s args Ts own) (hM : vx_Met l y ws rm Pc Qc XC mc ms free) (cw : vx_CVW R s args own C index y bytes maxL ret hh ws rm mc ms n) (hp : PreV s H C b Pc As)
    (hg : g.method = m) (hn : As.length = n) (hsize : g.locals.size = nL) (hstack : g.stack = As.reverse ++ .ref b :: rest) (hW : 2 * g.monitorRoom + (rest.map fun v => v.category).sum ≤ 8) (hdg : decode cc g.pc = .ok (.invokevirtual index, 3)) (hf : cells + mc ≤ R.cells ∧ slots + ms ≤ R.slots) :
    vx_Run p l e R s m args below meth c H locs cells slots mc ms g rest (Qc (Value.ref b :: As).toArray) XC free := by
  obtain ⟨⟨hrc, hrs, hfr, hlo, hws, hcw⟩, hcode, hini, hy, hlen, hl, hin, hse⟩ := cw
  have hK : vx_Back l R p e below s args y 3 8 (PreOf R mc ms Pc) (PostOf Qc mc ms free) (vx_Post XC mc ms free) := vx_backW (hh := hh) (bytes := bytes) (maxL := maxL) (ret := ret) hM hp.1 hrc hrs hfr hlo hws hcw (fun a' U hW => word_at hW (Or.inl (by first | rfl | simp [Cond.onTables, Cond.keeps, Cond.steady])) hini)
  obtain ⟨hx, hb, hml, ho, -⟩ := S
  obtain ⟨-, ⟨cellB, hcB, hoB, hclB⟩, hPc⟩ := hp
  intro T hT X
  rcases vx_callVX X hx (C := C) (hh := hh) (bytes := bytes) (maxL := maxL) (ret := ret) ho hl hin hse hcode hy hK (by rw [hT]; exact hcB) hoB hclB hg (hsize.trans hml.symm) (argsL := As) (rest := rest) (fun sig h => hn.trans (hlen sig h)) hstack hW (by rw [hb]; exact hdg)
    (fun vm₁ hW₁ => ⟨hf.1, hf.2, hPc (T.setVm vm₁) hT hW₁⟩) with ⟨v, vm₁, ⟨U', l2, c2, s2⟩, hW₁, X', ⟨g', mk, t, L, e1, e2, hq, h1, hL, h2, h3⟩, st⟩ | ⟨q, vm₁, ⟨U', l2, c2, s2⟩, hW₁, X', ⟨g', mk, t, L, E, ce, e1, e2, hq, hce, hcv, hcl, h1, hL, h2, h3⟩, st⟩
  · dsimp only [Pt.U, Pt.locs, Pt.cells, Pt.slots] at X' e1 e2 h1 h2 h3 st
    subst h1; subst h2; subst h3
    exact Or.inl ⟨v, (T.setVm vm₁).calling g' mk (Value.ref b :: As).toArray, t, U', L, hT, X', hL, e1, e2, hq, st⟩
  · dsimp only [Pt.U, Pt.locs, Pt.cells, Pt.slots] at X' e1 e2 h1 h2 h3 st hcl
    subst h1; subst h2; subst h3
    exact Or.inr ⟨q, (T.setVm vm₁).calling g' mk (Value.ref b :: As).toArray, t, U', L, E, ce, hT, X', hL, e1, e2, hq, hce, hcv, vx_cls hW₁ hcl, st⟩
theorem vx_runSX {hh : List (Nat × Nat × Nat × Nat)} (S : CallFix p m c cc nL s args Ts own) (hM : vx_Met l y ws rm Pc Qc XC mc ms free) (cw : vx_CSW R s args own index y bytes maxL ret hh ws rm mc ms n) (hp : PreS s H Pc As)
    (hg : g.method = m) (hn : As.length = n) (hsize : g.locals.size = nL) (hstack : g.stack = As.reverse ++ rest) (hW : 2 * g.monitorRoom + (rest.map fun v => v.category).sum ≤ 8) (hdg : decode cc g.pc = .ok (.invokestatic index, 3)) (hf : cells + mc ≤ R.cells ∧ slots + ms ≤ R.slots) :
    vx_Run p l e R s m args below meth c H locs cells slots mc ms g rest (Qc As.toArray) XC free := by
  obtain ⟨⟨hrc, hrs, hfr, hlo, hws, hcw⟩, hcode, hini, hy, hlen, hl, hstt⟩ := cw
  have hK : vx_Back l R p e below s args y 3 8 (PreOf R mc ms Pc) (PostOf Qc mc ms free) (vx_Post XC mc ms free) := vx_backW (hh := hh) (bytes := bytes) (maxL := maxL) (ret := ret) hM hp.1 hrc hrs hfr hlo hws hcw (fun a' U hW => word_at hW (Or.inl (by first | rfl | simp [Cond.onTables, Cond.keeps, Cond.steady])) hini)
  obtain ⟨hx, hb, hml, ho, -⟩ := S
  intro T hT X
  rcases vx_callSX X hx (hh := hh) (bytes := bytes) (maxL := maxL) (ret := ret) ho hl hstt hini hcode hy hK hg (hsize.trans hml.symm) (argsL := As) (rest := rest) (fun sig h => hn.trans (hlen sig h)) hstack hW (by rw [hb]; exact hdg)
    (fun vm₁ hW₁ => ⟨hf.1, hf.2, hp.2 (T.setVm vm₁) hT hW₁⟩) with ⟨v, vm₁, ⟨U', l2, c2, s2⟩, hW₁, X', ⟨g', mk, t, L, e1, e2, hq, h1, hL, h2, h3⟩, st⟩ | ⟨q, vm₁, ⟨U', l2, c2, s2⟩, hW₁, X', ⟨g', mk, t, L, E, ce, e1, e2, hq, hce, hcv, hcl, h1, hL, h2, h3⟩, st⟩
  · dsimp only [Pt.U, Pt.locs, Pt.cells, Pt.slots] at X' e1 e2 h1 h2 h3 st
    subst h1; subst h2; subst h3
    exact Or.inl ⟨v, (T.setVm vm₁).calling g' mk As.toArray, t, U', L, hT, X', hL, e1, e2, hq, st⟩
  · dsimp only [Pt.U, Pt.locs, Pt.cells, Pt.slots] at X' e1 e2 h1 h2 h3 st hcl
    subst h1; subst h2; subst h3
    exact Or.inr ⟨q, (T.setVm vm₁).calling g' mk As.toArray, t, U', L, E, ce, hT, X', hL, e1, e2, hq, hce, hcv, vx_cls hW₁ hcl, st⟩
end
end VXH
theorem vx_ofWH {l : Launch} {y : MethodName} {ws ws' : List Cond} {rm : Room} {Pc : Array Value → State → Prop} {Qc : Array Value → State → Outcome → State → Prop} {XC : String → State → State → Prop} {mc ms : Nat} {free : Addr → Prop} {cc : ByteArray} {maxL : Nat} {ret : Option FieldType} {hh : List (Nat × Nat × Nat × Nat)}
    (hy : plainName y.cls = true) (hw : ws = Cond.codeWith y cc maxL ret hh :: ws')
    (body : ∀ p e s m args below meth c s₁, BodyLoose p l y (headSpec ws rm) cc maxL ret e s m args below meth c s₁ → c.maxLocals = maxL → Pc args s →
      W p l e (headSpec ws rm).room s m args below meth c s.heap [] 0 0 (vx_MQ below Qc XC args s mc ms free) (entryFrame m args maxL)) : vx_Met l y ws rm Pc Qc XC mc ms free := by
  refine MetFree.of_bodyS (code := cc) (maxLocals := maxL) (ret := ret) hy ?_ ?_
  · intro args s m h hn
    obtain ⟨m9, meth, c, hn9, h1, h2, h3, h4, -, h5, h6, -⟩ := Cond.codeWith_spec (atoms_spec (ws := ws) h _ (by rw [hw]; exact List.mem_cons_self))
    cases hn.symm.trans hn9
    exact ⟨meth, c, h1, h2, h3, h4, h5, h6⟩
  · intro p e s m args below meth c s₁ B hml hP _
    have hh0 : s₁.heap = s.heap := by rw [B.state]; rfl
    obtain ⟨t, a1, o, b1, b2, b3⟩ := body p e s m args below meth c s₁ B hml hP s₁ hh0 (Stand.of_body B)
    exact ⟨t, o, a1, b1, b2, b3⟩
/-! ===== END ===== -/
end
section
/-! ===== BEGIN printed: names, fields, word lists, decode rows ===== -/
def RX0 : String := "GraphSearch"
def TX0 : u_T := fun k => match k with
  | 0 => ("GraphSearch", "worths", "[I", true)
  | 1 => ("GraphSearch", "losts", "[Z", true)
  | 2 => ("GraphSearch", "moveCounts", "[I", true)
  | 3 => ("GraphSearch", "targets", "[I", true)
  | 4 => ("GraphSearch", "nodeCount", "I", false)
  | 5 => ("GraphSearch", "allMoves", "I", false)
  | 6 => ("GraphSearch", "table", "[[I", true)
  | 7 => ("GraphSearch", "rowsFound", "I", false)
  | 8 => ("GraphSearch", "met", "[I", true)
  | 9 => ("GraphSearch", "isMet", "[Z", true)
  | _ => ("GraphSearch", "metCount", "I", false)
def tyX0 : Nat → FieldType := fun k => match k with
  | 0 => .array .int
  | 1 => .array .boolean
  | 2 => .array .int
  | 3 => .array .int
  | 4 => .int
  | 5 => .int
  | 6 => .array (.array .int)
  | 7 => .int
  | 8 => .array .int
  | 9 => .array .boolean
  | _ => .int
abbrev wsX00 : List Cond := u_ws RX0 TX0 11
theorem nmX0 : ∀ a, a < 11 → ∀ b, b < 11 → a ≠ b → (TX0 a).2.1 ≠ (TX0 b).2.1 := by decide +kernel
theorem tyX0_ok : ∀ k, k < 11 → parseFieldDescriptor (TX0 k).2.2.1 = some (tyX0 k) := by decide +kernel
abbrev cX0_init : ByteArray := prog_1_method_1_code
def yX0_init : MethodName := ⟨RX0, "<init>", "(I)V"⟩
abbrev cX0_node : ByteArray := prog_1_method_2_code
def yX0_node : MethodName := ⟨RX0, "node", "(IZ)I"⟩
abbrev cX0_move : ByteArray := prog_1_method_3_code
def yX0_move : MethodName := ⟨RX0, "move", "(II)I"⟩
abbrev cX0_drop : ByteArray := prog_1_method_4_code
def yX0_drop : MethodName := ⟨RX0, "drop", "(I)Z"⟩
abbrev cX0_change : ByteArray := prog_1_method_5_code
def yX0_change : MethodName := ⟨RX0, "change", "(IIZ)Z"⟩
abbrev cX0_value : ByteArray := prog_1_method_6_code
def yX0_value : MethodName := ⟨RX0, "value", "(II)I"⟩
abbrev cX0_best : ByteArray := prog_1_method_7_code
def yX0_best : MethodName := ⟨RX0, "best", "(II)I"⟩
abbrev cX0_reaches : ByteArray := prog_1_method_8_code
def yX0_reaches : MethodName := ⟨RX0, "reaches", "(III)Z"⟩
abbrev cX0_line : ByteArray := prog_1_method_9_code
def yX0_line : MethodName := ⟨RX0, "line", "(III)I"⟩
abbrev cX0_ties : ByteArray := prog_1_method_10_code
def yX0_ties : MethodName := ⟨RX0, "ties", "(II)I"⟩
abbrev cX0_settled : ByteArray := prog_1_method_11_code
def yX0_settled : MethodName := ⟨RX0, "settled", "(II)I"⟩
abbrev cX0_of : ByteArray := prog_1_method_12_code
def yX0_of : MethodName := ⟨RX0, "of", "(II)I"⟩
abbrev cX0_around : ByteArray := prog_1_method_13_code
def yX0_around : MethodName := ⟨RX0, "around", "(II)I"⟩
abbrev cX0_look : ByteArray := prog_1_method_14_code
def yX0_look : MethodName := ⟨RX0, "look", "(I)I"⟩
abbrev cX0_isWorth : ByteArray := prog_1_method_15_code
def yX0_isWorth : MethodName := ⟨RX0, "isWorth", "(I)Z"⟩
abbrev cX0_isNode : ByteArray := prog_1_method_16_code
def yX0_isNode : MethodName := ⟨RX0, "isNode", "(I)Z"⟩
abbrev cX0_refuseWrongQuestion : ByteArray := prog_1_method_17_code
def yX0_refuseWrongQuestion : MethodName := ⟨RX0, "refuseWrongQuestion", "(II)V"⟩
abbrev cX0_place : ByteArray := prog_1_method_18_code
def yX0_place : MethodName := ⟨RX0, "place", "(II)I"⟩
abbrev cX0_targetOrNone : ByteArray := prog_1_method_19_code
def yX0_targetOrNone : MethodName := ⟨RX0, "targetOrNone", "(II)I"⟩
abbrev cX0_forgetTable : ByteArray := prog_1_method_20_code
def yX0_forgetTable : MethodName := ⟨RX0, "forgetTable", "()V"⟩
abbrev cX0_deepenTo : ByteArray := prog_1_method_21_code
def yX0_deepenTo : MethodName := ⟨RX0, "deepenTo", "(I)V"⟩
abbrev cX0_findRow : ByteArray := prog_1_method_22_code
def yX0_findRow : MethodName := ⟨RX0, "findRow", "(I)V"⟩
abbrev cX0_findValue : ByteArray := prog_1_method_23_code
def yX0_findValue : MethodName := ⟨RX0, "findValue", "(II)I"⟩
abbrev cX0_moveValue : ByteArray := prog_1_method_24_code
def yX0_moveValue : MethodName := ⟨RX0, "moveValue", "(III)I"⟩
abbrev cX0_halfMoveBack : ByteArray := prog_1_method_25_code
def yX0_halfMoveBack : MethodName := ⟨RX0, "halfMoveBack", "(I)I"⟩
abbrev cX0_bestMove : ByteArray := prog_1_method_26_code
def yX0_bestMove : MethodName := ⟨RX0, "bestMove", "(II)I"⟩
abbrev cX0_forgetMet : ByteArray := prog_1_method_27_code
def yX0_forgetMet : MethodName := ⟨RX0, "forgetMet", "()V"⟩
abbrev cX0_meet : ByteArray := prog_1_method_28_code
def yX0_meet : MethodName := ⟨RX0, "meet", "(I)V"⟩
abbrev cX0_meetTargets : ByteArray := prog_1_method_29_code
def yX0_meetTargets : MethodName := ⟨RX0, "meetTargets", "(I)V"⟩
def RX1 : String := "GraphSearchModel"
def TX1 : u_T := fun k => match k with
  | 0 => ("GraphSearchModel", "thrown", "I", false)
  | 1 => ("GraphSearchModel", "nodes", "I", false)
  | 2 => ("GraphSearchModel", "worth", "[I", true)
  | 3 => ("GraphSearchModel", "lost", "[Z", true)
  | 4 => ("GraphSearchModel", "many", "[I", true)
  | 5 => ("GraphSearchModel", "to", "[I", true)
  | 6 => ("GraphSearchModel", "values", "[I", true)
  | _ => ("GraphSearchModel", "near", "[I", true)
def tyX1 : Nat → FieldType := fun k => match k with
  | 0 => .int
  | 1 => .int
  | 2 => .array .int
  | 3 => .array .boolean
  | 4 => .array .int
  | 5 => .array .int
  | 6 => .array .int
  | _ => .array .int
abbrev wsX10 : List Cond := u_ws RX1 TX1 8
theorem nmX1 : ∀ a, a < 8 → ∀ b, b < 8 → a ≠ b → (TX1 a).2.1 ≠ (TX1 b).2.1 := by decide +kernel
theorem tyX1_ok : ∀ k, k < 8 → parseFieldDescriptor (TX1 k).2.2.1 = some (tyX1 k) := by decide +kernel
abbrev cX1_init : ByteArray := prog_3_method_1_code
def yX1_init : MethodName := ⟨RX1, "<init>", "(I)V"⟩
abbrev cX1_thrown : ByteArray := prog_3_method_2_code
def yX1_thrown : MethodName := ⟨RX1, "thrown", "()I"⟩
abbrev cX1_isNode : ByteArray := prog_3_method_3_code
def yX1_isNode : MethodName := ⟨RX1, "isNode", "(I)Z"⟩
abbrev cX1_isWorth : ByteArray := prog_3_method_4_code
def yX1_isWorth : MethodName := ⟨RX1, "isWorth", "(I)Z"⟩
abbrev cX1_node : ByteArray := prog_3_method_5_code
def yX1_node : MethodName := ⟨RX1, "node", "(IZ)I"⟩
abbrev cX1_move : ByteArray := prog_3_method_6_code
def yX1_move : MethodName := ⟨RX1, "move", "(II)I"⟩
abbrev cX1_drop : ByteArray := prog_3_method_7_code
def yX1_drop : MethodName := ⟨RX1, "drop", "(I)Z"⟩
abbrev cX1_change : ByteArray := prog_3_method_8_code
def yX1_change : MethodName := ⟨RX1, "change", "(IIZ)Z"⟩
abbrev cX1_behind : ByteArray := prog_3_method_9_code
def yX1_behind : MethodName := ⟨RX1, "behind", "(I)I"⟩
abbrev cX1_given : ByteArray := prog_3_method_10_code
def yX1_given : MethodName := ⟨RX1, "given", "(III)I"⟩
abbrev cX1_greatest : ByteArray := prog_3_method_11_code
def yX1_greatest : MethodName := ⟨RX1, "greatest", "(II)I"⟩
abbrev cX1_work : ByteArray := prog_3_method_12_code
def yX1_work : MethodName := ⟨RX1, "work", "(I)V"⟩
abbrev cX1_asked : ByteArray := prog_3_method_13_code
def yX1_asked : MethodName := ⟨RX1, "asked", "(II)Z"⟩
abbrev cX1_valueOf : ByteArray := prog_3_method_14_code
def yX1_valueOf : MethodName := ⟨RX1, "valueOf", "(II)I"⟩
abbrev cX1_value : ByteArray := prog_3_method_15_code
def yX1_value : MethodName := ⟨RX1, "value", "(II)I"⟩
abbrev cX1_bestOf : ByteArray := prog_3_method_16_code
def yX1_bestOf : MethodName := ⟨RX1, "bestOf", "(II)I"⟩
abbrev cX1_best : ByteArray := prog_3_method_17_code
def yX1_best : MethodName := ⟨RX1, "best", "(II)I"⟩
abbrev cX1_reaches : ByteArray := prog_3_method_18_code
def yX1_reaches : MethodName := ⟨RX1, "reaches", "(III)Z"⟩
abbrev cX1_line : ByteArray := prog_3_method_19_code
def yX1_line : MethodName := ⟨RX1, "line", "(III)I"⟩
abbrev cX1_ties : ByteArray := prog_3_method_20_code
def yX1_ties : MethodName := ⟨RX1, "ties", "(II)I"⟩
abbrev cX1_settled : ByteArray := prog_3_method_21_code
def yX1_settled : MethodName := ⟨RX1, "settled", "(II)I"⟩
abbrev cX1_of : ByteArray := prog_3_method_22_code
def yX1_of : MethodName := ⟨RX1, "of", "(II)I"⟩
abbrev cX1_around : ByteArray := prog_3_method_23_code
def yX1_around : MethodName := ⟨RX1, "around", "(II)I"⟩
abbrev cX1_look : ByteArray := prog_3_method_24_code
def yX1_look : MethodName := ⟨RX1, "look", "(I)I"⟩
def RJ9 : String := "java/lang/Math"
def TJ9 : u_T := fun k => match k with
  | _ => ("", "", "", false)
def tyJ9 : Nat → FieldType := fun k => match k with
  | _ => .int
abbrev wsJ90 : List Cond := u_ws RJ9 TJ9 0
theorem nmJ9 : ∀ a, a < 0 → ∀ b, b < 0 → a ≠ b → (TJ9 a).2.1 ≠ (TJ9 b).2.1 := by decide +kernel
theorem tyJ9_ok : ∀ k, k < 0 → parseFieldDescriptor (TJ9 k).2.2.1 = some (tyJ9 k) := by decide +kernel
abbrev cJ9_max_7cf53 : ByteArray := prog_7_method_65_code
def yJ9_max_7cf53 : MethodName := ⟨RJ9, "max", "(II)I"⟩
def RJ0 : String := "java/lang/String"
def TJ0 : u_T := fun k => match k with
  | _ => ("", "", "", false)
def tyJ0 : Nat → FieldType := fun k => match k with
  | _ => .int
abbrev wsJ00 : List Cond := u_ws RJ0 TJ0 0
theorem nmJ0 : ∀ a, a < 0 → ∀ b, b < 0 → a ≠ b → (TJ0 a).2.1 ≠ (TJ0 b).2.1 := by decide +kernel
theorem tyJ0_ok : ∀ k, k < 0 → parseFieldDescriptor (TJ0 k).2.2.1 = some (tyJ0 k) := by decide +kernel
def RL : String := "GraphSearchLaw"
abbrev cL_cell : ByteArray := method_2_code
def yL_cell : MethodName := ⟨RL, "cell", "([II)I"⟩
abbrev cL_node : ByteArray := method_3_code
def yL_node : MethodName := ⟨RL, "node", "(LGraphSearch;IZ[J)I"⟩
abbrev cL_move : ByteArray := method_4_code
def yL_move : MethodName := ⟨RL, "move", "(LGraphSearch;II[J)I"⟩
abbrev cL_value : ByteArray := method_5_code
def yL_value : MethodName := ⟨RL, "value", "(LGraphSearch;II[J)I"⟩
abbrev cL_best : ByteArray := method_6_code
def yL_best : MethodName := ⟨RL, "best", "(LGraphSearch;II[J)I"⟩
abbrev cL_reaches : ByteArray := method_7_code
def yL_reaches : MethodName := ⟨RL, "reaches", "(LGraphSearch;III[J)I"⟩
abbrev cL_line : ByteArray := method_8_code
def yL_line : MethodName := ⟨RL, "line", "(LGraphSearch;III[J)I"⟩
abbrev cL_ties : ByteArray := method_9_code
def yL_ties : MethodName := ⟨RL, "ties", "(LGraphSearch;II[J)I"⟩
abbrev cL_settled : ByteArray := method_10_code
def yL_settled : MethodName := ⟨RL, "settled", "(LGraphSearch;II[J)I"⟩
abbrev cL_around : ByteArray := method_11_code
def yL_around : MethodName := ⟨RL, "around", "(LGraphSearch;II[J)I"⟩
abbrev cL_law : ByteArray := code
def yL_law : MethodName := ⟨RL, "law", "([I)Z"⟩
def wsX0_init : List Cond := .code yX0_init cX0_init 2 none :: ([.methodLink RX0 1 objectInit, .instanceMethod objectInit, .code objectInit ⟨#[0xb1]⟩ 1 none, .arrayClass .int, .fieldLink RX0 9 "GraphSearch" "worths" "[I", .arrayClass .boolean, .fieldLink RX0 13 "GraphSearch" "losts" "[Z", .fieldLink RX0 17 "GraphSearch" "moveCounts" "[I", .fieldLink RX0 20 "GraphSearch" "targets" "[I", .fieldLink RX0 23 "GraphSearch" "nodeCount" "I", .fieldLink RX0 27 "GraphSearch" "allMoves" "I", .classLink RX0 30 "[[I", .fieldLink RX0 32 "GraphSearch" "table" "[[I", .fieldLink RX0 35 "GraphSearch" "rowsFound" "I", .fieldLink RX0 38 "GraphSearch" "met" "[I", .fieldLink RX0 41 "GraphSearch" "isMet" "[Z", .fieldLink RX0 44 "GraphSearch" "metCount" "I"] ++ wsX00)
def wsX0_isWorth : List Cond := .code yX0_isWorth cX0_isWorth 1 (some .boolean) :: ([])
def wsX0_forgetTable : List Cond := .code yX0_forgetTable cX0_forgetTable 1 none :: ([.fieldLink RX0 35 "GraphSearch" "rowsFound" "I"] ++ wsX00)
def wsX0_node : List Cond := .code yX0_node cX0_node 4 (some .int) :: ([.classLink RX0 51 "java/lang/IllegalArgumentException", .initialized "java/lang/IllegalArgumentException", .classLink RX0 58 "java/lang/IllegalStateException", .initialized "java/lang/IllegalStateException", .fieldLink RX0 23 "GraphSearch" "nodeCount" "I", .fieldLink RX0 9 "GraphSearch" "worths" "[I", .fieldLink RX0 13 "GraphSearch" "losts" "[Z", .methodLink RX0 47 yX0_isWorth, .static yX0_isWorth, .initialized RX0, .code yX0_isWorth cX0_isWorth 1 (some .boolean), .methodLink RX0 63 yX0_forgetTable, .instanceMethod yX0_forgetTable, .selects RX0 yX0_forgetTable yX0_forgetTable, .code yX0_forgetTable cX0_forgetTable 1 none, .fieldLink RX0 35 "GraphSearch" "rowsFound" "I"] ++ wsX00 ++ (vx_atS RX0 55 "java/lang/IllegalArgumentException" ["java/lang/RuntimeException", "java/lang/Exception"]).filter goodWord ++ (vx_atS RX0 62 "java/lang/IllegalStateException" ["java/lang/RuntimeException", "java/lang/Exception"]).filter goodWord)
def wsX0_isNode : List Cond := .code yX0_isNode cX0_isNode 2 (some .boolean) :: ([.fieldLink RX0 23 "GraphSearch" "nodeCount" "I"] ++ wsX00)
def wsX0_place : List Cond := .code yX0_place cX0_place 2 (some .int) :: ([])
def wsX0_move : List Cond := .code yX0_move cX0_move 4 (some .int) :: ([.classLink RX0 51 "java/lang/IllegalArgumentException", .initialized "java/lang/IllegalArgumentException", .classLink RX0 58 "java/lang/IllegalStateException", .initialized "java/lang/IllegalStateException", .fieldLink RX0 17 "GraphSearch" "moveCounts" "[I", .fieldLink RX0 20 "GraphSearch" "targets" "[I", .fieldLink RX0 27 "GraphSearch" "allMoves" "I", .methodLink RX0 66 yX0_isNode, .instanceMethod yX0_isNode, .selects RX0 yX0_isNode yX0_isNode, .initialized RX0, .code yX0_isNode cX0_isNode 2 (some .boolean), .fieldLink RX0 23 "GraphSearch" "nodeCount" "I", .methodLink RX0 73 yX0_place, .static yX0_place, .code yX0_place cX0_place 2 (some .int), .methodLink RX0 63 yX0_forgetTable, .instanceMethod yX0_forgetTable, .selects RX0 yX0_forgetTable yX0_forgetTable, .code yX0_forgetTable cX0_forgetTable 1 none, .fieldLink RX0 35 "GraphSearch" "rowsFound" "I"] ++ wsX00 ++ (vx_atS RX0 55 "java/lang/IllegalArgumentException" ["java/lang/RuntimeException", "java/lang/Exception"]).filter goodWord ++ (vx_atS RX0 62 "java/lang/IllegalStateException" ["java/lang/RuntimeException", "java/lang/Exception"]).filter goodWord)
def wsX0_drop : List Cond := .code yX0_drop cX0_drop 2 (some .boolean) :: ([.fieldLink RX0 17 "GraphSearch" "moveCounts" "[I", .fieldLink RX0 27 "GraphSearch" "allMoves" "I", .methodLink RX0 66 yX0_isNode, .instanceMethod yX0_isNode, .selects RX0 yX0_isNode yX0_isNode, .initialized RX0, .code yX0_isNode cX0_isNode 2 (some .boolean), .fieldLink RX0 23 "GraphSearch" "nodeCount" "I", .methodLink RX0 63 yX0_forgetTable, .instanceMethod yX0_forgetTable, .selects RX0 yX0_forgetTable yX0_forgetTable, .code yX0_forgetTable cX0_forgetTable 1 none, .fieldLink RX0 35 "GraphSearch" "rowsFound" "I"] ++ wsX00)
def wsX0_change : List Cond := .code yX0_change cX0_change 4 (some .boolean) :: ([.fieldLink RX0 9 "GraphSearch" "worths" "[I", .fieldLink RX0 13 "GraphSearch" "losts" "[Z", .methodLink RX0 66 yX0_isNode, .instanceMethod yX0_isNode, .selects RX0 yX0_isNode yX0_isNode, .initialized RX0, .code yX0_isNode cX0_isNode 2 (some .boolean), .fieldLink RX0 23 "GraphSearch" "nodeCount" "I", .methodLink RX0 47 yX0_isWorth, .static yX0_isWorth, .code yX0_isWorth cX0_isWorth 1 (some .boolean), .methodLink RX0 63 yX0_forgetTable, .instanceMethod yX0_forgetTable, .selects RX0 yX0_forgetTable yX0_forgetTable, .code yX0_forgetTable cX0_forgetTable 1 none, .fieldLink RX0 35 "GraphSearch" "rowsFound" "I"] ++ wsX00)
def wsX0_refuseWrongQuestion : List Cond := .code yX0_refuseWrongQuestion cX0_refuseWrongQuestion 3 none :: ([.classLink RX0 51 "java/lang/IllegalArgumentException", .initialized "java/lang/IllegalArgumentException", .methodLink RX0 66 yX0_isNode, .instanceMethod yX0_isNode, .selects RX0 yX0_isNode yX0_isNode, .initialized RX0, .code yX0_isNode cX0_isNode 2 (some .boolean), .fieldLink RX0 23 "GraphSearch" "nodeCount" "I"] ++ wsX00 ++ (vx_atS RX0 55 "java/lang/IllegalArgumentException" ["java/lang/RuntimeException", "java/lang/Exception"]).filter goodWord)
def wsX0_halfMoveBack : List Cond := .code yX0_halfMoveBack cX0_halfMoveBack 2 (some .int) :: ([])
def wsX0_moveValue : List Cond := .code yX0_moveValue cX0_moveValue 4 (some .int) :: ([.fieldLink RX0 32 "GraphSearch" "table" "[[I", .fieldLink RX0 20 "GraphSearch" "targets" "[I", .methodLink RX0 73 yX0_place, .static yX0_place, .initialized RX0, .code yX0_place cX0_place 2 (some .int), .methodLink RX0 117 yX0_halfMoveBack, .static yX0_halfMoveBack, .code yX0_halfMoveBack cX0_halfMoveBack 2 (some .int)] ++ wsX00)
def wsX0_findValue : List Cond := .code yX0_findValue cX0_findValue 5 (some .int) :: ([.fieldLink RX0 17 "GraphSearch" "moveCounts" "[I", .fieldLink RX0 13 "GraphSearch" "losts" "[Z", .fieldLink RX0 9 "GraphSearch" "worths" "[I", .methodLink RX0 112 Lib.Math.max.name, .static Lib.Math.max.name, .initialized "java/lang/Math", .code Lib.Math.max.name Lib.Math.max.code 2 (some .int), .methodLink RX0 88 yX0_moveValue, .instanceMethod yX0_moveValue, .selects RX0 yX0_moveValue yX0_moveValue, .initialized RX0, .code yX0_moveValue cX0_moveValue 4 (some .int), .fieldLink RX0 32 "GraphSearch" "table" "[[I", .fieldLink RX0 20 "GraphSearch" "targets" "[I", .methodLink RX0 73 yX0_place, .static yX0_place, .code yX0_place cX0_place 2 (some .int), .methodLink RX0 117 yX0_halfMoveBack, .static yX0_halfMoveBack, .code yX0_halfMoveBack cX0_halfMoveBack 2 (some .int)] ++ wsX00)
def wsX0_findRow_r1 : List Cond := [Cond.fieldLink RX0 23 "GraphSearch" "nodeCount" "I", Cond.fieldLink RX0 32 "GraphSearch" "table" "[[I", Cond.methodLink RX0 109 yX0_findValue, Cond.instanceMethod yX0_findValue, Cond.selects RX0 yX0_findValue yX0_findValue, Cond.initialized RX0, Cond.code yX0_findValue cX0_findValue 5 (some .int), Cond.fieldLink RX0 17 "GraphSearch" "moveCounts" "[I", Cond.fieldLink RX0 13 "GraphSearch" "losts" "[Z", Cond.fieldLink RX0 9 "GraphSearch" "worths" "[I", Cond.methodLink RX0 112 Lib.Math.max.name, Cond.static Lib.Math.max.name, Cond.initialized "java/lang/Math", Cond.code Lib.Math.max.name Lib.Math.max.code 2 (some .int), Cond.methodLink RX0 88 yX0_moveValue, Cond.instanceMethod yX0_moveValue, Cond.selects RX0 yX0_moveValue yX0_moveValue, Cond.code yX0_moveValue cX0_moveValue 4 (some .int), Cond.fieldLink RX0 20 "GraphSearch" "targets" "[I", Cond.methodLink RX0 73 yX0_place, Cond.static yX0_place, Cond.code yX0_place cX0_place 2 (some .int), Cond.methodLink RX0 117 yX0_halfMoveBack, Cond.static yX0_halfMoveBack]
def wsX0_findRow_r2 : List Cond := [Cond.code yX0_halfMoveBack cX0_halfMoveBack 2 (some .int)]
def wsX0_findRow : List Cond := .code yX0_findRow cX0_findRow 3 none :: ((wsX0_findRow_r1 ++ wsX0_findRow_r2) ++ wsX00)
def wsX0_deepenTo_r1 : List Cond := [Cond.fieldLink RX0 35 "GraphSearch" "rowsFound" "I", Cond.methodLink RX0 106 yX0_findRow, Cond.instanceMethod yX0_findRow, Cond.selects RX0 yX0_findRow yX0_findRow, Cond.initialized RX0, Cond.code yX0_findRow cX0_findRow 3 none, Cond.fieldLink RX0 23 "GraphSearch" "nodeCount" "I", Cond.fieldLink RX0 32 "GraphSearch" "table" "[[I", Cond.methodLink RX0 109 yX0_findValue, Cond.instanceMethod yX0_findValue, Cond.selects RX0 yX0_findValue yX0_findValue, Cond.code yX0_findValue cX0_findValue 5 (some .int), Cond.fieldLink RX0 17 "GraphSearch" "moveCounts" "[I", Cond.fieldLink RX0 13 "GraphSearch" "losts" "[Z", Cond.fieldLink RX0 9 "GraphSearch" "worths" "[I", Cond.methodLink RX0 112 Lib.Math.max.name, Cond.static Lib.Math.max.name, Cond.initialized "java/lang/Math", Cond.code Lib.Math.max.name Lib.Math.max.code 2 (some .int), Cond.methodLink RX0 88 yX0_moveValue, Cond.instanceMethod yX0_moveValue, Cond.selects RX0 yX0_moveValue yX0_moveValue, Cond.code yX0_moveValue cX0_moveValue 4 (some .int), Cond.fieldLink RX0 20 "GraphSearch" "targets" "[I"]
def wsX0_deepenTo_r2 : List Cond := [Cond.methodLink RX0 73 yX0_place, Cond.static yX0_place, Cond.code yX0_place cX0_place 2 (some .int), Cond.methodLink RX0 117 yX0_halfMoveBack, Cond.static yX0_halfMoveBack, Cond.code yX0_halfMoveBack cX0_halfMoveBack 2 (some .int)]
def wsX0_deepenTo : List Cond := .code yX0_deepenTo cX0_deepenTo 2 none :: ((wsX0_deepenTo_r1 ++ wsX0_deepenTo_r2) ++ wsX00)
def wsX0_value_r1 : List Cond := [Cond.fieldLink RX0 32 "GraphSearch" "table" "[[I", Cond.methodLink RX0 77 yX0_refuseWrongQuestion, Cond.instanceMethod yX0_refuseWrongQuestion, Cond.selects RX0 yX0_refuseWrongQuestion yX0_refuseWrongQuestion, Cond.initialized RX0, Cond.code yX0_refuseWrongQuestion cX0_refuseWrongQuestion 3 none, Cond.classLink RX0 51 "java/lang/IllegalArgumentException", Cond.initialized "java/lang/IllegalArgumentException", Cond.methodLink RX0 66 yX0_isNode, Cond.instanceMethod yX0_isNode, Cond.selects RX0 yX0_isNode yX0_isNode, Cond.code yX0_isNode cX0_isNode 2 (some .boolean), Cond.fieldLink RX0 23 "GraphSearch" "nodeCount" "I", Cond.methodLink RX0 81 yX0_deepenTo, Cond.instanceMethod yX0_deepenTo, Cond.selects RX0 yX0_deepenTo yX0_deepenTo, Cond.code yX0_deepenTo cX0_deepenTo 2 none, Cond.fieldLink RX0 35 "GraphSearch" "rowsFound" "I", Cond.methodLink RX0 106 yX0_findRow, Cond.instanceMethod yX0_findRow, Cond.selects RX0 yX0_findRow yX0_findRow, Cond.code yX0_findRow cX0_findRow 3 none, Cond.methodLink RX0 109 yX0_findValue, Cond.instanceMethod yX0_findValue]
def wsX0_value_r2 : List Cond := [Cond.selects RX0 yX0_findValue yX0_findValue, Cond.code yX0_findValue cX0_findValue 5 (some .int), Cond.fieldLink RX0 17 "GraphSearch" "moveCounts" "[I", Cond.fieldLink RX0 13 "GraphSearch" "losts" "[Z", Cond.fieldLink RX0 9 "GraphSearch" "worths" "[I", Cond.methodLink RX0 112 Lib.Math.max.name, Cond.static Lib.Math.max.name, Cond.initialized "java/lang/Math", Cond.code Lib.Math.max.name Lib.Math.max.code 2 (some .int), Cond.methodLink RX0 88 yX0_moveValue, Cond.instanceMethod yX0_moveValue, Cond.selects RX0 yX0_moveValue yX0_moveValue, Cond.code yX0_moveValue cX0_moveValue 4 (some .int), Cond.fieldLink RX0 20 "GraphSearch" "targets" "[I", Cond.methodLink RX0 73 yX0_place, Cond.static yX0_place, Cond.code yX0_place cX0_place 2 (some .int), Cond.methodLink RX0 117 yX0_halfMoveBack, Cond.static yX0_halfMoveBack, Cond.code yX0_halfMoveBack cX0_halfMoveBack 2 (some .int)]
def wsX0_value : List Cond := .code yX0_value cX0_value 3 (some .int) :: ((wsX0_value_r1 ++ wsX0_value_r2) ++ wsX00 ++ (vx_atS RX0 55 "java/lang/IllegalArgumentException" ["java/lang/RuntimeException", "java/lang/Exception"]).filter goodWord)
def wsX0_bestMove : List Cond := .code yX0_bestMove cX0_bestMove 4 (some .int) :: ([.fieldLink RX0 17 "GraphSearch" "moveCounts" "[I", .fieldLink RX0 32 "GraphSearch" "table" "[[I", .methodLink RX0 88 yX0_moveValue, .instanceMethod yX0_moveValue, .selects RX0 yX0_moveValue yX0_moveValue, .initialized RX0, .code yX0_moveValue cX0_moveValue 4 (some .int), .fieldLink RX0 20 "GraphSearch" "targets" "[I", .methodLink RX0 73 yX0_place, .static yX0_place, .code yX0_place cX0_place 2 (some .int), .methodLink RX0 117 yX0_halfMoveBack, .static yX0_halfMoveBack, .code yX0_halfMoveBack cX0_halfMoveBack 2 (some .int)] ++ wsX00)
def wsX0_best_r1 : List Cond := [Cond.methodLink RX0 77 yX0_refuseWrongQuestion, Cond.instanceMethod yX0_refuseWrongQuestion, Cond.selects RX0 yX0_refuseWrongQuestion yX0_refuseWrongQuestion, Cond.initialized RX0, Cond.code yX0_refuseWrongQuestion cX0_refuseWrongQuestion 3 none, Cond.classLink RX0 51 "java/lang/IllegalArgumentException", Cond.initialized "java/lang/IllegalArgumentException", Cond.methodLink RX0 66 yX0_isNode, Cond.instanceMethod yX0_isNode, Cond.selects RX0 yX0_isNode yX0_isNode, Cond.code yX0_isNode cX0_isNode 2 (some .boolean), Cond.fieldLink RX0 23 "GraphSearch" "nodeCount" "I", Cond.methodLink RX0 81 yX0_deepenTo, Cond.instanceMethod yX0_deepenTo, Cond.selects RX0 yX0_deepenTo yX0_deepenTo, Cond.code yX0_deepenTo cX0_deepenTo 2 none, Cond.fieldLink RX0 35 "GraphSearch" "rowsFound" "I", Cond.methodLink RX0 106 yX0_findRow, Cond.instanceMethod yX0_findRow, Cond.selects RX0 yX0_findRow yX0_findRow, Cond.code yX0_findRow cX0_findRow 3 none, Cond.fieldLink RX0 32 "GraphSearch" "table" "[[I", Cond.methodLink RX0 109 yX0_findValue, Cond.instanceMethod yX0_findValue]
def wsX0_best_r2 : List Cond := [Cond.selects RX0 yX0_findValue yX0_findValue, Cond.code yX0_findValue cX0_findValue 5 (some .int), Cond.fieldLink RX0 17 "GraphSearch" "moveCounts" "[I", Cond.fieldLink RX0 13 "GraphSearch" "losts" "[Z", Cond.fieldLink RX0 9 "GraphSearch" "worths" "[I", Cond.methodLink RX0 112 Lib.Math.max.name, Cond.static Lib.Math.max.name, Cond.initialized "java/lang/Math", Cond.code Lib.Math.max.name Lib.Math.max.code 2 (some .int), Cond.methodLink RX0 88 yX0_moveValue, Cond.instanceMethod yX0_moveValue, Cond.selects RX0 yX0_moveValue yX0_moveValue, Cond.code yX0_moveValue cX0_moveValue 4 (some .int), Cond.fieldLink RX0 20 "GraphSearch" "targets" "[I", Cond.methodLink RX0 73 yX0_place, Cond.static yX0_place, Cond.code yX0_place cX0_place 2 (some .int), Cond.methodLink RX0 117 yX0_halfMoveBack, Cond.static yX0_halfMoveBack, Cond.code yX0_halfMoveBack cX0_halfMoveBack 2 (some .int), Cond.methodLink RX0 85 yX0_bestMove, Cond.instanceMethod yX0_bestMove, Cond.selects RX0 yX0_bestMove yX0_bestMove, Cond.code yX0_bestMove cX0_bestMove 4 (some .int)]
def wsX0_best : List Cond := .code yX0_best cX0_best 3 (some .int) :: ((wsX0_best_r1 ++ wsX0_best_r2) ++ wsX00 ++ (vx_atS RX0 55 "java/lang/IllegalArgumentException" ["java/lang/RuntimeException", "java/lang/Exception"]).filter goodWord)
def wsX0_reaches_r1 : List Cond := [Cond.fieldLink RX0 32 "GraphSearch" "table" "[[I", Cond.methodLink RX0 77 yX0_refuseWrongQuestion, Cond.instanceMethod yX0_refuseWrongQuestion, Cond.selects RX0 yX0_refuseWrongQuestion yX0_refuseWrongQuestion, Cond.initialized RX0, Cond.code yX0_refuseWrongQuestion cX0_refuseWrongQuestion 3 none, Cond.classLink RX0 51 "java/lang/IllegalArgumentException", Cond.initialized "java/lang/IllegalArgumentException", Cond.methodLink RX0 66 yX0_isNode, Cond.instanceMethod yX0_isNode, Cond.selects RX0 yX0_isNode yX0_isNode, Cond.code yX0_isNode cX0_isNode 2 (some .boolean), Cond.fieldLink RX0 23 "GraphSearch" "nodeCount" "I", Cond.methodLink RX0 81 yX0_deepenTo, Cond.instanceMethod yX0_deepenTo, Cond.selects RX0 yX0_deepenTo yX0_deepenTo, Cond.code yX0_deepenTo cX0_deepenTo 2 none, Cond.fieldLink RX0 35 "GraphSearch" "rowsFound" "I", Cond.methodLink RX0 106 yX0_findRow, Cond.instanceMethod yX0_findRow, Cond.selects RX0 yX0_findRow yX0_findRow, Cond.code yX0_findRow cX0_findRow 3 none, Cond.methodLink RX0 109 yX0_findValue, Cond.instanceMethod yX0_findValue]
def wsX0_reaches_r2 : List Cond := [Cond.selects RX0 yX0_findValue yX0_findValue, Cond.code yX0_findValue cX0_findValue 5 (some .int), Cond.fieldLink RX0 17 "GraphSearch" "moveCounts" "[I", Cond.fieldLink RX0 13 "GraphSearch" "losts" "[Z", Cond.fieldLink RX0 9 "GraphSearch" "worths" "[I", Cond.methodLink RX0 112 Lib.Math.max.name, Cond.static Lib.Math.max.name, Cond.initialized "java/lang/Math", Cond.code Lib.Math.max.name Lib.Math.max.code 2 (some .int), Cond.methodLink RX0 88 yX0_moveValue, Cond.instanceMethod yX0_moveValue, Cond.selects RX0 yX0_moveValue yX0_moveValue, Cond.code yX0_moveValue cX0_moveValue 4 (some .int), Cond.fieldLink RX0 20 "GraphSearch" "targets" "[I", Cond.methodLink RX0 73 yX0_place, Cond.static yX0_place, Cond.code yX0_place cX0_place 2 (some .int), Cond.methodLink RX0 117 yX0_halfMoveBack, Cond.static yX0_halfMoveBack, Cond.code yX0_halfMoveBack cX0_halfMoveBack 2 (some .int)]
def wsX0_reaches : List Cond := .code yX0_reaches cX0_reaches 4 (some .boolean) :: ((wsX0_reaches_r1 ++ wsX0_reaches_r2) ++ wsX00 ++ (vx_atS RX0 55 "java/lang/IllegalArgumentException" ["java/lang/RuntimeException", "java/lang/Exception"]).filter goodWord)
def wsX0_line_r1 : List Cond := [Cond.fieldLink RX0 20 "GraphSearch" "targets" "[I", Cond.methodLink RX0 77 yX0_refuseWrongQuestion, Cond.instanceMethod yX0_refuseWrongQuestion, Cond.selects RX0 yX0_refuseWrongQuestion yX0_refuseWrongQuestion, Cond.initialized RX0, Cond.code yX0_refuseWrongQuestion cX0_refuseWrongQuestion 3 none, Cond.classLink RX0 51 "java/lang/IllegalArgumentException", Cond.initialized "java/lang/IllegalArgumentException", Cond.methodLink RX0 66 yX0_isNode, Cond.instanceMethod yX0_isNode, Cond.selects RX0 yX0_isNode yX0_isNode, Cond.code yX0_isNode cX0_isNode 2 (some .boolean), Cond.fieldLink RX0 23 "GraphSearch" "nodeCount" "I", Cond.methodLink RX0 81 yX0_deepenTo, Cond.instanceMethod yX0_deepenTo, Cond.selects RX0 yX0_deepenTo yX0_deepenTo, Cond.code yX0_deepenTo cX0_deepenTo 2 none, Cond.fieldLink RX0 35 "GraphSearch" "rowsFound" "I", Cond.methodLink RX0 106 yX0_findRow, Cond.instanceMethod yX0_findRow, Cond.selects RX0 yX0_findRow yX0_findRow, Cond.code yX0_findRow cX0_findRow 3 none, Cond.fieldLink RX0 32 "GraphSearch" "table" "[[I", Cond.methodLink RX0 109 yX0_findValue]
def wsX0_line_r2 : List Cond := [Cond.instanceMethod yX0_findValue, Cond.selects RX0 yX0_findValue yX0_findValue, Cond.code yX0_findValue cX0_findValue 5 (some .int), Cond.fieldLink RX0 17 "GraphSearch" "moveCounts" "[I", Cond.fieldLink RX0 13 "GraphSearch" "losts" "[Z", Cond.fieldLink RX0 9 "GraphSearch" "worths" "[I", Cond.methodLink RX0 112 Lib.Math.max.name, Cond.static Lib.Math.max.name, Cond.initialized "java/lang/Math", Cond.code Lib.Math.max.name Lib.Math.max.code 2 (some .int), Cond.methodLink RX0 88 yX0_moveValue, Cond.instanceMethod yX0_moveValue, Cond.selects RX0 yX0_moveValue yX0_moveValue, Cond.code yX0_moveValue cX0_moveValue 4 (some .int), Cond.methodLink RX0 73 yX0_place, Cond.static yX0_place, Cond.code yX0_place cX0_place 2 (some .int), Cond.methodLink RX0 117 yX0_halfMoveBack, Cond.static yX0_halfMoveBack, Cond.code yX0_halfMoveBack cX0_halfMoveBack 2 (some .int), Cond.methodLink RX0 85 yX0_bestMove, Cond.instanceMethod yX0_bestMove, Cond.selects RX0 yX0_bestMove yX0_bestMove, Cond.code yX0_bestMove cX0_bestMove 4 (some .int)]
def wsX0_line : List Cond := .code yX0_line cX0_line 7 (some .int) :: ((wsX0_line_r1 ++ wsX0_line_r2) ++ wsX00 ++ (vx_atS RX0 55 "java/lang/IllegalArgumentException" ["java/lang/RuntimeException", "java/lang/Exception"]).filter goodWord)
def wsX0_ties_r1 : List Cond := [Cond.fieldLink RX0 17 "GraphSearch" "moveCounts" "[I", Cond.fieldLink RX0 32 "GraphSearch" "table" "[[I", Cond.methodLink RX0 77 yX0_refuseWrongQuestion, Cond.instanceMethod yX0_refuseWrongQuestion, Cond.selects RX0 yX0_refuseWrongQuestion yX0_refuseWrongQuestion, Cond.initialized RX0, Cond.code yX0_refuseWrongQuestion cX0_refuseWrongQuestion 3 none, Cond.classLink RX0 51 "java/lang/IllegalArgumentException", Cond.initialized "java/lang/IllegalArgumentException", Cond.methodLink RX0 66 yX0_isNode, Cond.instanceMethod yX0_isNode, Cond.selects RX0 yX0_isNode yX0_isNode, Cond.code yX0_isNode cX0_isNode 2 (some .boolean), Cond.fieldLink RX0 23 "GraphSearch" "nodeCount" "I", Cond.methodLink RX0 81 yX0_deepenTo, Cond.instanceMethod yX0_deepenTo, Cond.selects RX0 yX0_deepenTo yX0_deepenTo, Cond.code yX0_deepenTo cX0_deepenTo 2 none, Cond.fieldLink RX0 35 "GraphSearch" "rowsFound" "I", Cond.methodLink RX0 106 yX0_findRow, Cond.instanceMethod yX0_findRow, Cond.selects RX0 yX0_findRow yX0_findRow, Cond.code yX0_findRow cX0_findRow 3 none, Cond.methodLink RX0 109 yX0_findValue]
def wsX0_ties_r2 : List Cond := [Cond.instanceMethod yX0_findValue, Cond.selects RX0 yX0_findValue yX0_findValue, Cond.code yX0_findValue cX0_findValue 5 (some .int), Cond.fieldLink RX0 13 "GraphSearch" "losts" "[Z", Cond.fieldLink RX0 9 "GraphSearch" "worths" "[I", Cond.methodLink RX0 112 Lib.Math.max.name, Cond.static Lib.Math.max.name, Cond.initialized "java/lang/Math", Cond.code Lib.Math.max.name Lib.Math.max.code 2 (some .int), Cond.methodLink RX0 88 yX0_moveValue, Cond.instanceMethod yX0_moveValue, Cond.selects RX0 yX0_moveValue yX0_moveValue, Cond.code yX0_moveValue cX0_moveValue 4 (some .int), Cond.fieldLink RX0 20 "GraphSearch" "targets" "[I", Cond.methodLink RX0 73 yX0_place, Cond.static yX0_place, Cond.code yX0_place cX0_place 2 (some .int), Cond.methodLink RX0 117 yX0_halfMoveBack, Cond.static yX0_halfMoveBack, Cond.code yX0_halfMoveBack cX0_halfMoveBack 2 (some .int)]
def wsX0_ties : List Cond := .code yX0_ties cX0_ties 5 (some .int) :: ((wsX0_ties_r1 ++ wsX0_ties_r2) ++ wsX00 ++ (vx_atS RX0 55 "java/lang/IllegalArgumentException" ["java/lang/RuntimeException", "java/lang/Exception"]).filter goodWord)
def wsX0_settled_r1 : List Cond := [Cond.fieldLink RX0 32 "GraphSearch" "table" "[[I", Cond.methodLink RX0 77 yX0_refuseWrongQuestion, Cond.instanceMethod yX0_refuseWrongQuestion, Cond.selects RX0 yX0_refuseWrongQuestion yX0_refuseWrongQuestion, Cond.initialized RX0, Cond.code yX0_refuseWrongQuestion cX0_refuseWrongQuestion 3 none, Cond.classLink RX0 51 "java/lang/IllegalArgumentException", Cond.initialized "java/lang/IllegalArgumentException", Cond.methodLink RX0 66 yX0_isNode, Cond.instanceMethod yX0_isNode, Cond.selects RX0 yX0_isNode yX0_isNode, Cond.code yX0_isNode cX0_isNode 2 (some .boolean), Cond.fieldLink RX0 23 "GraphSearch" "nodeCount" "I", Cond.methodLink RX0 81 yX0_deepenTo, Cond.instanceMethod yX0_deepenTo, Cond.selects RX0 yX0_deepenTo yX0_deepenTo, Cond.code yX0_deepenTo cX0_deepenTo 2 none, Cond.fieldLink RX0 35 "GraphSearch" "rowsFound" "I", Cond.methodLink RX0 106 yX0_findRow, Cond.instanceMethod yX0_findRow, Cond.selects RX0 yX0_findRow yX0_findRow, Cond.code yX0_findRow cX0_findRow 3 none, Cond.methodLink RX0 109 yX0_findValue, Cond.instanceMethod yX0_findValue]
def wsX0_settled_r2 : List Cond := [Cond.selects RX0 yX0_findValue yX0_findValue, Cond.code yX0_findValue cX0_findValue 5 (some .int), Cond.fieldLink RX0 17 "GraphSearch" "moveCounts" "[I", Cond.fieldLink RX0 13 "GraphSearch" "losts" "[Z", Cond.fieldLink RX0 9 "GraphSearch" "worths" "[I", Cond.methodLink RX0 112 Lib.Math.max.name, Cond.static Lib.Math.max.name, Cond.initialized "java/lang/Math", Cond.code Lib.Math.max.name Lib.Math.max.code 2 (some .int), Cond.methodLink RX0 88 yX0_moveValue, Cond.instanceMethod yX0_moveValue, Cond.selects RX0 yX0_moveValue yX0_moveValue, Cond.code yX0_moveValue cX0_moveValue 4 (some .int), Cond.fieldLink RX0 20 "GraphSearch" "targets" "[I", Cond.methodLink RX0 73 yX0_place, Cond.static yX0_place, Cond.code yX0_place cX0_place 2 (some .int), Cond.methodLink RX0 117 yX0_halfMoveBack, Cond.static yX0_halfMoveBack, Cond.code yX0_halfMoveBack cX0_halfMoveBack 2 (some .int)]
def wsX0_settled : List Cond := .code yX0_settled cX0_settled 4 (some .int) :: ((wsX0_settled_r1 ++ wsX0_settled_r2) ++ wsX00 ++ (vx_atS RX0 55 "java/lang/IllegalArgumentException" ["java/lang/RuntimeException", "java/lang/Exception"]).filter goodWord)
def wsX0_targetOrNone : List Cond := .code yX0_targetOrNone cX0_targetOrNone 3 (some .int) :: ([.fieldLink RX0 17 "GraphSearch" "moveCounts" "[I", .fieldLink RX0 20 "GraphSearch" "targets" "[I", .methodLink RX0 73 yX0_place, .static yX0_place, .initialized RX0, .code yX0_place cX0_place 2 (some .int)] ++ wsX00)
def wsX0_of : List Cond := .code yX0_of cX0_of 3 (some .int) :: ([.fieldLink RX0 9 "GraphSearch" "worths" "[I", .fieldLink RX0 13 "GraphSearch" "losts" "[Z", .fieldLink RX0 17 "GraphSearch" "moveCounts" "[I", .methodLink RX0 66 yX0_isNode, .instanceMethod yX0_isNode, .selects RX0 yX0_isNode yX0_isNode, .initialized RX0, .code yX0_isNode cX0_isNode 2 (some .boolean), .fieldLink RX0 23 "GraphSearch" "nodeCount" "I", .methodLink RX0 92 yX0_targetOrNone, .instanceMethod yX0_targetOrNone, .selects RX0 yX0_targetOrNone yX0_targetOrNone, .code yX0_targetOrNone cX0_targetOrNone 3 (some .int), .fieldLink RX0 20 "GraphSearch" "targets" "[I", .methodLink RX0 73 yX0_place, .static yX0_place, .code yX0_place cX0_place 2 (some .int)] ++ wsX00)
def wsX0_forgetMet : List Cond := .code yX0_forgetMet cX0_forgetMet 2 none :: ([.fieldLink RX0 44 "GraphSearch" "metCount" "I", .fieldLink RX0 41 "GraphSearch" "isMet" "[Z", .fieldLink RX0 38 "GraphSearch" "met" "[I"] ++ wsX00)
def wsX0_meet : List Cond := .code yX0_meet cX0_meet 2 none :: ([.fieldLink RX0 41 "GraphSearch" "isMet" "[Z", .fieldLink RX0 38 "GraphSearch" "met" "[I", .fieldLink RX0 44 "GraphSearch" "metCount" "I"] ++ wsX00)
def wsX0_meetTargets : List Cond := .code yX0_meetTargets cX0_meetTargets 3 none :: ([.fieldLink RX0 17 "GraphSearch" "moveCounts" "[I", .fieldLink RX0 20 "GraphSearch" "targets" "[I", .methodLink RX0 73 yX0_place, .static yX0_place, .initialized RX0, .code yX0_place cX0_place 2 (some .int), .methodLink RX0 98 yX0_meet, .instanceMethod yX0_meet, .selects RX0 yX0_meet yX0_meet, .code yX0_meet cX0_meet 2 none, .fieldLink RX0 41 "GraphSearch" "isMet" "[Z", .fieldLink RX0 38 "GraphSearch" "met" "[I", .fieldLink RX0 44 "GraphSearch" "metCount" "I"] ++ wsX00)
def wsX0_around_r1 : List Cond := [Cond.fieldLink RX0 44 "GraphSearch" "metCount" "I", Cond.fieldLink RX0 38 "GraphSearch" "met" "[I", Cond.methodLink RX0 77 yX0_refuseWrongQuestion, Cond.instanceMethod yX0_refuseWrongQuestion, Cond.selects RX0 yX0_refuseWrongQuestion yX0_refuseWrongQuestion, Cond.initialized RX0, Cond.code yX0_refuseWrongQuestion cX0_refuseWrongQuestion 3 none, Cond.classLink RX0 51 "java/lang/IllegalArgumentException", Cond.initialized "java/lang/IllegalArgumentException", Cond.methodLink RX0 66 yX0_isNode, Cond.instanceMethod yX0_isNode, Cond.selects RX0 yX0_isNode yX0_isNode, Cond.code yX0_isNode cX0_isNode 2 (some .boolean), Cond.fieldLink RX0 23 "GraphSearch" "nodeCount" "I", Cond.methodLink RX0 95 yX0_forgetMet, Cond.instanceMethod yX0_forgetMet, Cond.selects RX0 yX0_forgetMet yX0_forgetMet, Cond.code yX0_forgetMet cX0_forgetMet 2 none, Cond.fieldLink RX0 41 "GraphSearch" "isMet" "[Z", Cond.methodLink RX0 98 yX0_meet, Cond.instanceMethod yX0_meet, Cond.selects RX0 yX0_meet yX0_meet, Cond.code yX0_meet cX0_meet 2 none, Cond.methodLink RX0 101 yX0_meetTargets]
def wsX0_around_r2 : List Cond := [Cond.instanceMethod yX0_meetTargets, Cond.selects RX0 yX0_meetTargets yX0_meetTargets, Cond.code yX0_meetTargets cX0_meetTargets 3 none, Cond.fieldLink RX0 17 "GraphSearch" "moveCounts" "[I", Cond.fieldLink RX0 20 "GraphSearch" "targets" "[I", Cond.methodLink RX0 73 yX0_place, Cond.static yX0_place, Cond.code yX0_place cX0_place 2 (some .int)]
def wsX0_around : List Cond := .code yX0_around cX0_around 6 (some .int) :: ((wsX0_around_r1 ++ wsX0_around_r2) ++ wsX00 ++ (vx_atS RX0 55 "java/lang/IllegalArgumentException" ["java/lang/RuntimeException", "java/lang/Exception"]).filter goodWord)
def wsX0_look : List Cond := .code yX0_look cX0_look 2 (some .int) :: ([.fieldLink RX0 23 "GraphSearch" "nodeCount" "I", .fieldLink RX0 27 "GraphSearch" "allMoves" "I"] ++ wsX00)
def wsX1_init : List Cond := .code yX1_init cX1_init 2 none :: ([.methodLink RX1 1 objectInit, .instanceMethod objectInit, .code objectInit ⟨#[0xb1]⟩ 1 none, .arrayClass .int, .fieldLink RX1 7 "GraphSearchModel" "worth" "[I", .arrayClass .boolean, .fieldLink RX1 13 "GraphSearchModel" "lost" "[Z", .fieldLink RX1 17 "GraphSearchModel" "many" "[I", .fieldLink RX1 20 "GraphSearchModel" "to" "[I", .fieldLink RX1 23 "GraphSearchModel" "values" "[I", .fieldLink RX1 26 "GraphSearchModel" "near" "[I"] ++ wsX10)
def wsX1_thrown : List Cond := .code yX1_thrown cX1_thrown 1 (some .int) :: ([.fieldLink RX1 29 "GraphSearchModel" "thrown" "I"] ++ wsX10)
def wsX1_isNode : List Cond := .code yX1_isNode cX1_isNode 2 (some .boolean) :: ([.fieldLink RX1 33 "GraphSearchModel" "nodes" "I"] ++ wsX10)
def wsX1_isWorth : List Cond := .code yX1_isWorth cX1_isWorth 1 (some .boolean) :: ([])
def wsX1_node : List Cond := .code yX1_node cX1_node 3 (some .int) :: ([.fieldLink RX1 33 "GraphSearchModel" "nodes" "I", .fieldLink RX1 29 "GraphSearchModel" "thrown" "I", .fieldLink RX1 7 "GraphSearchModel" "worth" "[I", .fieldLink RX1 13 "GraphSearchModel" "lost" "[Z", .fieldLink RX1 17 "GraphSearchModel" "many" "[I", .methodLink RX1 36 yX1_isWorth, .static yX1_isWorth, .initialized RX1, .code yX1_isWorth cX1_isWorth 1 (some .boolean)] ++ wsX10)
def wsX1_move : List Cond := .code yX1_move cX1_move 3 (some .int) :: ([.fieldLink RX1 29 "GraphSearchModel" "thrown" "I", .fieldLink RX1 17 "GraphSearchModel" "many" "[I", .fieldLink RX1 20 "GraphSearchModel" "to" "[I", .methodLink RX1 40 yX1_isNode, .instanceMethod yX1_isNode, .selects RX1 yX1_isNode yX1_isNode, .initialized RX1, .code yX1_isNode cX1_isNode 2 (some .boolean), .fieldLink RX1 33 "GraphSearchModel" "nodes" "I"] ++ wsX10)
def wsX1_drop : List Cond := .code yX1_drop cX1_drop 2 (some .boolean) :: ([.fieldLink RX1 29 "GraphSearchModel" "thrown" "I", .fieldLink RX1 17 "GraphSearchModel" "many" "[I", .methodLink RX1 40 yX1_isNode, .instanceMethod yX1_isNode, .selects RX1 yX1_isNode yX1_isNode, .initialized RX1, .code yX1_isNode cX1_isNode 2 (some .boolean), .fieldLink RX1 33 "GraphSearchModel" "nodes" "I"] ++ wsX10)
def wsX1_change : List Cond := .code yX1_change cX1_change 4 (some .boolean) :: ([.fieldLink RX1 29 "GraphSearchModel" "thrown" "I", .fieldLink RX1 7 "GraphSearchModel" "worth" "[I", .fieldLink RX1 13 "GraphSearchModel" "lost" "[Z", .methodLink RX1 40 yX1_isNode, .instanceMethod yX1_isNode, .selects RX1 yX1_isNode yX1_isNode, .initialized RX1, .code yX1_isNode cX1_isNode 2 (some .boolean), .fieldLink RX1 33 "GraphSearchModel" "nodes" "I", .methodLink RX1 36 yX1_isWorth, .static yX1_isWorth, .code yX1_isWorth cX1_isWorth 1 (some .boolean)] ++ wsX10)
def wsX1_behind : List Cond := .code yX1_behind cX1_behind 1 (some .int) :: ([])
def wsX1_given : List Cond := .code yX1_given cX1_given 4 (some .int) :: ([.fieldLink RX1 23 "GraphSearchModel" "values" "[I", .fieldLink RX1 20 "GraphSearchModel" "to" "[I", .methodLink RX1 43 yX1_behind, .static yX1_behind, .initialized RX1, .code yX1_behind cX1_behind 1 (some .int)] ++ wsX10)
def wsX1_greatest : List Cond := .code yX1_greatest cX1_greatest 5 (some .int) :: ([.fieldLink RX1 17 "GraphSearchModel" "many" "[I", .methodLink RX1 47 yX1_given, .instanceMethod yX1_given, .selects RX1 yX1_given yX1_given, .initialized RX1, .code yX1_given cX1_given 4 (some .int), .fieldLink RX1 23 "GraphSearchModel" "values" "[I", .fieldLink RX1 20 "GraphSearchModel" "to" "[I", .methodLink RX1 43 yX1_behind, .static yX1_behind, .code yX1_behind cX1_behind 1 (some .int)] ++ wsX10)
def wsX1_work : List Cond := .code yX1_work cX1_work 5 none :: ([.fieldLink RX1 33 "GraphSearchModel" "nodes" "I", .fieldLink RX1 13 "GraphSearchModel" "lost" "[Z", .fieldLink RX1 23 "GraphSearchModel" "values" "[I", .fieldLink RX1 17 "GraphSearchModel" "many" "[I", .fieldLink RX1 7 "GraphSearchModel" "worth" "[I", .methodLink RX1 51 yX1_greatest, .instanceMethod yX1_greatest, .selects RX1 yX1_greatest yX1_greatest, .initialized RX1, .code yX1_greatest cX1_greatest 5 (some .int), .methodLink RX1 47 yX1_given, .instanceMethod yX1_given, .selects RX1 yX1_given yX1_given, .code yX1_given cX1_given 4 (some .int), .fieldLink RX1 20 "GraphSearchModel" "to" "[I", .methodLink RX1 43 yX1_behind, .static yX1_behind, .code yX1_behind cX1_behind 1 (some .int)] ++ wsX10)
def wsX1_asked_r1 : List Cond := [Cond.fieldLink RX1 29 "GraphSearchModel" "thrown" "I", Cond.methodLink RX1 40 yX1_isNode, Cond.instanceMethod yX1_isNode, Cond.selects RX1 yX1_isNode yX1_isNode, Cond.initialized RX1, Cond.code yX1_isNode cX1_isNode 2 (some .boolean), Cond.fieldLink RX1 33 "GraphSearchModel" "nodes" "I", Cond.methodLink RX1 55 yX1_work, Cond.instanceMethod yX1_work, Cond.selects RX1 yX1_work yX1_work, Cond.code yX1_work cX1_work 5 none, Cond.fieldLink RX1 13 "GraphSearchModel" "lost" "[Z", Cond.fieldLink RX1 23 "GraphSearchModel" "values" "[I", Cond.fieldLink RX1 17 "GraphSearchModel" "many" "[I", Cond.fieldLink RX1 7 "GraphSearchModel" "worth" "[I", Cond.methodLink RX1 51 yX1_greatest, Cond.instanceMethod yX1_greatest, Cond.selects RX1 yX1_greatest yX1_greatest, Cond.code yX1_greatest cX1_greatest 5 (some .int), Cond.methodLink RX1 47 yX1_given, Cond.instanceMethod yX1_given, Cond.selects RX1 yX1_given yX1_given, Cond.code yX1_given cX1_given 4 (some .int), Cond.fieldLink RX1 20 "GraphSearchModel" "to" "[I"]
def wsX1_asked_r2 : List Cond := [Cond.methodLink RX1 43 yX1_behind, Cond.static yX1_behind, Cond.code yX1_behind cX1_behind 1 (some .int)]
def wsX1_asked : List Cond := .code yX1_asked cX1_asked 3 (some .boolean) :: ((wsX1_asked_r1 ++ wsX1_asked_r2) ++ wsX10)
def wsX1_valueOf : List Cond := .code yX1_valueOf cX1_valueOf 3 (some .int) :: ([.fieldLink RX1 23 "GraphSearchModel" "values" "[I"] ++ wsX10)
def wsX1_value_r1 : List Cond := [Cond.methodLink RX1 59 yX1_asked, Cond.instanceMethod yX1_asked, Cond.selects RX1 yX1_asked yX1_asked, Cond.initialized RX1, Cond.code yX1_asked cX1_asked 3 (some .boolean), Cond.fieldLink RX1 29 "GraphSearchModel" "thrown" "I", Cond.methodLink RX1 40 yX1_isNode, Cond.instanceMethod yX1_isNode, Cond.selects RX1 yX1_isNode yX1_isNode, Cond.code yX1_isNode cX1_isNode 2 (some .boolean), Cond.fieldLink RX1 33 "GraphSearchModel" "nodes" "I", Cond.methodLink RX1 55 yX1_work, Cond.instanceMethod yX1_work, Cond.selects RX1 yX1_work yX1_work, Cond.code yX1_work cX1_work 5 none, Cond.fieldLink RX1 13 "GraphSearchModel" "lost" "[Z", Cond.fieldLink RX1 23 "GraphSearchModel" "values" "[I", Cond.fieldLink RX1 17 "GraphSearchModel" "many" "[I", Cond.fieldLink RX1 7 "GraphSearchModel" "worth" "[I", Cond.methodLink RX1 51 yX1_greatest, Cond.instanceMethod yX1_greatest, Cond.selects RX1 yX1_greatest yX1_greatest, Cond.code yX1_greatest cX1_greatest 5 (some .int), Cond.methodLink RX1 47 yX1_given]
def wsX1_value_r2 : List Cond := [Cond.instanceMethod yX1_given, Cond.selects RX1 yX1_given yX1_given, Cond.code yX1_given cX1_given 4 (some .int), Cond.fieldLink RX1 20 "GraphSearchModel" "to" "[I", Cond.methodLink RX1 43 yX1_behind, Cond.static yX1_behind, Cond.code yX1_behind cX1_behind 1 (some .int), Cond.methodLink RX1 63 yX1_valueOf, Cond.instanceMethod yX1_valueOf, Cond.selects RX1 yX1_valueOf yX1_valueOf, Cond.code yX1_valueOf cX1_valueOf 3 (some .int)]
def wsX1_value : List Cond := .code yX1_value cX1_value 3 (some .int) :: ((wsX1_value_r1 ++ wsX1_value_r2) ++ wsX10)
def wsX1_bestOf : List Cond := .code yX1_bestOf cX1_bestOf 4 (some .int) :: ([.fieldLink RX1 17 "GraphSearchModel" "many" "[I", .methodLink RX1 47 yX1_given, .instanceMethod yX1_given, .selects RX1 yX1_given yX1_given, .initialized RX1, .code yX1_given cX1_given 4 (some .int), .fieldLink RX1 23 "GraphSearchModel" "values" "[I", .fieldLink RX1 20 "GraphSearchModel" "to" "[I", .methodLink RX1 43 yX1_behind, .static yX1_behind, .code yX1_behind cX1_behind 1 (some .int), .methodLink RX1 63 yX1_valueOf, .instanceMethod yX1_valueOf, .selects RX1 yX1_valueOf yX1_valueOf, .code yX1_valueOf cX1_valueOf 3 (some .int)] ++ wsX10)
def wsX1_best_r1 : List Cond := [Cond.methodLink RX1 59 yX1_asked, Cond.instanceMethod yX1_asked, Cond.selects RX1 yX1_asked yX1_asked, Cond.initialized RX1, Cond.code yX1_asked cX1_asked 3 (some .boolean), Cond.fieldLink RX1 29 "GraphSearchModel" "thrown" "I", Cond.methodLink RX1 40 yX1_isNode, Cond.instanceMethod yX1_isNode, Cond.selects RX1 yX1_isNode yX1_isNode, Cond.code yX1_isNode cX1_isNode 2 (some .boolean), Cond.fieldLink RX1 33 "GraphSearchModel" "nodes" "I", Cond.methodLink RX1 55 yX1_work, Cond.instanceMethod yX1_work, Cond.selects RX1 yX1_work yX1_work, Cond.code yX1_work cX1_work 5 none, Cond.fieldLink RX1 13 "GraphSearchModel" "lost" "[Z", Cond.fieldLink RX1 23 "GraphSearchModel" "values" "[I", Cond.fieldLink RX1 17 "GraphSearchModel" "many" "[I", Cond.fieldLink RX1 7 "GraphSearchModel" "worth" "[I", Cond.methodLink RX1 51 yX1_greatest, Cond.instanceMethod yX1_greatest, Cond.selects RX1 yX1_greatest yX1_greatest, Cond.code yX1_greatest cX1_greatest 5 (some .int), Cond.methodLink RX1 47 yX1_given]
def wsX1_best_r2 : List Cond := [Cond.instanceMethod yX1_given, Cond.selects RX1 yX1_given yX1_given, Cond.code yX1_given cX1_given 4 (some .int), Cond.fieldLink RX1 20 "GraphSearchModel" "to" "[I", Cond.methodLink RX1 43 yX1_behind, Cond.static yX1_behind, Cond.code yX1_behind cX1_behind 1 (some .int), Cond.methodLink RX1 66 yX1_bestOf, Cond.instanceMethod yX1_bestOf, Cond.selects RX1 yX1_bestOf yX1_bestOf, Cond.code yX1_bestOf cX1_bestOf 4 (some .int), Cond.methodLink RX1 63 yX1_valueOf, Cond.instanceMethod yX1_valueOf, Cond.selects RX1 yX1_valueOf yX1_valueOf, Cond.code yX1_valueOf cX1_valueOf 3 (some .int)]
def wsX1_best : List Cond := .code yX1_best cX1_best 3 (some .int) :: ((wsX1_best_r1 ++ wsX1_best_r2) ++ wsX10)
def wsX1_reaches_r1 : List Cond := [Cond.methodLink RX1 59 yX1_asked, Cond.instanceMethod yX1_asked, Cond.selects RX1 yX1_asked yX1_asked, Cond.initialized RX1, Cond.code yX1_asked cX1_asked 3 (some .boolean), Cond.fieldLink RX1 29 "GraphSearchModel" "thrown" "I", Cond.methodLink RX1 40 yX1_isNode, Cond.instanceMethod yX1_isNode, Cond.selects RX1 yX1_isNode yX1_isNode, Cond.code yX1_isNode cX1_isNode 2 (some .boolean), Cond.fieldLink RX1 33 "GraphSearchModel" "nodes" "I", Cond.methodLink RX1 55 yX1_work, Cond.instanceMethod yX1_work, Cond.selects RX1 yX1_work yX1_work, Cond.code yX1_work cX1_work 5 none, Cond.fieldLink RX1 13 "GraphSearchModel" "lost" "[Z", Cond.fieldLink RX1 23 "GraphSearchModel" "values" "[I", Cond.fieldLink RX1 17 "GraphSearchModel" "many" "[I", Cond.fieldLink RX1 7 "GraphSearchModel" "worth" "[I", Cond.methodLink RX1 51 yX1_greatest, Cond.instanceMethod yX1_greatest, Cond.selects RX1 yX1_greatest yX1_greatest, Cond.code yX1_greatest cX1_greatest 5 (some .int), Cond.methodLink RX1 47 yX1_given]
def wsX1_reaches_r2 : List Cond := [Cond.instanceMethod yX1_given, Cond.selects RX1 yX1_given yX1_given, Cond.code yX1_given cX1_given 4 (some .int), Cond.fieldLink RX1 20 "GraphSearchModel" "to" "[I", Cond.methodLink RX1 43 yX1_behind, Cond.static yX1_behind, Cond.code yX1_behind cX1_behind 1 (some .int), Cond.methodLink RX1 63 yX1_valueOf, Cond.instanceMethod yX1_valueOf, Cond.selects RX1 yX1_valueOf yX1_valueOf, Cond.code yX1_valueOf cX1_valueOf 3 (some .int)]
def wsX1_reaches : List Cond := .code yX1_reaches cX1_reaches 4 (some .boolean) :: ((wsX1_reaches_r1 ++ wsX1_reaches_r2) ++ wsX10)
def wsX1_line_r1 : List Cond := [Cond.fieldLink RX1 20 "GraphSearchModel" "to" "[I", Cond.methodLink RX1 59 yX1_asked, Cond.instanceMethod yX1_asked, Cond.selects RX1 yX1_asked yX1_asked, Cond.initialized RX1, Cond.code yX1_asked cX1_asked 3 (some .boolean), Cond.fieldLink RX1 29 "GraphSearchModel" "thrown" "I", Cond.methodLink RX1 40 yX1_isNode, Cond.instanceMethod yX1_isNode, Cond.selects RX1 yX1_isNode yX1_isNode, Cond.code yX1_isNode cX1_isNode 2 (some .boolean), Cond.fieldLink RX1 33 "GraphSearchModel" "nodes" "I", Cond.methodLink RX1 55 yX1_work, Cond.instanceMethod yX1_work, Cond.selects RX1 yX1_work yX1_work, Cond.code yX1_work cX1_work 5 none, Cond.fieldLink RX1 13 "GraphSearchModel" "lost" "[Z", Cond.fieldLink RX1 23 "GraphSearchModel" "values" "[I", Cond.fieldLink RX1 17 "GraphSearchModel" "many" "[I", Cond.fieldLink RX1 7 "GraphSearchModel" "worth" "[I", Cond.methodLink RX1 51 yX1_greatest, Cond.instanceMethod yX1_greatest, Cond.selects RX1 yX1_greatest yX1_greatest, Cond.code yX1_greatest cX1_greatest 5 (some .int)]
def wsX1_line_r2 : List Cond := [Cond.methodLink RX1 47 yX1_given, Cond.instanceMethod yX1_given, Cond.selects RX1 yX1_given yX1_given, Cond.code yX1_given cX1_given 4 (some .int), Cond.methodLink RX1 43 yX1_behind, Cond.static yX1_behind, Cond.code yX1_behind cX1_behind 1 (some .int), Cond.methodLink RX1 66 yX1_bestOf, Cond.instanceMethod yX1_bestOf, Cond.selects RX1 yX1_bestOf yX1_bestOf, Cond.code yX1_bestOf cX1_bestOf 4 (some .int), Cond.methodLink RX1 63 yX1_valueOf, Cond.instanceMethod yX1_valueOf, Cond.selects RX1 yX1_valueOf yX1_valueOf, Cond.code yX1_valueOf cX1_valueOf 3 (some .int)]
def wsX1_line : List Cond := .code yX1_line cX1_line 7 (some .int) :: ((wsX1_line_r1 ++ wsX1_line_r2) ++ wsX10)
def wsX1_ties_r1 : List Cond := [Cond.fieldLink RX1 17 "GraphSearchModel" "many" "[I", Cond.methodLink RX1 59 yX1_asked, Cond.instanceMethod yX1_asked, Cond.selects RX1 yX1_asked yX1_asked, Cond.initialized RX1, Cond.code yX1_asked cX1_asked 3 (some .boolean), Cond.fieldLink RX1 29 "GraphSearchModel" "thrown" "I", Cond.methodLink RX1 40 yX1_isNode, Cond.instanceMethod yX1_isNode, Cond.selects RX1 yX1_isNode yX1_isNode, Cond.code yX1_isNode cX1_isNode 2 (some .boolean), Cond.fieldLink RX1 33 "GraphSearchModel" "nodes" "I", Cond.methodLink RX1 55 yX1_work, Cond.instanceMethod yX1_work, Cond.selects RX1 yX1_work yX1_work, Cond.code yX1_work cX1_work 5 none, Cond.fieldLink RX1 13 "GraphSearchModel" "lost" "[Z", Cond.fieldLink RX1 23 "GraphSearchModel" "values" "[I", Cond.fieldLink RX1 7 "GraphSearchModel" "worth" "[I", Cond.methodLink RX1 51 yX1_greatest, Cond.instanceMethod yX1_greatest, Cond.selects RX1 yX1_greatest yX1_greatest, Cond.code yX1_greatest cX1_greatest 5 (some .int), Cond.methodLink RX1 47 yX1_given]
def wsX1_ties_r2 : List Cond := [Cond.instanceMethod yX1_given, Cond.selects RX1 yX1_given yX1_given, Cond.code yX1_given cX1_given 4 (some .int), Cond.fieldLink RX1 20 "GraphSearchModel" "to" "[I", Cond.methodLink RX1 43 yX1_behind, Cond.static yX1_behind, Cond.code yX1_behind cX1_behind 1 (some .int), Cond.methodLink RX1 63 yX1_valueOf, Cond.instanceMethod yX1_valueOf, Cond.selects RX1 yX1_valueOf yX1_valueOf, Cond.code yX1_valueOf cX1_valueOf 3 (some .int)]
def wsX1_ties : List Cond := .code yX1_ties cX1_ties 5 (some .int) :: ((wsX1_ties_r1 ++ wsX1_ties_r2) ++ wsX10)
def wsX1_settled_r1 : List Cond := [Cond.methodLink RX1 59 yX1_asked, Cond.instanceMethod yX1_asked, Cond.selects RX1 yX1_asked yX1_asked, Cond.initialized RX1, Cond.code yX1_asked cX1_asked 3 (some .boolean), Cond.fieldLink RX1 29 "GraphSearchModel" "thrown" "I", Cond.methodLink RX1 40 yX1_isNode, Cond.instanceMethod yX1_isNode, Cond.selects RX1 yX1_isNode yX1_isNode, Cond.code yX1_isNode cX1_isNode 2 (some .boolean), Cond.fieldLink RX1 33 "GraphSearchModel" "nodes" "I", Cond.methodLink RX1 55 yX1_work, Cond.instanceMethod yX1_work, Cond.selects RX1 yX1_work yX1_work, Cond.code yX1_work cX1_work 5 none, Cond.fieldLink RX1 13 "GraphSearchModel" "lost" "[Z", Cond.fieldLink RX1 23 "GraphSearchModel" "values" "[I", Cond.fieldLink RX1 17 "GraphSearchModel" "many" "[I", Cond.fieldLink RX1 7 "GraphSearchModel" "worth" "[I", Cond.methodLink RX1 51 yX1_greatest, Cond.instanceMethod yX1_greatest, Cond.selects RX1 yX1_greatest yX1_greatest, Cond.code yX1_greatest cX1_greatest 5 (some .int), Cond.methodLink RX1 47 yX1_given]
def wsX1_settled_r2 : List Cond := [Cond.instanceMethod yX1_given, Cond.selects RX1 yX1_given yX1_given, Cond.code yX1_given cX1_given 4 (some .int), Cond.fieldLink RX1 20 "GraphSearchModel" "to" "[I", Cond.methodLink RX1 43 yX1_behind, Cond.static yX1_behind, Cond.code yX1_behind cX1_behind 1 (some .int), Cond.methodLink RX1 63 yX1_valueOf, Cond.instanceMethod yX1_valueOf, Cond.selects RX1 yX1_valueOf yX1_valueOf, Cond.code yX1_valueOf cX1_valueOf 3 (some .int)]
def wsX1_settled : List Cond := .code yX1_settled cX1_settled 5 (some .int) :: ((wsX1_settled_r1 ++ wsX1_settled_r2) ++ wsX10)
def wsX1_of : List Cond := .code yX1_of cX1_of 3 (some .int) :: ([.fieldLink RX1 29 "GraphSearchModel" "thrown" "I", .fieldLink RX1 7 "GraphSearchModel" "worth" "[I", .fieldLink RX1 13 "GraphSearchModel" "lost" "[Z", .fieldLink RX1 17 "GraphSearchModel" "many" "[I", .fieldLink RX1 20 "GraphSearchModel" "to" "[I", .methodLink RX1 40 yX1_isNode, .instanceMethod yX1_isNode, .selects RX1 yX1_isNode yX1_isNode, .initialized RX1, .code yX1_isNode cX1_isNode 2 (some .boolean), .fieldLink RX1 33 "GraphSearchModel" "nodes" "I"] ++ wsX10)
def wsX1_around : List Cond := .code yX1_around cX1_around 7 (some .int) :: ([.fieldLink RX1 29 "GraphSearchModel" "thrown" "I", .fieldLink RX1 33 "GraphSearchModel" "nodes" "I", .fieldLink RX1 26 "GraphSearchModel" "near" "[I", .fieldLink RX1 17 "GraphSearchModel" "many" "[I", .fieldLink RX1 20 "GraphSearchModel" "to" "[I", .methodLink RX1 40 yX1_isNode, .instanceMethod yX1_isNode, .selects RX1 yX1_isNode yX1_isNode, .initialized RX1, .code yX1_isNode cX1_isNode 2 (some .boolean)] ++ wsX10)
def wsX1_look : List Cond := .code yX1_look cX1_look 4 (some .int) :: ([.fieldLink RX1 29 "GraphSearchModel" "thrown" "I", .fieldLink RX1 33 "GraphSearchModel" "nodes" "I", .fieldLink RX1 17 "GraphSearchModel" "many" "[I"] ++ wsX10)
def wsJ9_max_7cf53 : List Cond := .code yJ9_max_7cf53 cJ9_max_7cf53 2 (some .int) :: ([])
def wsL_cell : List Cond := .code yL_cell cL_cell 2 (some .int) :: ([])
def wsL_node : List Cond := .codeWith yL_node cL_node 5 (some .int) [(0, 10, 13, 13), (0, 10, 17, 15)] :: ([.classLink RL 13 "java/lang/IllegalArgumentException", .classLink RL 15 "java/lang/IllegalStateException", .methodLink RL 7 yX0_node, .instanceMethod yX0_node, .selects RX0 yX0_node yX0_node, .initialized RX0, .code yX0_node cX0_node 4 (some .int), .classLink RX0 51 "java/lang/IllegalArgumentException", .initialized "java/lang/IllegalArgumentException", .classLink RX0 58 "java/lang/IllegalStateException", .initialized "java/lang/IllegalStateException", .fieldLink RX0 23 "GraphSearch" "nodeCount" "I", .fieldLink RX0 9 "GraphSearch" "worths" "[I", .fieldLink RX0 13 "GraphSearch" "losts" "[Z", .methodLink RX0 47 yX0_isWorth, .static yX0_isWorth, .code yX0_isWorth cX0_isWorth 1 (some .boolean), .methodLink RX0 63 yX0_forgetTable, .instanceMethod yX0_forgetTable, .selects RX0 yX0_forgetTable yX0_forgetTable, .code yX0_forgetTable cX0_forgetTable 1 none, .fieldLink RX0 35 "GraphSearch" "rowsFound" "I"] ++ wsX00 ++ (vx_atS RX0 55 "java/lang/IllegalArgumentException" ["java/lang/RuntimeException", "java/lang/Exception"]).filter goodWord ++ (vx_atS RX0 62 "java/lang/IllegalStateException" ["java/lang/RuntimeException", "java/lang/Exception"]).filter goodWord)
def wsL_move_r1 : List Cond := [Cond.classLink RL 13 "java/lang/IllegalArgumentException", Cond.classLink RL 15 "java/lang/IllegalStateException", Cond.methodLink RL 17 yX0_move, Cond.instanceMethod yX0_move, Cond.selects RX0 yX0_move yX0_move, Cond.initialized RX0, Cond.code yX0_move cX0_move 4 (some .int), Cond.classLink RX0 51 "java/lang/IllegalArgumentException", Cond.initialized "java/lang/IllegalArgumentException", Cond.classLink RX0 58 "java/lang/IllegalStateException", Cond.initialized "java/lang/IllegalStateException", Cond.fieldLink RX0 17 "GraphSearch" "moveCounts" "[I", Cond.fieldLink RX0 20 "GraphSearch" "targets" "[I", Cond.fieldLink RX0 27 "GraphSearch" "allMoves" "I", Cond.methodLink RX0 66 yX0_isNode, Cond.instanceMethod yX0_isNode, Cond.selects RX0 yX0_isNode yX0_isNode, Cond.code yX0_isNode cX0_isNode 2 (some .boolean), Cond.fieldLink RX0 23 "GraphSearch" "nodeCount" "I", Cond.methodLink RX0 73 yX0_place, Cond.static yX0_place, Cond.code yX0_place cX0_place 2 (some .int), Cond.methodLink RX0 63 yX0_forgetTable, Cond.instanceMethod yX0_forgetTable]
def wsL_move_r2 : List Cond := [Cond.selects RX0 yX0_forgetTable yX0_forgetTable, Cond.code yX0_forgetTable cX0_forgetTable 1 none, Cond.fieldLink RX0 35 "GraphSearch" "rowsFound" "I"]
def wsL_move : List Cond := .codeWith yL_move cL_move 5 (some .int) [(0, 10, 13, 13), (0, 10, 17, 15)] :: ((wsL_move_r1 ++ wsL_move_r2) ++ wsX00 ++ (vx_atS RX0 55 "java/lang/IllegalArgumentException" ["java/lang/RuntimeException", "java/lang/Exception"]).filter goodWord ++ (vx_atS RX0 62 "java/lang/IllegalStateException" ["java/lang/RuntimeException", "java/lang/Exception"]).filter goodWord)
def wsL_value_r1 : List Cond := [Cond.classLink RL 13 "java/lang/IllegalArgumentException", Cond.methodLink RL 21 yX0_value, Cond.instanceMethod yX0_value, Cond.selects RX0 yX0_value yX0_value, Cond.initialized RX0, Cond.code yX0_value cX0_value 3 (some .int), Cond.fieldLink RX0 32 "GraphSearch" "table" "[[I", Cond.methodLink RX0 77 yX0_refuseWrongQuestion, Cond.instanceMethod yX0_refuseWrongQuestion, Cond.selects RX0 yX0_refuseWrongQuestion yX0_refuseWrongQuestion, Cond.code yX0_refuseWrongQuestion cX0_refuseWrongQuestion 3 none, Cond.classLink RX0 51 "java/lang/IllegalArgumentException", Cond.initialized "java/lang/IllegalArgumentException", Cond.methodLink RX0 66 yX0_isNode, Cond.instanceMethod yX0_isNode, Cond.selects RX0 yX0_isNode yX0_isNode, Cond.code yX0_isNode cX0_isNode 2 (some .boolean), Cond.fieldLink RX0 23 "GraphSearch" "nodeCount" "I", Cond.methodLink RX0 81 yX0_deepenTo, Cond.instanceMethod yX0_deepenTo, Cond.selects RX0 yX0_deepenTo yX0_deepenTo, Cond.code yX0_deepenTo cX0_deepenTo 2 none, Cond.fieldLink RX0 35 "GraphSearch" "rowsFound" "I", Cond.methodLink RX0 106 yX0_findRow]
def wsL_value_r2 : List Cond := [Cond.instanceMethod yX0_findRow, Cond.selects RX0 yX0_findRow yX0_findRow, Cond.code yX0_findRow cX0_findRow 3 none, Cond.methodLink RX0 109 yX0_findValue, Cond.instanceMethod yX0_findValue, Cond.selects RX0 yX0_findValue yX0_findValue, Cond.code yX0_findValue cX0_findValue 5 (some .int), Cond.fieldLink RX0 17 "GraphSearch" "moveCounts" "[I", Cond.fieldLink RX0 13 "GraphSearch" "losts" "[Z", Cond.fieldLink RX0 9 "GraphSearch" "worths" "[I", Cond.methodLink RX0 112 Lib.Math.max.name, Cond.static Lib.Math.max.name, Cond.initialized "java/lang/Math", Cond.code Lib.Math.max.name Lib.Math.max.code 2 (some .int), Cond.methodLink RX0 88 yX0_moveValue, Cond.instanceMethod yX0_moveValue, Cond.selects RX0 yX0_moveValue yX0_moveValue, Cond.code yX0_moveValue cX0_moveValue 4 (some .int), Cond.fieldLink RX0 20 "GraphSearch" "targets" "[I", Cond.methodLink RX0 73 yX0_place, Cond.static yX0_place, Cond.code yX0_place cX0_place 2 (some .int), Cond.methodLink RX0 117 yX0_halfMoveBack, Cond.static yX0_halfMoveBack]
def wsL_value_r3 : List Cond := [Cond.code yX0_halfMoveBack cX0_halfMoveBack 2 (some .int)]
def wsL_value : List Cond := .codeWith yL_value cL_value 5 (some .int) [(0, 10, 13, 13)] :: ((wsL_value_r1 ++ (wsL_value_r2 ++ wsL_value_r3)) ++ wsX00 ++ (vx_atS RX0 55 "java/lang/IllegalArgumentException" ["java/lang/RuntimeException", "java/lang/Exception"]).filter goodWord)
def wsL_best_r1 : List Cond := [Cond.classLink RL 13 "java/lang/IllegalArgumentException", Cond.methodLink RL 24 yX0_best, Cond.instanceMethod yX0_best, Cond.selects RX0 yX0_best yX0_best, Cond.initialized RX0, Cond.code yX0_best cX0_best 3 (some .int), Cond.methodLink RX0 77 yX0_refuseWrongQuestion, Cond.instanceMethod yX0_refuseWrongQuestion, Cond.selects RX0 yX0_refuseWrongQuestion yX0_refuseWrongQuestion, Cond.code yX0_refuseWrongQuestion cX0_refuseWrongQuestion 3 none, Cond.classLink RX0 51 "java/lang/IllegalArgumentException", Cond.initialized "java/lang/IllegalArgumentException", Cond.methodLink RX0 66 yX0_isNode, Cond.instanceMethod yX0_isNode, Cond.selects RX0 yX0_isNode yX0_isNode, Cond.code yX0_isNode cX0_isNode 2 (some .boolean), Cond.fieldLink RX0 23 "GraphSearch" "nodeCount" "I", Cond.methodLink RX0 81 yX0_deepenTo, Cond.instanceMethod yX0_deepenTo, Cond.selects RX0 yX0_deepenTo yX0_deepenTo, Cond.code yX0_deepenTo cX0_deepenTo 2 none, Cond.fieldLink RX0 35 "GraphSearch" "rowsFound" "I", Cond.methodLink RX0 106 yX0_findRow, Cond.instanceMethod yX0_findRow]
def wsL_best_r2 : List Cond := [Cond.selects RX0 yX0_findRow yX0_findRow, Cond.code yX0_findRow cX0_findRow 3 none, Cond.fieldLink RX0 32 "GraphSearch" "table" "[[I", Cond.methodLink RX0 109 yX0_findValue, Cond.instanceMethod yX0_findValue, Cond.selects RX0 yX0_findValue yX0_findValue, Cond.code yX0_findValue cX0_findValue 5 (some .int), Cond.fieldLink RX0 17 "GraphSearch" "moveCounts" "[I", Cond.fieldLink RX0 13 "GraphSearch" "losts" "[Z", Cond.fieldLink RX0 9 "GraphSearch" "worths" "[I", Cond.methodLink RX0 112 Lib.Math.max.name, Cond.static Lib.Math.max.name, Cond.initialized "java/lang/Math", Cond.code Lib.Math.max.name Lib.Math.max.code 2 (some .int), Cond.methodLink RX0 88 yX0_moveValue, Cond.instanceMethod yX0_moveValue, Cond.selects RX0 yX0_moveValue yX0_moveValue, Cond.code yX0_moveValue cX0_moveValue 4 (some .int), Cond.fieldLink RX0 20 "GraphSearch" "targets" "[I", Cond.methodLink RX0 73 yX0_place, Cond.static yX0_place, Cond.code yX0_place cX0_place 2 (some .int), Cond.methodLink RX0 117 yX0_halfMoveBack, Cond.static yX0_halfMoveBack]
def wsL_best_r3 : List Cond := [Cond.code yX0_halfMoveBack cX0_halfMoveBack 2 (some .int), Cond.methodLink RX0 85 yX0_bestMove, Cond.instanceMethod yX0_bestMove, Cond.selects RX0 yX0_bestMove yX0_bestMove, Cond.code yX0_bestMove cX0_bestMove 4 (some .int)]
def wsL_best : List Cond := .codeWith yL_best cL_best 5 (some .int) [(0, 10, 13, 13)] :: ((wsL_best_r1 ++ (wsL_best_r2 ++ wsL_best_r3)) ++ wsX00 ++ (vx_atS RX0 55 "java/lang/IllegalArgumentException" ["java/lang/RuntimeException", "java/lang/Exception"]).filter goodWord)
def wsL_reaches_r1 : List Cond := [Cond.classLink RL 13 "java/lang/IllegalArgumentException", Cond.methodLink RL 27 yX0_reaches, Cond.instanceMethod yX0_reaches, Cond.selects RX0 yX0_reaches yX0_reaches, Cond.initialized RX0, Cond.code yX0_reaches cX0_reaches 4 (some .boolean), Cond.fieldLink RX0 32 "GraphSearch" "table" "[[I", Cond.methodLink RX0 77 yX0_refuseWrongQuestion, Cond.instanceMethod yX0_refuseWrongQuestion, Cond.selects RX0 yX0_refuseWrongQuestion yX0_refuseWrongQuestion, Cond.code yX0_refuseWrongQuestion cX0_refuseWrongQuestion 3 none, Cond.classLink RX0 51 "java/lang/IllegalArgumentException", Cond.initialized "java/lang/IllegalArgumentException", Cond.methodLink RX0 66 yX0_isNode, Cond.instanceMethod yX0_isNode, Cond.selects RX0 yX0_isNode yX0_isNode, Cond.code yX0_isNode cX0_isNode 2 (some .boolean), Cond.fieldLink RX0 23 "GraphSearch" "nodeCount" "I", Cond.methodLink RX0 81 yX0_deepenTo, Cond.instanceMethod yX0_deepenTo, Cond.selects RX0 yX0_deepenTo yX0_deepenTo, Cond.code yX0_deepenTo cX0_deepenTo 2 none, Cond.fieldLink RX0 35 "GraphSearch" "rowsFound" "I", Cond.methodLink RX0 106 yX0_findRow]
def wsL_reaches_r2 : List Cond := [Cond.instanceMethod yX0_findRow, Cond.selects RX0 yX0_findRow yX0_findRow, Cond.code yX0_findRow cX0_findRow 3 none, Cond.methodLink RX0 109 yX0_findValue, Cond.instanceMethod yX0_findValue, Cond.selects RX0 yX0_findValue yX0_findValue, Cond.code yX0_findValue cX0_findValue 5 (some .int), Cond.fieldLink RX0 17 "GraphSearch" "moveCounts" "[I", Cond.fieldLink RX0 13 "GraphSearch" "losts" "[Z", Cond.fieldLink RX0 9 "GraphSearch" "worths" "[I", Cond.methodLink RX0 112 Lib.Math.max.name, Cond.static Lib.Math.max.name, Cond.initialized "java/lang/Math", Cond.code Lib.Math.max.name Lib.Math.max.code 2 (some .int), Cond.methodLink RX0 88 yX0_moveValue, Cond.instanceMethod yX0_moveValue, Cond.selects RX0 yX0_moveValue yX0_moveValue, Cond.code yX0_moveValue cX0_moveValue 4 (some .int), Cond.fieldLink RX0 20 "GraphSearch" "targets" "[I", Cond.methodLink RX0 73 yX0_place, Cond.static yX0_place, Cond.code yX0_place cX0_place 2 (some .int), Cond.methodLink RX0 117 yX0_halfMoveBack, Cond.static yX0_halfMoveBack]
def wsL_reaches_r3 : List Cond := [Cond.code yX0_halfMoveBack cX0_halfMoveBack 2 (some .int)]
def wsL_reaches : List Cond := .codeWith yL_reaches cL_reaches 6 (some .int) [(0, 19, 22, 13)] :: ((wsL_reaches_r1 ++ (wsL_reaches_r2 ++ wsL_reaches_r3)) ++ wsX00 ++ (vx_atS RX0 55 "java/lang/IllegalArgumentException" ["java/lang/RuntimeException", "java/lang/Exception"]).filter goodWord)
def wsL_line_r1 : List Cond := [Cond.classLink RL 13 "java/lang/IllegalArgumentException", Cond.methodLink RL 31 yX0_line, Cond.instanceMethod yX0_line, Cond.selects RX0 yX0_line yX0_line, Cond.initialized RX0, Cond.code yX0_line cX0_line 7 (some .int), Cond.fieldLink RX0 20 "GraphSearch" "targets" "[I", Cond.methodLink RX0 77 yX0_refuseWrongQuestion, Cond.instanceMethod yX0_refuseWrongQuestion, Cond.selects RX0 yX0_refuseWrongQuestion yX0_refuseWrongQuestion, Cond.code yX0_refuseWrongQuestion cX0_refuseWrongQuestion 3 none, Cond.classLink RX0 51 "java/lang/IllegalArgumentException", Cond.initialized "java/lang/IllegalArgumentException", Cond.methodLink RX0 66 yX0_isNode, Cond.instanceMethod yX0_isNode, Cond.selects RX0 yX0_isNode yX0_isNode, Cond.code yX0_isNode cX0_isNode 2 (some .boolean), Cond.fieldLink RX0 23 "GraphSearch" "nodeCount" "I", Cond.methodLink RX0 81 yX0_deepenTo, Cond.instanceMethod yX0_deepenTo, Cond.selects RX0 yX0_deepenTo yX0_deepenTo, Cond.code yX0_deepenTo cX0_deepenTo 2 none, Cond.fieldLink RX0 35 "GraphSearch" "rowsFound" "I", Cond.methodLink RX0 106 yX0_findRow]
def wsL_line_r2 : List Cond := [Cond.instanceMethod yX0_findRow, Cond.selects RX0 yX0_findRow yX0_findRow, Cond.code yX0_findRow cX0_findRow 3 none, Cond.fieldLink RX0 32 "GraphSearch" "table" "[[I", Cond.methodLink RX0 109 yX0_findValue, Cond.instanceMethod yX0_findValue, Cond.selects RX0 yX0_findValue yX0_findValue, Cond.code yX0_findValue cX0_findValue 5 (some .int), Cond.fieldLink RX0 17 "GraphSearch" "moveCounts" "[I", Cond.fieldLink RX0 13 "GraphSearch" "losts" "[Z", Cond.fieldLink RX0 9 "GraphSearch" "worths" "[I", Cond.methodLink RX0 112 Lib.Math.max.name, Cond.static Lib.Math.max.name, Cond.initialized "java/lang/Math", Cond.code Lib.Math.max.name Lib.Math.max.code 2 (some .int), Cond.methodLink RX0 88 yX0_moveValue, Cond.instanceMethod yX0_moveValue, Cond.selects RX0 yX0_moveValue yX0_moveValue, Cond.code yX0_moveValue cX0_moveValue 4 (some .int), Cond.methodLink RX0 73 yX0_place, Cond.static yX0_place, Cond.code yX0_place cX0_place 2 (some .int), Cond.methodLink RX0 117 yX0_halfMoveBack, Cond.static yX0_halfMoveBack]
def wsL_line_r3 : List Cond := [Cond.code yX0_halfMoveBack cX0_halfMoveBack 2 (some .int), Cond.methodLink RX0 85 yX0_bestMove, Cond.instanceMethod yX0_bestMove, Cond.selects RX0 yX0_bestMove yX0_bestMove, Cond.code yX0_bestMove cX0_bestMove 4 (some .int)]
def wsL_line : List Cond := .codeWith yL_line cL_line 6 (some .int) [(0, 12, 15, 13)] :: ((wsL_line_r1 ++ (wsL_line_r2 ++ wsL_line_r3)) ++ wsX00 ++ (vx_atS RX0 55 "java/lang/IllegalArgumentException" ["java/lang/RuntimeException", "java/lang/Exception"]).filter goodWord)
def wsL_ties_r1 : List Cond := [Cond.classLink RL 13 "java/lang/IllegalArgumentException", Cond.methodLink RL 35 yX0_ties, Cond.instanceMethod yX0_ties, Cond.selects RX0 yX0_ties yX0_ties, Cond.initialized RX0, Cond.code yX0_ties cX0_ties 5 (some .int), Cond.fieldLink RX0 17 "GraphSearch" "moveCounts" "[I", Cond.fieldLink RX0 32 "GraphSearch" "table" "[[I", Cond.methodLink RX0 77 yX0_refuseWrongQuestion, Cond.instanceMethod yX0_refuseWrongQuestion, Cond.selects RX0 yX0_refuseWrongQuestion yX0_refuseWrongQuestion, Cond.code yX0_refuseWrongQuestion cX0_refuseWrongQuestion 3 none, Cond.classLink RX0 51 "java/lang/IllegalArgumentException", Cond.initialized "java/lang/IllegalArgumentException", Cond.methodLink RX0 66 yX0_isNode, Cond.instanceMethod yX0_isNode, Cond.selects RX0 yX0_isNode yX0_isNode, Cond.code yX0_isNode cX0_isNode 2 (some .boolean), Cond.fieldLink RX0 23 "GraphSearch" "nodeCount" "I", Cond.methodLink RX0 81 yX0_deepenTo, Cond.instanceMethod yX0_deepenTo, Cond.selects RX0 yX0_deepenTo yX0_deepenTo, Cond.code yX0_deepenTo cX0_deepenTo 2 none, Cond.fieldLink RX0 35 "GraphSearch" "rowsFound" "I"]
def wsL_ties_r2 : List Cond := [Cond.methodLink RX0 106 yX0_findRow, Cond.instanceMethod yX0_findRow, Cond.selects RX0 yX0_findRow yX0_findRow, Cond.code yX0_findRow cX0_findRow 3 none, Cond.methodLink RX0 109 yX0_findValue, Cond.instanceMethod yX0_findValue, Cond.selects RX0 yX0_findValue yX0_findValue, Cond.code yX0_findValue cX0_findValue 5 (some .int), Cond.fieldLink RX0 13 "GraphSearch" "losts" "[Z", Cond.fieldLink RX0 9 "GraphSearch" "worths" "[I", Cond.methodLink RX0 112 Lib.Math.max.name, Cond.static Lib.Math.max.name, Cond.initialized "java/lang/Math", Cond.code Lib.Math.max.name Lib.Math.max.code 2 (some .int), Cond.methodLink RX0 88 yX0_moveValue, Cond.instanceMethod yX0_moveValue, Cond.selects RX0 yX0_moveValue yX0_moveValue, Cond.code yX0_moveValue cX0_moveValue 4 (some .int), Cond.fieldLink RX0 20 "GraphSearch" "targets" "[I", Cond.methodLink RX0 73 yX0_place, Cond.static yX0_place, Cond.code yX0_place cX0_place 2 (some .int), Cond.methodLink RX0 117 yX0_halfMoveBack, Cond.static yX0_halfMoveBack]
def wsL_ties_r3 : List Cond := [Cond.code yX0_halfMoveBack cX0_halfMoveBack 2 (some .int)]
def wsL_ties : List Cond := .codeWith yL_ties cL_ties 5 (some .int) [(0, 10, 13, 13)] :: ((wsL_ties_r1 ++ (wsL_ties_r2 ++ wsL_ties_r3)) ++ wsX00 ++ (vx_atS RX0 55 "java/lang/IllegalArgumentException" ["java/lang/RuntimeException", "java/lang/Exception"]).filter goodWord)
def wsL_settled_r1 : List Cond := [Cond.classLink RL 13 "java/lang/IllegalArgumentException", Cond.methodLink RL 38 yX0_settled, Cond.instanceMethod yX0_settled, Cond.selects RX0 yX0_settled yX0_settled, Cond.initialized RX0, Cond.code yX0_settled cX0_settled 4 (some .int), Cond.fieldLink RX0 32 "GraphSearch" "table" "[[I", Cond.methodLink RX0 77 yX0_refuseWrongQuestion, Cond.instanceMethod yX0_refuseWrongQuestion, Cond.selects RX0 yX0_refuseWrongQuestion yX0_refuseWrongQuestion, Cond.code yX0_refuseWrongQuestion cX0_refuseWrongQuestion 3 none, Cond.classLink RX0 51 "java/lang/IllegalArgumentException", Cond.initialized "java/lang/IllegalArgumentException", Cond.methodLink RX0 66 yX0_isNode, Cond.instanceMethod yX0_isNode, Cond.selects RX0 yX0_isNode yX0_isNode, Cond.code yX0_isNode cX0_isNode 2 (some .boolean), Cond.fieldLink RX0 23 "GraphSearch" "nodeCount" "I", Cond.methodLink RX0 81 yX0_deepenTo, Cond.instanceMethod yX0_deepenTo, Cond.selects RX0 yX0_deepenTo yX0_deepenTo, Cond.code yX0_deepenTo cX0_deepenTo 2 none, Cond.fieldLink RX0 35 "GraphSearch" "rowsFound" "I", Cond.methodLink RX0 106 yX0_findRow]
def wsL_settled_r2 : List Cond := [Cond.instanceMethod yX0_findRow, Cond.selects RX0 yX0_findRow yX0_findRow, Cond.code yX0_findRow cX0_findRow 3 none, Cond.methodLink RX0 109 yX0_findValue, Cond.instanceMethod yX0_findValue, Cond.selects RX0 yX0_findValue yX0_findValue, Cond.code yX0_findValue cX0_findValue 5 (some .int), Cond.fieldLink RX0 17 "GraphSearch" "moveCounts" "[I", Cond.fieldLink RX0 13 "GraphSearch" "losts" "[Z", Cond.fieldLink RX0 9 "GraphSearch" "worths" "[I", Cond.methodLink RX0 112 Lib.Math.max.name, Cond.static Lib.Math.max.name, Cond.initialized "java/lang/Math", Cond.code Lib.Math.max.name Lib.Math.max.code 2 (some .int), Cond.methodLink RX0 88 yX0_moveValue, Cond.instanceMethod yX0_moveValue, Cond.selects RX0 yX0_moveValue yX0_moveValue, Cond.code yX0_moveValue cX0_moveValue 4 (some .int), Cond.fieldLink RX0 20 "GraphSearch" "targets" "[I", Cond.methodLink RX0 73 yX0_place, Cond.static yX0_place, Cond.code yX0_place cX0_place 2 (some .int), Cond.methodLink RX0 117 yX0_halfMoveBack, Cond.static yX0_halfMoveBack]
def wsL_settled_r3 : List Cond := [Cond.code yX0_halfMoveBack cX0_halfMoveBack 2 (some .int)]
def wsL_settled : List Cond := .codeWith yL_settled cL_settled 5 (some .int) [(0, 10, 13, 13)] :: ((wsL_settled_r1 ++ (wsL_settled_r2 ++ wsL_settled_r3)) ++ wsX00 ++ (vx_atS RX0 55 "java/lang/IllegalArgumentException" ["java/lang/RuntimeException", "java/lang/Exception"]).filter goodWord)
def wsL_around_r1 : List Cond := [Cond.classLink RL 13 "java/lang/IllegalArgumentException", Cond.methodLink RL 41 yX0_around, Cond.instanceMethod yX0_around, Cond.selects RX0 yX0_around yX0_around, Cond.initialized RX0, Cond.code yX0_around cX0_around 6 (some .int), Cond.fieldLink RX0 44 "GraphSearch" "metCount" "I", Cond.fieldLink RX0 38 "GraphSearch" "met" "[I", Cond.methodLink RX0 77 yX0_refuseWrongQuestion, Cond.instanceMethod yX0_refuseWrongQuestion, Cond.selects RX0 yX0_refuseWrongQuestion yX0_refuseWrongQuestion, Cond.code yX0_refuseWrongQuestion cX0_refuseWrongQuestion 3 none, Cond.classLink RX0 51 "java/lang/IllegalArgumentException", Cond.initialized "java/lang/IllegalArgumentException", Cond.methodLink RX0 66 yX0_isNode, Cond.instanceMethod yX0_isNode, Cond.selects RX0 yX0_isNode yX0_isNode, Cond.code yX0_isNode cX0_isNode 2 (some .boolean), Cond.fieldLink RX0 23 "GraphSearch" "nodeCount" "I", Cond.methodLink RX0 95 yX0_forgetMet, Cond.instanceMethod yX0_forgetMet, Cond.selects RX0 yX0_forgetMet yX0_forgetMet, Cond.code yX0_forgetMet cX0_forgetMet 2 none, Cond.fieldLink RX0 41 "GraphSearch" "isMet" "[Z"]
def wsL_around_r2 : List Cond := [Cond.methodLink RX0 98 yX0_meet, Cond.instanceMethod yX0_meet, Cond.selects RX0 yX0_meet yX0_meet, Cond.code yX0_meet cX0_meet 2 none, Cond.methodLink RX0 101 yX0_meetTargets, Cond.instanceMethod yX0_meetTargets, Cond.selects RX0 yX0_meetTargets yX0_meetTargets, Cond.code yX0_meetTargets cX0_meetTargets 3 none, Cond.fieldLink RX0 17 "GraphSearch" "moveCounts" "[I", Cond.fieldLink RX0 20 "GraphSearch" "targets" "[I", Cond.methodLink RX0 73 yX0_place, Cond.static yX0_place, Cond.code yX0_place cX0_place 2 (some .int)]
def wsL_around : List Cond := .codeWith yL_around cL_around 5 (some .int) [(0, 10, 13, 13)] :: ((wsL_around_r1 ++ wsL_around_r2) ++ wsX00 ++ (vx_atS RX0 55 "java/lang/IllegalArgumentException" ["java/lang/RuntimeException", "java/lang/Exception"]).filter goodWord)
def wsL_law0_r1 : List Cond := [Cond.classLink RL 8 RX0, Cond.instantiable RX0 11, Cond.initialized RX0, Cond.classLink RL 53 RX1, Cond.instantiable RX1 8, Cond.initialized RX1, Cond.arrayClass .long, Cond.methodLink RL 44 yL_cell, Cond.static yL_cell, Cond.initialized RL, Cond.code yL_cell cL_cell 2 (some .int), Cond.methodLink RL 50 yX0_init, Cond.instanceMethod yX0_init, Cond.code yX0_init cX0_init 2 none, Cond.methodLink RX0 1 objectInit, Cond.instanceMethod objectInit, Cond.code objectInit ⟨#[0xb1]⟩ 1 none, Cond.arrayClass .int, Cond.fieldLink RX0 9 "GraphSearch" "worths" "[I", Cond.arrayClass .boolean, Cond.fieldLink RX0 13 "GraphSearch" "losts" "[Z", Cond.fieldLink RX0 17 "GraphSearch" "moveCounts" "[I", Cond.fieldLink RX0 20 "GraphSearch" "targets" "[I", Cond.fieldLink RX0 23 "GraphSearch" "nodeCount" "I"]
def wsL_law0_r2 : List Cond := [Cond.fieldLink RX0 27 "GraphSearch" "allMoves" "I", Cond.classLink RX0 30 "[[I", Cond.fieldLink RX0 32 "GraphSearch" "table" "[[I", Cond.fieldLink RX0 35 "GraphSearch" "rowsFound" "I", Cond.fieldLink RX0 38 "GraphSearch" "met" "[I", Cond.fieldLink RX0 41 "GraphSearch" "isMet" "[Z", Cond.fieldLink RX0 44 "GraphSearch" "metCount" "I", Cond.methodLink RL 55 yX1_init, Cond.instanceMethod yX1_init, Cond.code yX1_init cX1_init 2 none, Cond.methodLink RX1 1 objectInit, Cond.fieldLink RX1 7 "GraphSearchModel" "worth" "[I", Cond.fieldLink RX1 13 "GraphSearchModel" "lost" "[Z", Cond.fieldLink RX1 17 "GraphSearchModel" "many" "[I", Cond.fieldLink RX1 20 "GraphSearchModel" "to" "[I", Cond.fieldLink RX1 23 "GraphSearchModel" "values" "[I", Cond.fieldLink RX1 26 "GraphSearchModel" "near" "[I", Cond.methodLink RL 56 yL_node, Cond.static yL_node, Cond.codeWith yL_node cL_node 5 (some .int) [(0, 10, 13, 13), (0, 10, 17, 15)], Cond.classLink RL 13 "java/lang/IllegalArgumentException", Cond.classLink RL 15 "java/lang/IllegalStateException", Cond.methodLink RL 7 yX0_node, Cond.instanceMethod yX0_node]
def wsL_law0_r3 : List Cond := [Cond.selects RX0 yX0_node yX0_node, Cond.code yX0_node cX0_node 4 (some .int), Cond.classLink RX0 51 "java/lang/IllegalArgumentException", Cond.initialized "java/lang/IllegalArgumentException", Cond.classLink RX0 58 "java/lang/IllegalStateException", Cond.initialized "java/lang/IllegalStateException", Cond.methodLink RX0 47 yX0_isWorth, Cond.static yX0_isWorth, Cond.code yX0_isWorth cX0_isWorth 1 (some .boolean), Cond.methodLink RX0 63 yX0_forgetTable, Cond.instanceMethod yX0_forgetTable, Cond.selects RX0 yX0_forgetTable yX0_forgetTable, Cond.code yX0_forgetTable cX0_forgetTable 1 none, Cond.methodLink RL 59 yX1_node, Cond.instanceMethod yX1_node, Cond.selects RX1 yX1_node yX1_node, Cond.code yX1_node cX1_node 3 (some .int), Cond.fieldLink RX1 33 "GraphSearchModel" "nodes" "I", Cond.fieldLink RX1 29 "GraphSearchModel" "thrown" "I", Cond.methodLink RX1 36 yX1_isWorth, Cond.static yX1_isWorth, Cond.code yX1_isWorth cX1_isWorth 1 (some .boolean), Cond.methodLink RL 60 yX1_thrown, Cond.instanceMethod yX1_thrown]
def wsL_law0_r4 : List Cond := [Cond.selects RX1 yX1_thrown yX1_thrown, Cond.code yX1_thrown cX1_thrown 1 (some .int), Cond.methodLink RL 64 yL_move, Cond.static yL_move, Cond.codeWith yL_move cL_move 5 (some .int) [(0, 10, 13, 13), (0, 10, 17, 15)], Cond.methodLink RL 17 yX0_move, Cond.instanceMethod yX0_move, Cond.selects RX0 yX0_move yX0_move, Cond.code yX0_move cX0_move 4 (some .int), Cond.methodLink RX0 66 yX0_isNode, Cond.instanceMethod yX0_isNode, Cond.selects RX0 yX0_isNode yX0_isNode, Cond.code yX0_isNode cX0_isNode 2 (some .boolean), Cond.methodLink RX0 73 yX0_place, Cond.static yX0_place, Cond.code yX0_place cX0_place 2 (some .int), Cond.methodLink RL 67 yX1_move, Cond.instanceMethod yX1_move, Cond.selects RX1 yX1_move yX1_move, Cond.code yX1_move cX1_move 3 (some .int), Cond.methodLink RX1 40 yX1_isNode, Cond.instanceMethod yX1_isNode, Cond.selects RX1 yX1_isNode yX1_isNode, Cond.code yX1_isNode cX1_isNode 2 (some .boolean)]
def wsL_law0_r5 : List Cond := [Cond.methodLink RL 68 yX0_drop, Cond.instanceMethod yX0_drop, Cond.selects RX0 yX0_drop yX0_drop, Cond.code yX0_drop cX0_drop 2 (some .boolean), Cond.methodLink RL 72 yX1_drop, Cond.instanceMethod yX1_drop, Cond.selects RX1 yX1_drop yX1_drop, Cond.code yX1_drop cX1_drop 2 (some .boolean), Cond.methodLink RL 73 yX0_change, Cond.instanceMethod yX0_change, Cond.selects RX0 yX0_change yX0_change, Cond.code yX0_change cX0_change 4 (some .boolean), Cond.methodLink RL 77 yX1_change, Cond.instanceMethod yX1_change, Cond.selects RX1 yX1_change yX1_change, Cond.code yX1_change cX1_change 4 (some .boolean), Cond.methodLink RL 78 yL_value, Cond.static yL_value, Cond.codeWith yL_value cL_value 5 (some .int) [(0, 10, 13, 13)], Cond.methodLink RL 21 yX0_value, Cond.instanceMethod yX0_value, Cond.selects RX0 yX0_value yX0_value, Cond.code yX0_value cX0_value 3 (some .int), Cond.methodLink RX0 77 yX0_refuseWrongQuestion]
def wsL_law0_r6 : List Cond := [Cond.instanceMethod yX0_refuseWrongQuestion, Cond.selects RX0 yX0_refuseWrongQuestion yX0_refuseWrongQuestion, Cond.code yX0_refuseWrongQuestion cX0_refuseWrongQuestion 3 none, Cond.methodLink RX0 81 yX0_deepenTo, Cond.instanceMethod yX0_deepenTo, Cond.selects RX0 yX0_deepenTo yX0_deepenTo, Cond.code yX0_deepenTo cX0_deepenTo 2 none, Cond.methodLink RX0 106 yX0_findRow, Cond.instanceMethod yX0_findRow, Cond.selects RX0 yX0_findRow yX0_findRow, Cond.code yX0_findRow cX0_findRow 3 none, Cond.methodLink RX0 109 yX0_findValue, Cond.instanceMethod yX0_findValue, Cond.selects RX0 yX0_findValue yX0_findValue, Cond.code yX0_findValue cX0_findValue 5 (some .int), Cond.methodLink RX0 112 Lib.Math.max.name, Cond.static Lib.Math.max.name, Cond.initialized "java/lang/Math", Cond.code Lib.Math.max.name Lib.Math.max.code 2 (some .int), Cond.methodLink RX0 88 yX0_moveValue, Cond.instanceMethod yX0_moveValue, Cond.selects RX0 yX0_moveValue yX0_moveValue, Cond.code yX0_moveValue cX0_moveValue 4 (some .int), Cond.methodLink RX0 117 yX0_halfMoveBack]
def wsL_law0_r7 : List Cond := [Cond.static yX0_halfMoveBack, Cond.code yX0_halfMoveBack cX0_halfMoveBack 2 (some .int), Cond.methodLink RL 80 yX1_value, Cond.instanceMethod yX1_value, Cond.selects RX1 yX1_value yX1_value, Cond.code yX1_value cX1_value 3 (some .int), Cond.methodLink RX1 59 yX1_asked, Cond.instanceMethod yX1_asked, Cond.selects RX1 yX1_asked yX1_asked, Cond.code yX1_asked cX1_asked 3 (some .boolean), Cond.methodLink RX1 55 yX1_work, Cond.instanceMethod yX1_work, Cond.selects RX1 yX1_work yX1_work, Cond.code yX1_work cX1_work 5 none, Cond.methodLink RX1 51 yX1_greatest, Cond.instanceMethod yX1_greatest, Cond.selects RX1 yX1_greatest yX1_greatest, Cond.code yX1_greatest cX1_greatest 5 (some .int), Cond.methodLink RX1 47 yX1_given, Cond.instanceMethod yX1_given, Cond.selects RX1 yX1_given yX1_given, Cond.code yX1_given cX1_given 4 (some .int), Cond.methodLink RX1 43 yX1_behind, Cond.static yX1_behind]
def wsL_law0_r8 : List Cond := [Cond.code yX1_behind cX1_behind 1 (some .int), Cond.methodLink RX1 63 yX1_valueOf, Cond.instanceMethod yX1_valueOf, Cond.selects RX1 yX1_valueOf yX1_valueOf, Cond.code yX1_valueOf cX1_valueOf 3 (some .int), Cond.methodLink RL 81 yL_best, Cond.static yL_best, Cond.codeWith yL_best cL_best 5 (some .int) [(0, 10, 13, 13)], Cond.methodLink RL 24 yX0_best, Cond.instanceMethod yX0_best, Cond.selects RX0 yX0_best yX0_best, Cond.code yX0_best cX0_best 3 (some .int), Cond.methodLink RX0 85 yX0_bestMove, Cond.instanceMethod yX0_bestMove, Cond.selects RX0 yX0_bestMove yX0_bestMove, Cond.code yX0_bestMove cX0_bestMove 4 (some .int), Cond.methodLink RL 83 yX1_best, Cond.instanceMethod yX1_best, Cond.selects RX1 yX1_best yX1_best, Cond.code yX1_best cX1_best 3 (some .int), Cond.methodLink RX1 66 yX1_bestOf, Cond.instanceMethod yX1_bestOf, Cond.selects RX1 yX1_bestOf yX1_bestOf, Cond.code yX1_bestOf cX1_bestOf 4 (some .int)]
def wsL_law0_r9 : List Cond := [Cond.methodLink RL 84 yL_reaches, Cond.static yL_reaches, Cond.codeWith yL_reaches cL_reaches 6 (some .int) [(0, 19, 22, 13)], Cond.methodLink RL 27 yX0_reaches, Cond.instanceMethod yX0_reaches, Cond.selects RX0 yX0_reaches yX0_reaches, Cond.code yX0_reaches cX0_reaches 4 (some .boolean), Cond.methodLink RL 87 yX1_reaches, Cond.instanceMethod yX1_reaches, Cond.selects RX1 yX1_reaches yX1_reaches, Cond.code yX1_reaches cX1_reaches 4 (some .boolean), Cond.methodLink RL 88 yL_line, Cond.static yL_line, Cond.codeWith yL_line cL_line 6 (some .int) [(0, 12, 15, 13)], Cond.methodLink RL 31 yX0_line, Cond.instanceMethod yX0_line, Cond.selects RX0 yX0_line yX0_line, Cond.code yX0_line cX0_line 7 (some .int), Cond.methodLink RL 90 yX1_line, Cond.instanceMethod yX1_line, Cond.selects RX1 yX1_line yX1_line, Cond.code yX1_line cX1_line 7 (some .int), Cond.methodLink RL 91 yL_ties, Cond.static yL_ties]
def wsL_law0_r10 : List Cond := [Cond.codeWith yL_ties cL_ties 5 (some .int) [(0, 10, 13, 13)], Cond.methodLink RL 35 yX0_ties, Cond.instanceMethod yX0_ties, Cond.selects RX0 yX0_ties yX0_ties, Cond.code yX0_ties cX0_ties 5 (some .int), Cond.methodLink RL 93 yX1_ties, Cond.instanceMethod yX1_ties, Cond.selects RX1 yX1_ties yX1_ties, Cond.code yX1_ties cX1_ties 5 (some .int), Cond.methodLink RL 94 yL_settled, Cond.static yL_settled, Cond.codeWith yL_settled cL_settled 5 (some .int) [(0, 10, 13, 13)], Cond.methodLink RL 38 yX0_settled, Cond.instanceMethod yX0_settled, Cond.selects RX0 yX0_settled yX0_settled, Cond.code yX0_settled cX0_settled 4 (some .int), Cond.methodLink RL 96 yX1_settled, Cond.instanceMethod yX1_settled, Cond.selects RX1 yX1_settled yX1_settled, Cond.code yX1_settled cX1_settled 5 (some .int), Cond.methodLink RL 97 yX0_of, Cond.instanceMethod yX0_of, Cond.selects RX0 yX0_of yX0_of, Cond.code yX0_of cX0_of 3 (some .int)]
def wsL_law0_r11 : List Cond := [Cond.methodLink RX0 92 yX0_targetOrNone, Cond.instanceMethod yX0_targetOrNone, Cond.selects RX0 yX0_targetOrNone yX0_targetOrNone, Cond.code yX0_targetOrNone cX0_targetOrNone 3 (some .int), Cond.methodLink RL 100 yX1_of, Cond.instanceMethod yX1_of, Cond.selects RX1 yX1_of yX1_of, Cond.code yX1_of cX1_of 3 (some .int), Cond.methodLink RL 101 yL_around, Cond.static yL_around, Cond.codeWith yL_around cL_around 5 (some .int) [(0, 10, 13, 13)], Cond.methodLink RL 41 yX0_around, Cond.instanceMethod yX0_around, Cond.selects RX0 yX0_around yX0_around, Cond.code yX0_around cX0_around 6 (some .int), Cond.methodLink RX0 95 yX0_forgetMet, Cond.instanceMethod yX0_forgetMet, Cond.selects RX0 yX0_forgetMet yX0_forgetMet, Cond.code yX0_forgetMet cX0_forgetMet 2 none, Cond.methodLink RX0 98 yX0_meet, Cond.instanceMethod yX0_meet, Cond.selects RX0 yX0_meet yX0_meet, Cond.code yX0_meet cX0_meet 2 none, Cond.methodLink RX0 101 yX0_meetTargets]
def wsL_law0_r12 : List Cond := [Cond.instanceMethod yX0_meetTargets, Cond.selects RX0 yX0_meetTargets yX0_meetTargets, Cond.code yX0_meetTargets cX0_meetTargets 3 none, Cond.methodLink RL 103 yX1_around, Cond.instanceMethod yX1_around, Cond.selects RX1 yX1_around yX1_around, Cond.code yX1_around cX1_around 7 (some .int), Cond.methodLink RL 104 yX0_look, Cond.instanceMethod yX0_look, Cond.selects RX0 yX0_look yX0_look, Cond.code yX0_look cX0_look 2 (some .int), Cond.methodLink RL 108 yX1_look, Cond.instanceMethod yX1_look, Cond.selects RX1 yX1_look yX1_look, Cond.code yX1_look cX1_look 4 (some .int)]
def wsL_law0 : List Cond := (wsL_law0_r1 ++ (wsL_law0_r2 ++ (wsL_law0_r3 ++ (wsL_law0_r4 ++ (wsL_law0_r5 ++ (wsL_law0_r6 ++ (wsL_law0_r7 ++ (wsL_law0_r8 ++ (wsL_law0_r9 ++ (wsL_law0_r10 ++ (wsL_law0_r11 ++ wsL_law0_r12))))))))))) ++ wsX00 ++ wsX10 ++ ([] : List Cond)
def wsL_law : List Cond := wsL_law0 ++ (vx_atS RX0 55 "java/lang/IllegalArgumentException" ["java/lang/RuntimeException", "java/lang/Exception"]).filter goodWord ++ (vx_atS RX0 62 "java/lang/IllegalStateException" ["java/lang/RuntimeException", "java/lang/Exception"]).filter goodWord
set_option maxRecDepth 20000 in
theorem wsL_law_in0 : ∀ w ∈ wsL_law0, w ∈ lw_tbl := fun w h => (goodIn_p wsL_law0 [111, 33, 36, 309, 120, 93, 86, 343, 346, 339, 210, 82, 104, 350, 354, 78, 358, 90, 362, 219, 223, 228, 232, 236, 246, 240, 243, 366, 370, 374, 378, 382, 385, 389, 253, 257, 393, 397, 264, 401, 271, 405, 278, 409, 285, 413, 97, 101, 417, 292, 296, 300, 304, 421, 108, 425] (by decide +kernel) (by decide +kernel) w h).1
theorem wsL_law_x0 : ∀ w ∈ (vx_atS RX0 55 "java/lang/IllegalArgumentException" ["java/lang/RuntimeException", "java/lang/Exception"]).filter goodWord, w ∈ lw_tbl := by decide +kernel
theorem wsL_law_x1 : ∀ w ∈ (vx_atS RX0 62 "java/lang/IllegalStateException" ["java/lang/RuntimeException", "java/lang/Exception"]).filter goodWord, w ∈ lw_tbl := by decide +kernel
theorem wsL_law_in : ∀ w ∈ wsL_law, w ∈ lw_tbl := fun w h => (List.mem_append.mp h).elim (fun h => (List.mem_append.mp h).elim (fun h => wsL_law_in0 w h) (fun h => wsL_law_x0 w h)) (fun h => wsL_law_x1 w h)
theorem inlX0 : ∀ w ∈ wsX00, w ∈ wsL_law := fun _ h => List.mem_append_left _ (List.mem_append_left _ (List.mem_append_left _ (List.mem_append_left _ (List.mem_append_right _ h))))
theorem inX0 : ∀ w ∈ wsX00, w ∈ lw_tbl := fun w h => wsL_law_in w (inlX0 w h)
theorem inlX1 : ∀ w ∈ wsX10, w ∈ wsL_law := fun _ h => List.mem_append_left _ (List.mem_append_left _ (List.mem_append_left _ (List.mem_append_right _ h)))
theorem inX1 : ∀ w ∈ wsX10, w ∈ lw_tbl := fun w h => wsL_law_in w (inlX1 w h)
theorem inJ9 : ∀ w ∈ wsJ90, w ∈ lw_tbl := by decide +kernel
theorem inJ0 : ∀ w ∈ wsJ00, w ∈ lw_tbl := by decide +kernel
set_option maxRecDepth 20000 in
theorem ggX0_node_X0_isWorth : GoodIn wsX0_node wsX0_isWorth := goodIn_r _ [11] (by decide +kernel) (by decide +kernel)
set_option maxRecDepth 20000 in
theorem gX0_node_X0_isWorth : GoodIn wsX0_node (va_wsS RX0 47 yX0_isWorth wsX0_isWorth) := goodIn_app (goodIn_of _ (by decide +kernel)) ggX0_node_X0_isWorth
set_option maxRecDepth 20000 in
theorem ggX0_node_X0_forgetTable : GoodIn wsX0_node wsX0_forgetTable := goodIn_r _ [15, 16, 17, 18, 19, 20, 21, 22, 23, 24, 25, 26, 27] (by decide +kernel) (by decide +kernel)
set_option maxRecDepth 20000 in
theorem gX0_node_X0_forgetTable : GoodIn wsX0_node (wsV RX0 63 RX0 yX0_forgetTable wsX0_forgetTable) := goodIn_app (goodIn_of _ (by decide +kernel)) ggX0_node_X0_forgetTable
set_option maxRecDepth 20000 in
theorem ggX0_move_X0_isNode : GoodIn wsX0_move wsX0_isNode := goodIn_r _ [12, 13, 22, 23, 24, 25, 26, 27, 28, 29, 30, 31, 32] (by decide +kernel) (by decide +kernel)
set_option maxRecDepth 20000 in
theorem gX0_move_X0_isNode : GoodIn wsX0_move (wsV RX0 66 RX0 yX0_isNode wsX0_isNode) := goodIn_app (goodIn_of _ (by decide +kernel)) ggX0_move_X0_isNode
set_option maxRecDepth 20000 in
theorem ggX0_move_X0_place : GoodIn wsX0_move wsX0_place := goodIn_r _ [16] (by decide +kernel) (by decide +kernel)
set_option maxRecDepth 20000 in
theorem gX0_move_X0_place : GoodIn wsX0_move (va_wsS RX0 73 yX0_place wsX0_place) := goodIn_app (goodIn_of _ (by decide +kernel)) ggX0_move_X0_place
set_option maxRecDepth 20000 in
theorem ggX0_move_X0_forgetTable : GoodIn wsX0_move wsX0_forgetTable := goodIn_r _ [20, 21, 22, 23, 24, 25, 26, 27, 28, 29, 30, 31, 32] (by decide +kernel) (by decide +kernel)
set_option maxRecDepth 20000 in
theorem gX0_move_X0_forgetTable : GoodIn wsX0_move (wsV RX0 63 RX0 yX0_forgetTable wsX0_forgetTable) := goodIn_app (goodIn_of _ (by decide +kernel)) ggX0_move_X0_forgetTable
set_option maxRecDepth 20000 in
theorem ggX0_drop_X0_isNode : GoodIn wsX0_drop wsX0_isNode := goodIn_r _ [7, 8, 14, 15, 16, 17, 18, 19, 20, 21, 22, 23, 24] (by decide +kernel) (by decide +kernel)
set_option maxRecDepth 20000 in
theorem gX0_drop_X0_isNode : GoodIn wsX0_drop (wsV RX0 66 RX0 yX0_isNode wsX0_isNode) := goodIn_app (goodIn_of _ (by decide +kernel)) ggX0_drop_X0_isNode
set_option maxRecDepth 20000 in
theorem ggX0_drop_X0_forgetTable : GoodIn wsX0_drop wsX0_forgetTable := goodIn_r _ [12, 13, 14, 15, 16, 17, 18, 19, 20, 21, 22, 23, 24] (by decide +kernel) (by decide +kernel)
set_option maxRecDepth 20000 in
theorem gX0_drop_X0_forgetTable : GoodIn wsX0_drop (wsV RX0 63 RX0 yX0_forgetTable wsX0_forgetTable) := goodIn_app (goodIn_of _ (by decide +kernel)) ggX0_drop_X0_forgetTable
set_option maxRecDepth 20000 in
theorem ggX0_change_X0_isNode : GoodIn wsX0_change wsX0_isNode := goodIn_r _ [7, 8, 17, 18, 19, 20, 21, 22, 23, 24, 25, 26, 27] (by decide +kernel) (by decide +kernel)
set_option maxRecDepth 20000 in
theorem gX0_change_X0_isNode : GoodIn wsX0_change (wsV RX0 66 RX0 yX0_isNode wsX0_isNode) := goodIn_app (goodIn_of _ (by decide +kernel)) ggX0_change_X0_isNode
set_option maxRecDepth 20000 in
theorem ggX0_change_X0_isWorth : GoodIn wsX0_change wsX0_isWorth := goodIn_r _ [11] (by decide +kernel) (by decide +kernel)
set_option maxRecDepth 20000 in
theorem gX0_change_X0_isWorth : GoodIn wsX0_change (va_wsS RX0 47 yX0_isWorth wsX0_isWorth) := goodIn_app (goodIn_of _ (by decide +kernel)) ggX0_change_X0_isWorth
set_option maxRecDepth 20000 in
theorem ggX0_change_X0_forgetTable : GoodIn wsX0_change wsX0_forgetTable := goodIn_r _ [15, 16, 17, 18, 19, 20, 21, 22, 23, 24, 25, 26, 27] (by decide +kernel) (by decide +kernel)
set_option maxRecDepth 20000 in
theorem gX0_change_X0_forgetTable : GoodIn wsX0_change (wsV RX0 63 RX0 yX0_forgetTable wsX0_forgetTable) := goodIn_app (goodIn_of _ (by decide +kernel)) ggX0_change_X0_forgetTable
set_option maxRecDepth 20000 in
theorem ggX0_value_X0_refuseWrongQuestion : GoodIn wsX0_value wsX0_refuseWrongQuestion := goodIn_ca (goodIn_r _ [6, 7, 8, 9, 10, 11, 5, 12, 13, 45, 46, 47, 48, 49, 50, 51, 52, 53, 54, 55] (by decide +kernel) (by decide +kernel)) (goodIn_sub (fun _ h => List.mem_cons_of_mem _ (List.mem_append_right _ h)) (by decide +kernel))
set_option maxRecDepth 20000 in
theorem gX0_value_X0_refuseWrongQuestion : GoodIn wsX0_value (wsV RX0 77 RX0 yX0_refuseWrongQuestion wsX0_refuseWrongQuestion) := goodIn_app (goodIn_of _ (by decide +kernel)) ggX0_value_X0_refuseWrongQuestion
set_option maxRecDepth 20000 in
theorem ggX0_value_X0_deepenTo : GoodIn wsX0_value wsX0_deepenTo := goodIn_r _ [17, 18, 19, 20, 21, 5, 22, 13, 1, 23, 24, 25, 26, 27, 28, 29, 30, 31, 32, 33, 34, 35, 36, 37, 38, 39, 40, 41, 42, 43, 44, 45, 46, 47, 48, 49, 50, 51, 52, 53, 54, 55] (by decide +kernel) (by decide +kernel)
set_option maxRecDepth 20000 in
theorem gX0_value_X0_deepenTo : GoodIn wsX0_value (wsV RX0 81 RX0 yX0_deepenTo wsX0_deepenTo) := goodIn_app (goodIn_of _ (by decide +kernel)) ggX0_value_X0_deepenTo
set_option maxRecDepth 20000 in
theorem ggX0_best_X0_refuseWrongQuestion : GoodIn wsX0_best wsX0_refuseWrongQuestion := goodIn_ca (goodIn_r _ [5, 6, 7, 8, 9, 10, 4, 11, 12, 49, 50, 51, 52, 53, 54, 55, 56, 57, 58, 59] (by decide +kernel) (by decide +kernel)) (goodIn_sub (fun _ h => List.mem_cons_of_mem _ (List.mem_append_right _ h)) (by decide +kernel))
set_option maxRecDepth 20000 in
theorem gX0_best_X0_refuseWrongQuestion : GoodIn wsX0_best (wsV RX0 77 RX0 yX0_refuseWrongQuestion wsX0_refuseWrongQuestion) := goodIn_app (goodIn_of _ (by decide +kernel)) ggX0_best_X0_refuseWrongQuestion
set_option maxRecDepth 20000 in
theorem ggX0_best_X0_deepenTo : GoodIn wsX0_best wsX0_deepenTo := goodIn_r _ [16, 17, 18, 19, 20, 4, 21, 12, 22, 23, 24, 25, 26, 27, 28, 29, 30, 31, 32, 33, 34, 35, 36, 37, 38, 39, 40, 41, 42, 43, 44, 49, 50, 51, 52, 53, 54, 55, 56, 57, 58, 59] (by decide +kernel) (by decide +kernel)
set_option maxRecDepth 20000 in
theorem gX0_best_X0_deepenTo : GoodIn wsX0_best (wsV RX0 81 RX0 yX0_deepenTo wsX0_deepenTo) := goodIn_app (goodIn_of _ (by decide +kernel)) ggX0_best_X0_deepenTo
set_option maxRecDepth 20000 in
theorem ggX0_best_X0_bestMove : GoodIn wsX0_best wsX0_bestMove := goodIn_r _ [48, 27, 22, 34, 35, 36, 4, 37, 38, 39, 40, 41, 42, 43, 44, 49, 50, 51, 52, 53, 54, 55, 56, 57, 58, 59] (by decide +kernel) (by decide +kernel)
set_option maxRecDepth 20000 in
theorem gX0_best_X0_bestMove : GoodIn wsX0_best (wsV RX0 85 RX0 yX0_bestMove wsX0_bestMove) := goodIn_app (goodIn_of _ (by decide +kernel)) ggX0_best_X0_bestMove
set_option maxRecDepth 20000 in
theorem ggX0_reaches_X0_refuseWrongQuestion : GoodIn wsX0_reaches wsX0_refuseWrongQuestion := goodIn_ca (goodIn_r _ [6, 7, 8, 9, 10, 11, 5, 12, 13, 45, 46, 47, 48, 49, 50, 51, 52, 53, 54, 55] (by decide +kernel) (by decide +kernel)) (goodIn_sub (fun _ h => List.mem_cons_of_mem _ (List.mem_append_right _ h)) (by decide +kernel))
set_option maxRecDepth 20000 in
theorem gX0_reaches_X0_refuseWrongQuestion : GoodIn wsX0_reaches (wsV RX0 77 RX0 yX0_refuseWrongQuestion wsX0_refuseWrongQuestion) := goodIn_app (goodIn_of _ (by decide +kernel)) ggX0_reaches_X0_refuseWrongQuestion
set_option maxRecDepth 20000 in
theorem ggX0_reaches_X0_deepenTo : GoodIn wsX0_reaches wsX0_deepenTo := goodIn_r _ [17, 18, 19, 20, 21, 5, 22, 13, 1, 23, 24, 25, 26, 27, 28, 29, 30, 31, 32, 33, 34, 35, 36, 37, 38, 39, 40, 41, 42, 43, 44, 45, 46, 47, 48, 49, 50, 51, 52, 53, 54, 55] (by decide +kernel) (by decide +kernel)
set_option maxRecDepth 20000 in
theorem gX0_reaches_X0_deepenTo : GoodIn wsX0_reaches (wsV RX0 81 RX0 yX0_deepenTo wsX0_deepenTo) := goodIn_app (goodIn_of _ (by decide +kernel)) ggX0_reaches_X0_deepenTo
set_option maxRecDepth 20000 in
theorem ggX0_line_X0_refuseWrongQuestion : GoodIn wsX0_line wsX0_refuseWrongQuestion := goodIn_ca (goodIn_r _ [6, 7, 8, 9, 10, 11, 5, 12, 13, 49, 50, 51, 52, 53, 54, 55, 56, 57, 58, 59] (by decide +kernel) (by decide +kernel)) (goodIn_sub (fun _ h => List.mem_cons_of_mem _ (List.mem_append_right _ h)) (by decide +kernel))
set_option maxRecDepth 20000 in
theorem gX0_line_X0_refuseWrongQuestion : GoodIn wsX0_line (wsV RX0 77 RX0 yX0_refuseWrongQuestion wsX0_refuseWrongQuestion) := goodIn_app (goodIn_of _ (by decide +kernel)) ggX0_line_X0_refuseWrongQuestion
set_option maxRecDepth 20000 in
theorem ggX0_line_X0_deepenTo : GoodIn wsX0_line wsX0_deepenTo := goodIn_r _ [17, 18, 19, 20, 21, 5, 22, 13, 23, 24, 25, 26, 27, 28, 29, 30, 31, 32, 33, 34, 35, 36, 37, 38, 1, 39, 40, 41, 42, 43, 44, 49, 50, 51, 52, 53, 54, 55, 56, 57, 58, 59] (by decide +kernel) (by decide +kernel)
set_option maxRecDepth 20000 in
theorem gX0_line_X0_deepenTo : GoodIn wsX0_line (wsV RX0 81 RX0 yX0_deepenTo wsX0_deepenTo) := goodIn_app (goodIn_of _ (by decide +kernel)) ggX0_line_X0_deepenTo
set_option maxRecDepth 20000 in
theorem ggX0_line_X0_bestMove : GoodIn wsX0_line wsX0_bestMove := goodIn_r _ [48, 28, 23, 35, 36, 37, 5, 38, 1, 39, 40, 41, 42, 43, 44, 49, 50, 51, 52, 53, 54, 55, 56, 57, 58, 59] (by decide +kernel) (by decide +kernel)
set_option maxRecDepth 20000 in
theorem gX0_line_X0_bestMove : GoodIn wsX0_line (wsV RX0 85 RX0 yX0_bestMove wsX0_bestMove) := goodIn_app (goodIn_of _ (by decide +kernel)) ggX0_line_X0_bestMove
set_option maxRecDepth 20000 in
theorem ggX0_line_X0_place : GoodIn wsX0_line wsX0_place := goodIn_r _ [41] (by decide +kernel) (by decide +kernel)
set_option maxRecDepth 20000 in
theorem gX0_line_X0_place : GoodIn wsX0_line (va_wsS RX0 73 yX0_place wsX0_place) := goodIn_app (goodIn_of _ (by decide +kernel)) ggX0_line_X0_place
set_option maxRecDepth 20000 in
theorem ggX0_ties_X0_refuseWrongQuestion : GoodIn wsX0_ties wsX0_refuseWrongQuestion := goodIn_ca (goodIn_r _ [7, 8, 9, 10, 11, 12, 6, 13, 14, 45, 46, 47, 48, 49, 50, 51, 52, 53, 54, 55] (by decide +kernel) (by decide +kernel)) (goodIn_sub (fun _ h => List.mem_cons_of_mem _ (List.mem_append_right _ h)) (by decide +kernel))
set_option maxRecDepth 20000 in
theorem gX0_ties_X0_refuseWrongQuestion : GoodIn wsX0_ties (wsV RX0 77 RX0 yX0_refuseWrongQuestion wsX0_refuseWrongQuestion) := goodIn_app (goodIn_of _ (by decide +kernel)) ggX0_ties_X0_refuseWrongQuestion
set_option maxRecDepth 20000 in
theorem ggX0_ties_X0_deepenTo : GoodIn wsX0_ties wsX0_deepenTo := goodIn_r _ [18, 19, 20, 21, 22, 6, 23, 14, 2, 24, 25, 26, 27, 1, 28, 29, 30, 31, 32, 33, 34, 35, 36, 37, 38, 39, 40, 41, 42, 43, 44, 45, 46, 47, 48, 49, 50, 51, 52, 53, 54, 55] (by decide +kernel) (by decide +kernel)
set_option maxRecDepth 20000 in
theorem gX0_ties_X0_deepenTo : GoodIn wsX0_ties (wsV RX0 81 RX0 yX0_deepenTo wsX0_deepenTo) := goodIn_app (goodIn_of _ (by decide +kernel)) ggX0_ties_X0_deepenTo
set_option maxRecDepth 20000 in
theorem ggX0_ties_X0_moveValue : GoodIn wsX0_ties wsX0_moveValue := goodIn_r _ [37, 2, 38, 39, 40, 6, 41, 42, 43, 44, 45, 46, 47, 48, 49, 50, 51, 52, 53, 54, 55] (by decide +kernel) (by decide +kernel)
set_option maxRecDepth 20000 in
theorem gX0_ties_X0_moveValue : GoodIn wsX0_ties (wsV RX0 88 RX0 yX0_moveValue wsX0_moveValue) := goodIn_app (goodIn_of _ (by decide +kernel)) ggX0_ties_X0_moveValue
set_option maxRecDepth 20000 in
theorem ggX0_settled_X0_refuseWrongQuestion : GoodIn wsX0_settled wsX0_refuseWrongQuestion := goodIn_ca (goodIn_r _ [6, 7, 8, 9, 10, 11, 5, 12, 13, 45, 46, 47, 48, 49, 50, 51, 52, 53, 54, 55] (by decide +kernel) (by decide +kernel)) (goodIn_sub (fun _ h => List.mem_cons_of_mem _ (List.mem_append_right _ h)) (by decide +kernel))
set_option maxRecDepth 20000 in
theorem gX0_settled_X0_refuseWrongQuestion : GoodIn wsX0_settled (wsV RX0 77 RX0 yX0_refuseWrongQuestion wsX0_refuseWrongQuestion) := goodIn_app (goodIn_of _ (by decide +kernel)) ggX0_settled_X0_refuseWrongQuestion
set_option maxRecDepth 20000 in
theorem ggX0_settled_X0_deepenTo : GoodIn wsX0_settled wsX0_deepenTo := goodIn_r _ [17, 18, 19, 20, 21, 5, 22, 13, 1, 23, 24, 25, 26, 27, 28, 29, 30, 31, 32, 33, 34, 35, 36, 37, 38, 39, 40, 41, 42, 43, 44, 45, 46, 47, 48, 49, 50, 51, 52, 53, 54, 55] (by decide +kernel) (by decide +kernel)
set_option maxRecDepth 20000 in
theorem gX0_settled_X0_deepenTo : GoodIn wsX0_settled (wsV RX0 81 RX0 yX0_deepenTo wsX0_deepenTo) := goodIn_app (goodIn_of _ (by decide +kernel)) ggX0_settled_X0_deepenTo
set_option maxRecDepth 20000 in
theorem ggX0_of_X0_isNode : GoodIn wsX0_of wsX0_isNode := goodIn_r _ [8, 9, 18, 19, 20, 21, 22, 23, 24, 25, 26, 27, 28] (by decide +kernel) (by decide +kernel)
set_option maxRecDepth 20000 in
theorem gX0_of_X0_isNode : GoodIn wsX0_of (wsV RX0 66 RX0 yX0_isNode wsX0_isNode) := goodIn_app (goodIn_of _ (by decide +kernel)) ggX0_of_X0_isNode
set_option maxRecDepth 20000 in
theorem ggX0_of_X0_targetOrNone : GoodIn wsX0_of wsX0_targetOrNone := goodIn_r _ [13, 3, 14, 15, 16, 7, 17, 18, 19, 20, 21, 22, 23, 24, 25, 26, 27, 28] (by decide +kernel) (by decide +kernel)
set_option maxRecDepth 20000 in
theorem gX0_of_X0_targetOrNone : GoodIn wsX0_of (wsV RX0 92 RX0 yX0_targetOrNone wsX0_targetOrNone) := goodIn_app (goodIn_of _ (by decide +kernel)) ggX0_of_X0_targetOrNone
set_option maxRecDepth 20000 in
theorem ggX0_around_X0_refuseWrongQuestion : GoodIn wsX0_around wsX0_refuseWrongQuestion := goodIn_ca (goodIn_r _ [7, 8, 9, 10, 11, 12, 6, 13, 14, 33, 34, 35, 36, 37, 38, 39, 40, 41, 42, 43] (by decide +kernel) (by decide +kernel)) (goodIn_sub (fun _ h => List.mem_cons_of_mem _ (List.mem_append_right _ h)) (by decide +kernel))
set_option maxRecDepth 20000 in
theorem gX0_around_X0_refuseWrongQuestion : GoodIn wsX0_around (wsV RX0 77 RX0 yX0_refuseWrongQuestion wsX0_refuseWrongQuestion) := goodIn_app (goodIn_of _ (by decide +kernel)) ggX0_around_X0_refuseWrongQuestion
set_option maxRecDepth 20000 in
theorem ggX0_around_X0_forgetMet : GoodIn wsX0_around wsX0_forgetMet := goodIn_r _ [18, 1, 19, 2, 33, 34, 35, 36, 37, 38, 39, 40, 41, 42, 43] (by decide +kernel) (by decide +kernel)
set_option maxRecDepth 20000 in
theorem gX0_around_X0_forgetMet : GoodIn wsX0_around (wsV RX0 95 RX0 yX0_forgetMet wsX0_forgetMet) := goodIn_app (goodIn_of _ (by decide +kernel)) ggX0_around_X0_forgetMet
set_option maxRecDepth 20000 in
theorem ggX0_around_X0_meet : GoodIn wsX0_around wsX0_meet := goodIn_r _ [23, 19, 2, 1, 33, 34, 35, 36, 37, 38, 39, 40, 41, 42, 43] (by decide +kernel) (by decide +kernel)
set_option maxRecDepth 20000 in
theorem gX0_around_X0_meet : GoodIn wsX0_around (wsV RX0 98 RX0 yX0_meet wsX0_meet) := goodIn_app (goodIn_of _ (by decide +kernel)) ggX0_around_X0_meet
set_option maxRecDepth 20000 in
theorem ggX0_around_X0_meetTargets : GoodIn wsX0_around wsX0_meetTargets := goodIn_r _ [27, 28, 29, 30, 31, 6, 32, 20, 21, 22, 23, 19, 2, 1, 33, 34, 35, 36, 37, 38, 39, 40, 41, 42, 43] (by decide +kernel) (by decide +kernel)
set_option maxRecDepth 20000 in
theorem gX0_around_X0_meetTargets : GoodIn wsX0_around (wsV RX0 101 RX0 yX0_meetTargets wsX0_meetTargets) := goodIn_app (goodIn_of _ (by decide +kernel)) ggX0_around_X0_meetTargets
set_option maxRecDepth 20000 in
theorem ggX0_refuseWrongQuestion_X0_isNode : GoodIn wsX0_refuseWrongQuestion wsX0_isNode := goodIn_r _ [7, 8, 9, 10, 11, 12, 13, 14, 15, 16, 17, 18, 19] (by decide +kernel) (by decide +kernel)
set_option maxRecDepth 20000 in
theorem gX0_refuseWrongQuestion_X0_isNode : GoodIn wsX0_refuseWrongQuestion (wsV RX0 66 RX0 yX0_isNode wsX0_isNode) := goodIn_app (goodIn_of _ (by decide +kernel)) ggX0_refuseWrongQuestion_X0_isNode
set_option maxRecDepth 20000 in
theorem ggX0_targetOrNone_X0_place : GoodIn wsX0_targetOrNone wsX0_place := goodIn_r _ [6] (by decide +kernel) (by decide +kernel)
set_option maxRecDepth 20000 in
theorem gX0_targetOrNone_X0_place : GoodIn wsX0_targetOrNone (va_wsS RX0 73 yX0_place wsX0_place) := goodIn_app (goodIn_of _ (by decide +kernel)) ggX0_targetOrNone_X0_place
set_option maxRecDepth 20000 in
theorem ggX0_deepenTo_X0_findRow : GoodIn wsX0_deepenTo wsX0_findRow := goodIn_r _ [6, 7, 8, 9, 10, 11, 5, 12, 13, 14, 15, 16, 17, 18, 19, 20, 21, 22, 23, 24, 25, 26, 27, 28, 29, 30, 31, 32, 33, 34, 35, 36, 37, 38, 39, 40, 41] (by decide +kernel) (by decide +kernel)
set_option maxRecDepth 20000 in
theorem gX0_deepenTo_X0_findRow : GoodIn wsX0_deepenTo (wsV RX0 106 RX0 yX0_findRow wsX0_findRow) := goodIn_app (goodIn_of _ (by decide +kernel)) ggX0_deepenTo_X0_findRow
set_option maxRecDepth 20000 in
theorem ggX0_findRow_X0_findValue : GoodIn wsX0_findRow wsX0_findValue := goodIn_r _ [7, 8, 9, 10, 11, 12, 13, 14, 15, 16, 17, 6, 18, 2, 19, 20, 21, 22, 23, 24, 25, 26, 27, 28, 29, 30, 31, 32, 33, 34, 35, 36] (by decide +kernel) (by decide +kernel)
set_option maxRecDepth 20000 in
theorem gX0_findRow_X0_findValue : GoodIn wsX0_findRow (wsV RX0 109 RX0 yX0_findValue wsX0_findValue) := goodIn_app (goodIn_of _ (by decide +kernel)) ggX0_findRow_X0_findValue
set_option maxRecDepth 20000 in
theorem ggX0_findValue_X0_moveValue : GoodIn wsX0_findValue wsX0_moveValue := goodIn_r _ [12, 13, 14, 15, 16, 11, 17, 18, 19, 20, 21, 22, 23, 24, 25, 26, 27, 28, 29, 30, 31] (by decide +kernel) (by decide +kernel)
set_option maxRecDepth 20000 in
theorem gX0_findValue_X0_moveValue : GoodIn wsX0_findValue (wsV RX0 88 RX0 yX0_moveValue wsX0_moveValue) := goodIn_app (goodIn_of _ (by decide +kernel)) ggX0_findValue_X0_moveValue
set_option maxRecDepth 20000 in
theorem ggX0_moveValue_X0_place : GoodIn wsX0_moveValue wsX0_place := goodIn_r _ [6] (by decide +kernel) (by decide +kernel)
set_option maxRecDepth 20000 in
theorem gX0_moveValue_X0_place : GoodIn wsX0_moveValue (va_wsS RX0 73 yX0_place wsX0_place) := goodIn_app (goodIn_of _ (by decide +kernel)) ggX0_moveValue_X0_place
set_option maxRecDepth 20000 in
theorem ggX0_moveValue_X0_halfMoveBack : GoodIn wsX0_moveValue wsX0_halfMoveBack := goodIn_r _ [9] (by decide +kernel) (by decide +kernel)
set_option maxRecDepth 20000 in
theorem gX0_moveValue_X0_halfMoveBack : GoodIn wsX0_moveValue (va_wsS RX0 117 yX0_halfMoveBack wsX0_halfMoveBack) := goodIn_app (goodIn_of _ (by decide +kernel)) ggX0_moveValue_X0_halfMoveBack
set_option maxRecDepth 20000 in
theorem ggX0_bestMove_X0_moveValue : GoodIn wsX0_bestMove wsX0_moveValue := goodIn_r _ [7, 2, 8, 9, 10, 6, 11, 12, 13, 14, 15, 16, 17, 18, 19, 20, 21, 22, 23, 24, 25] (by decide +kernel) (by decide +kernel)
set_option maxRecDepth 20000 in
theorem gX0_bestMove_X0_moveValue : GoodIn wsX0_bestMove (wsV RX0 88 RX0 yX0_moveValue wsX0_moveValue) := goodIn_app (goodIn_of _ (by decide +kernel)) ggX0_bestMove_X0_moveValue
set_option maxRecDepth 20000 in
theorem ggX0_meetTargets_X0_place : GoodIn wsX0_meetTargets wsX0_place := goodIn_r _ [6] (by decide +kernel) (by decide +kernel)
set_option maxRecDepth 20000 in
theorem gX0_meetTargets_X0_place : GoodIn wsX0_meetTargets (va_wsS RX0 73 yX0_place wsX0_place) := goodIn_app (goodIn_of _ (by decide +kernel)) ggX0_meetTargets_X0_place
set_option maxRecDepth 20000 in
theorem ggX0_meetTargets_X0_meet : GoodIn wsX0_meetTargets wsX0_meet := goodIn_r _ [10, 11, 12, 13, 14, 15, 16, 17, 18, 19, 20, 21, 22, 23, 24] (by decide +kernel) (by decide +kernel)
set_option maxRecDepth 20000 in
theorem gX0_meetTargets_X0_meet : GoodIn wsX0_meetTargets (wsV RX0 98 RX0 yX0_meet wsX0_meet) := goodIn_app (goodIn_of _ (by decide +kernel)) ggX0_meetTargets_X0_meet
set_option maxRecDepth 20000 in
theorem ggX1_node_X1_isWorth : GoodIn wsX1_node wsX1_isWorth := goodIn_r _ [9] (by decide +kernel) (by decide +kernel)
set_option maxRecDepth 20000 in
theorem gX1_node_X1_isWorth : GoodIn wsX1_node (va_wsS RX1 36 yX1_isWorth wsX1_isWorth) := goodIn_app (goodIn_of _ (by decide +kernel)) ggX1_node_X1_isWorth
set_option maxRecDepth 20000 in
theorem ggX1_move_X1_isNode : GoodIn wsX1_move wsX1_isNode := goodIn_r _ [8, 9, 10, 11, 12, 13, 14, 15, 16, 17] (by decide +kernel) (by decide +kernel)
set_option maxRecDepth 20000 in
theorem gX1_move_X1_isNode : GoodIn wsX1_move (wsV RX1 40 RX1 yX1_isNode wsX1_isNode) := goodIn_app (goodIn_of _ (by decide +kernel)) ggX1_move_X1_isNode
set_option maxRecDepth 20000 in
theorem ggX1_drop_X1_isNode : GoodIn wsX1_drop wsX1_isNode := goodIn_r _ [7, 8, 9, 10, 11, 12, 13, 14, 15, 16] (by decide +kernel) (by decide +kernel)
set_option maxRecDepth 20000 in
theorem gX1_drop_X1_isNode : GoodIn wsX1_drop (wsV RX1 40 RX1 yX1_isNode wsX1_isNode) := goodIn_app (goodIn_of _ (by decide +kernel)) ggX1_drop_X1_isNode
set_option maxRecDepth 20000 in
theorem ggX1_change_X1_isNode : GoodIn wsX1_change wsX1_isNode := goodIn_r _ [8, 9, 13, 14, 15, 16, 17, 18, 19, 20] (by decide +kernel) (by decide +kernel)
set_option maxRecDepth 20000 in
theorem gX1_change_X1_isNode : GoodIn wsX1_change (wsV RX1 40 RX1 yX1_isNode wsX1_isNode) := goodIn_app (goodIn_of _ (by decide +kernel)) ggX1_change_X1_isNode
set_option maxRecDepth 20000 in
theorem ggX1_change_X1_isWorth : GoodIn wsX1_change wsX1_isWorth := goodIn_r _ [12] (by decide +kernel) (by decide +kernel)
set_option maxRecDepth 20000 in
theorem gX1_change_X1_isWorth : GoodIn wsX1_change (va_wsS RX1 36 yX1_isWorth wsX1_isWorth) := goodIn_app (goodIn_of _ (by decide +kernel)) ggX1_change_X1_isWorth
set_option maxRecDepth 20000 in
theorem ggX1_given_X1_behind : GoodIn wsX1_given wsX1_behind := goodIn_r _ [6] (by decide +kernel) (by decide +kernel)
set_option maxRecDepth 20000 in
theorem gX1_given_X1_behind : GoodIn wsX1_given (va_wsS RX1 43 yX1_behind wsX1_behind) := goodIn_app (goodIn_of _ (by decide +kernel)) ggX1_given_X1_behind
set_option maxRecDepth 20000 in
theorem ggX1_greatest_X1_given : GoodIn wsX1_greatest wsX1_given := goodIn_r _ [6, 7, 8, 9, 10, 5, 11, 12, 13, 14, 15, 16, 17, 18, 19] (by decide +kernel) (by decide +kernel)
set_option maxRecDepth 20000 in
theorem gX1_greatest_X1_given : GoodIn wsX1_greatest (wsV RX1 47 RX1 yX1_given wsX1_given) := goodIn_app (goodIn_of _ (by decide +kernel)) ggX1_greatest_X1_given
set_option maxRecDepth 20000 in
theorem ggX1_work_X1_greatest : GoodIn wsX1_work wsX1_greatest := goodIn_r _ [10, 4, 11, 12, 13, 9, 14, 3, 15, 16, 17, 18, 19, 20, 21, 22, 23, 24, 25, 26] (by decide +kernel) (by decide +kernel)
set_option maxRecDepth 20000 in
theorem gX1_work_X1_greatest : GoodIn wsX1_work (wsV RX1 51 RX1 yX1_greatest wsX1_greatest) := goodIn_app (goodIn_of _ (by decide +kernel)) ggX1_work_X1_greatest
set_option maxRecDepth 20000 in
theorem ggX1_asked_X1_isNode : GoodIn wsX1_asked wsX1_isNode := goodIn_r _ [6, 7, 28, 29, 30, 31, 32, 33, 34, 35] (by decide +kernel) (by decide +kernel)
set_option maxRecDepth 20000 in
theorem gX1_asked_X1_isNode : GoodIn wsX1_asked (wsV RX1 40 RX1 yX1_isNode wsX1_isNode) := goodIn_app (goodIn_of _ (by decide +kernel)) ggX1_asked_X1_isNode
set_option maxRecDepth 20000 in
theorem ggX1_asked_X1_work : GoodIn wsX1_asked wsX1_work := goodIn_r _ [11, 7, 12, 13, 14, 15, 16, 17, 18, 5, 19, 20, 21, 22, 23, 24, 25, 26, 27, 28, 29, 30, 31, 32, 33, 34, 35] (by decide +kernel) (by decide +kernel)
set_option maxRecDepth 20000 in
theorem gX1_asked_X1_work : GoodIn wsX1_asked (wsV RX1 55 RX1 yX1_work wsX1_work) := goodIn_app (goodIn_of _ (by decide +kernel)) ggX1_asked_X1_work
set_option maxRecDepth 20000 in
theorem ggX1_value_X1_asked : GoodIn wsX1_value wsX1_asked := goodIn_r _ [5, 6, 7, 8, 9, 4, 10, 11, 12, 13, 14, 15, 16, 17, 18, 19, 20, 21, 22, 23, 24, 25, 26, 27, 28, 29, 30, 31, 36, 37, 38, 39, 40, 41, 42, 43] (by decide +kernel) (by decide +kernel)
set_option maxRecDepth 20000 in
theorem gX1_value_X1_asked : GoodIn wsX1_value (wsV RX1 59 RX1 yX1_asked wsX1_asked) := goodIn_app (goodIn_of _ (by decide +kernel)) ggX1_value_X1_asked
set_option maxRecDepth 20000 in
theorem ggX1_value_X1_valueOf : GoodIn wsX1_value wsX1_valueOf := goodIn_r _ [35, 17, 36, 37, 38, 39, 40, 41, 42, 43] (by decide +kernel) (by decide +kernel)
set_option maxRecDepth 20000 in
theorem gX1_value_X1_valueOf : GoodIn wsX1_value (wsV RX1 63 RX1 yX1_valueOf wsX1_valueOf) := goodIn_app (goodIn_of _ (by decide +kernel)) ggX1_value_X1_valueOf
set_option maxRecDepth 20000 in
theorem ggX1_bestOf_X1_given : GoodIn wsX1_bestOf wsX1_given := goodIn_r _ [6, 7, 8, 9, 10, 5, 11, 16, 17, 18, 19, 20, 21, 22, 23] (by decide +kernel) (by decide +kernel)
set_option maxRecDepth 20000 in
theorem gX1_bestOf_X1_given : GoodIn wsX1_bestOf (wsV RX1 47 RX1 yX1_given wsX1_given) := goodIn_app (goodIn_of _ (by decide +kernel)) ggX1_bestOf_X1_given
set_option maxRecDepth 20000 in
theorem ggX1_bestOf_X1_valueOf : GoodIn wsX1_bestOf wsX1_valueOf := goodIn_r _ [15, 7, 16, 17, 18, 19, 20, 21, 22, 23] (by decide +kernel) (by decide +kernel)
set_option maxRecDepth 20000 in
theorem gX1_bestOf_X1_valueOf : GoodIn wsX1_bestOf (wsV RX1 63 RX1 yX1_valueOf wsX1_valueOf) := goodIn_app (goodIn_of _ (by decide +kernel)) ggX1_bestOf_X1_valueOf
set_option maxRecDepth 20000 in
theorem ggX1_best_X1_asked : GoodIn wsX1_best wsX1_asked := goodIn_r _ [5, 6, 7, 8, 9, 4, 10, 11, 12, 13, 14, 15, 16, 17, 18, 19, 20, 21, 22, 23, 24, 25, 26, 27, 28, 29, 30, 31, 40, 41, 42, 43, 44, 45, 46, 47] (by decide +kernel) (by decide +kernel)
set_option maxRecDepth 20000 in
theorem gX1_best_X1_asked : GoodIn wsX1_best (wsV RX1 59 RX1 yX1_asked wsX1_asked) := goodIn_app (goodIn_of _ (by decide +kernel)) ggX1_best_X1_asked
set_option maxRecDepth 20000 in
theorem ggX1_best_X1_bestOf : GoodIn wsX1_best wsX1_bestOf := goodIn_r _ [35, 18, 24, 25, 26, 4, 27, 17, 28, 29, 30, 31, 36, 37, 38, 39, 40, 41, 42, 43, 44, 45, 46, 47] (by decide +kernel) (by decide +kernel)
set_option maxRecDepth 20000 in
theorem gX1_best_X1_bestOf : GoodIn wsX1_best (wsV RX1 66 RX1 yX1_bestOf wsX1_bestOf) := goodIn_app (goodIn_of _ (by decide +kernel)) ggX1_best_X1_bestOf
set_option maxRecDepth 20000 in
theorem ggX1_reaches_X1_asked : GoodIn wsX1_reaches wsX1_asked := goodIn_r _ [5, 6, 7, 8, 9, 4, 10, 11, 12, 13, 14, 15, 16, 17, 18, 19, 20, 21, 22, 23, 24, 25, 26, 27, 28, 29, 30, 31, 36, 37, 38, 39, 40, 41, 42, 43] (by decide +kernel) (by decide +kernel)
set_option maxRecDepth 20000 in
theorem gX1_reaches_X1_asked : GoodIn wsX1_reaches (wsV RX1 59 RX1 yX1_asked wsX1_asked) := goodIn_app (goodIn_of _ (by decide +kernel)) ggX1_reaches_X1_asked
set_option maxRecDepth 20000 in
theorem ggX1_reaches_X1_valueOf : GoodIn wsX1_reaches wsX1_valueOf := goodIn_r _ [35, 17, 36, 37, 38, 39, 40, 41, 42, 43] (by decide +kernel) (by decide +kernel)
set_option maxRecDepth 20000 in
theorem gX1_reaches_X1_valueOf : GoodIn wsX1_reaches (wsV RX1 63 RX1 yX1_valueOf wsX1_valueOf) := goodIn_app (goodIn_of _ (by decide +kernel)) ggX1_reaches_X1_valueOf
set_option maxRecDepth 20000 in
theorem ggX1_line_X1_asked : GoodIn wsX1_line wsX1_asked := goodIn_r _ [6, 7, 8, 9, 10, 5, 11, 12, 13, 14, 15, 16, 17, 18, 19, 20, 21, 22, 23, 24, 25, 26, 27, 28, 1, 29, 30, 31, 40, 41, 42, 43, 44, 45, 46, 47] (by decide +kernel) (by decide +kernel)
set_option maxRecDepth 20000 in
theorem gX1_line_X1_asked : GoodIn wsX1_line (wsV RX1 59 RX1 yX1_asked wsX1_asked) := goodIn_app (goodIn_of _ (by decide +kernel)) ggX1_line_X1_asked
set_option maxRecDepth 20000 in
theorem ggX1_line_X1_bestOf : GoodIn wsX1_line wsX1_bestOf := goodIn_r _ [35, 19, 25, 26, 27, 5, 28, 18, 1, 29, 30, 31, 36, 37, 38, 39, 40, 41, 42, 43, 44, 45, 46, 47] (by decide +kernel) (by decide +kernel)
set_option maxRecDepth 20000 in
theorem gX1_line_X1_bestOf : GoodIn wsX1_line (wsV RX1 66 RX1 yX1_bestOf wsX1_bestOf) := goodIn_app (goodIn_of _ (by decide +kernel)) ggX1_line_X1_bestOf
set_option maxRecDepth 20000 in
theorem ggX1_ties_X1_asked : GoodIn wsX1_ties wsX1_asked := goodIn_r _ [6, 7, 8, 9, 10, 5, 11, 12, 13, 14, 15, 16, 17, 18, 1, 19, 20, 21, 22, 23, 24, 25, 26, 27, 28, 29, 30, 31, 36, 37, 38, 39, 40, 41, 42, 43] (by decide +kernel) (by decide +kernel)
set_option maxRecDepth 20000 in
theorem gX1_ties_X1_asked : GoodIn wsX1_ties (wsV RX1 59 RX1 yX1_asked wsX1_asked) := goodIn_app (goodIn_of _ (by decide +kernel)) ggX1_ties_X1_asked
set_option maxRecDepth 20000 in
theorem ggX1_ties_X1_given : GoodIn wsX1_ties wsX1_given := goodIn_r _ [27, 18, 28, 29, 30, 5, 31, 36, 37, 38, 39, 40, 41, 42, 43] (by decide +kernel) (by decide +kernel)
set_option maxRecDepth 20000 in
theorem gX1_ties_X1_given : GoodIn wsX1_ties (wsV RX1 47 RX1 yX1_given wsX1_given) := goodIn_app (goodIn_of _ (by decide +kernel)) ggX1_ties_X1_given
set_option maxRecDepth 20000 in
theorem ggX1_ties_X1_valueOf : GoodIn wsX1_ties wsX1_valueOf := goodIn_r _ [35, 18, 36, 37, 38, 39, 40, 41, 42, 43] (by decide +kernel) (by decide +kernel)
set_option maxRecDepth 20000 in
theorem gX1_ties_X1_valueOf : GoodIn wsX1_ties (wsV RX1 63 RX1 yX1_valueOf wsX1_valueOf) := goodIn_app (goodIn_of _ (by decide +kernel)) ggX1_ties_X1_valueOf
set_option maxRecDepth 20000 in
theorem ggX1_settled_X1_asked : GoodIn wsX1_settled wsX1_asked := goodIn_r _ [5, 6, 7, 8, 9, 4, 10, 11, 12, 13, 14, 15, 16, 17, 18, 19, 20, 21, 22, 23, 24, 25, 26, 27, 28, 29, 30, 31, 36, 37, 38, 39, 40, 41, 42, 43] (by decide +kernel) (by decide +kernel)
set_option maxRecDepth 20000 in
theorem gX1_settled_X1_asked : GoodIn wsX1_settled (wsV RX1 59 RX1 yX1_asked wsX1_asked) := goodIn_app (goodIn_of _ (by decide +kernel)) ggX1_settled_X1_asked
set_option maxRecDepth 20000 in
theorem ggX1_settled_X1_valueOf : GoodIn wsX1_settled wsX1_valueOf := goodIn_r _ [35, 17, 36, 37, 38, 39, 40, 41, 42, 43] (by decide +kernel) (by decide +kernel)
set_option maxRecDepth 20000 in
theorem gX1_settled_X1_valueOf : GoodIn wsX1_settled (wsV RX1 63 RX1 yX1_valueOf wsX1_valueOf) := goodIn_app (goodIn_of _ (by decide +kernel)) ggX1_settled_X1_valueOf
set_option maxRecDepth 20000 in
theorem ggX1_of_X1_isNode : GoodIn wsX1_of wsX1_isNode := goodIn_r _ [10, 11, 12, 13, 14, 15, 16, 17, 18, 19] (by decide +kernel) (by decide +kernel)
set_option maxRecDepth 20000 in
theorem gX1_of_X1_isNode : GoodIn wsX1_of (wsV RX1 40 RX1 yX1_isNode wsX1_isNode) := goodIn_app (goodIn_of _ (by decide +kernel)) ggX1_of_X1_isNode
set_option maxRecDepth 20000 in
theorem ggX1_around_X1_isNode : GoodIn wsX1_around wsX1_isNode := goodIn_r _ [10, 2, 11, 12, 13, 14, 15, 16, 17, 18] (by decide +kernel) (by decide +kernel)
set_option maxRecDepth 20000 in
theorem gX1_around_X1_isNode : GoodIn wsX1_around (wsV RX1 40 RX1 yX1_isNode wsX1_isNode) := goodIn_app (goodIn_of _ (by decide +kernel)) ggX1_around_X1_isNode
set_option maxRecDepth 20000 in
theorem ggL_node_X0_node : GoodIn wsL_node wsX0_node := goodIn_ca (goodIn_ca (goodIn_r _ [7, 8, 9, 10, 11, 12, 13, 14, 15, 16, 6, 17, 18, 19, 20, 21, 22, 23, 24, 25, 26, 27, 28, 29, 30, 31, 32, 33] (by decide +kernel) (by decide +kernel)) (goodIn_sub (fun _ h => List.mem_cons_of_mem _ (List.mem_append_left _ (List.mem_append_right _ h))) (by decide +kernel))) (goodIn_sub (fun _ h => List.mem_cons_of_mem _ (List.mem_append_right _ h)) (by decide +kernel))
set_option maxRecDepth 20000 in
theorem gL_node_X0_node : GoodIn wsL_node (wsV RL 7 RX0 yX0_node wsX0_node) := goodIn_app (goodIn_of _ (by decide +kernel)) ggL_node_X0_node
set_option maxRecDepth 20000 in
theorem ggL_move_X0_move : GoodIn wsL_move wsX0_move := goodIn_ca (goodIn_ca (goodIn_r _ [7, 8, 9, 10, 11, 12, 13, 14, 15, 16, 17, 6, 18, 19, 20, 21, 22, 23, 24, 25, 26, 27, 28, 29, 30, 31, 32, 33, 34, 35, 36, 37, 38] (by decide +kernel) (by decide +kernel)) (goodIn_sub (fun _ h => List.mem_cons_of_mem _ (List.mem_append_left _ (List.mem_append_right _ h))) (by decide +kernel))) (goodIn_sub (fun _ h => List.mem_cons_of_mem _ (List.mem_append_right _ h)) (by decide +kernel))
set_option maxRecDepth 20000 in
theorem gL_move_X0_move : GoodIn wsL_move (wsV RL 17 RX0 yX0_move wsX0_move) := goodIn_app (goodIn_of _ (by decide +kernel)) ggL_move_X0_move
set_option maxRecDepth 20000 in
theorem ggL_value_X0_value : GoodIn wsL_value wsX0_value := goodIn_ca (goodIn_r _ [6, 7, 8, 9, 10, 5, 11, 12, 13, 14, 15, 16, 17, 18, 19, 20, 21, 22, 23, 24, 25, 26, 27, 28, 29, 30, 31, 32, 33, 34, 35, 36, 37, 38, 39, 40, 41, 42, 43, 44, 45, 46, 47, 48, 49, 50, 51, 52, 53, 54, 55, 56, 57, 58, 59, 60] (by decide +kernel) (by decide +kernel)) (goodIn_sub (fun _ h => List.mem_cons_of_mem _ (List.mem_append_right _ h)) (by decide +kernel))
set_option maxRecDepth 20000 in
theorem gL_value_X0_value : GoodIn wsL_value (wsV RL 21 RX0 yX0_value wsX0_value) := goodIn_app (goodIn_of _ (by decide +kernel)) ggL_value_X0_value
set_option maxRecDepth 20000 in
theorem ggL_best_X0_best : GoodIn wsL_best wsX0_best := goodIn_ca (goodIn_r _ [6, 7, 8, 9, 5, 10, 11, 12, 13, 14, 15, 16, 17, 18, 19, 20, 21, 22, 23, 24, 25, 26, 27, 28, 29, 30, 31, 32, 33, 34, 35, 36, 37, 38, 39, 40, 41, 42, 43, 44, 45, 46, 47, 48, 49, 50, 51, 52, 53, 54, 55, 56, 57, 58, 59, 60, 61, 62, 63, 64] (by decide +kernel) (by decide +kernel)) (goodIn_sub (fun _ h => List.mem_cons_of_mem _ (List.mem_append_right _ h)) (by decide +kernel))
set_option maxRecDepth 20000 in
theorem gL_best_X0_best : GoodIn wsL_best (wsV RL 24 RX0 yX0_best wsX0_best) := goodIn_app (goodIn_of _ (by decide +kernel)) ggL_best_X0_best
set_option maxRecDepth 20000 in
theorem ggL_reaches_X0_reaches : GoodIn wsL_reaches wsX0_reaches := goodIn_ca (goodIn_r _ [6, 7, 8, 9, 10, 5, 11, 12, 13, 14, 15, 16, 17, 18, 19, 20, 21, 22, 23, 24, 25, 26, 27, 28, 29, 30, 31, 32, 33, 34, 35, 36, 37, 38, 39, 40, 41, 42, 43, 44, 45, 46, 47, 48, 49, 50, 51, 52, 53, 54, 55, 56, 57, 58, 59, 60] (by decide +kernel) (by decide +kernel)) (goodIn_sub (fun _ h => List.mem_cons_of_mem _ (List.mem_append_right _ h)) (by decide +kernel))
set_option maxRecDepth 20000 in
theorem gL_reaches_X0_reaches : GoodIn wsL_reaches (wsV RL 27 RX0 yX0_reaches wsX0_reaches) := goodIn_app (goodIn_of _ (by decide +kernel)) ggL_reaches_X0_reaches
set_option maxRecDepth 20000 in
theorem ggL_line_X0_line : GoodIn wsL_line wsX0_line := goodIn_ca (goodIn_r _ [6, 7, 8, 9, 10, 5, 11, 12, 13, 14, 15, 16, 17, 18, 19, 20, 21, 22, 23, 24, 25, 26, 27, 28, 29, 30, 31, 32, 33, 34, 35, 36, 37, 38, 39, 40, 41, 42, 43, 44, 45, 46, 47, 48, 49, 50, 51, 52, 53, 54, 55, 56, 57, 58, 59, 60, 61, 62, 63, 64] (by decide +kernel) (by decide +kernel)) (goodIn_sub (fun _ h => List.mem_cons_of_mem _ (List.mem_append_right _ h)) (by decide +kernel))
set_option maxRecDepth 20000 in
theorem gL_line_X0_line : GoodIn wsL_line (wsV RL 31 RX0 yX0_line wsX0_line) := goodIn_app (goodIn_of _ (by decide +kernel)) ggL_line_X0_line
set_option maxRecDepth 20000 in
theorem ggL_ties_X0_ties : GoodIn wsL_ties wsX0_ties := goodIn_ca (goodIn_r _ [6, 7, 8, 9, 10, 11, 5, 12, 13, 14, 15, 16, 17, 18, 19, 20, 21, 22, 23, 24, 25, 26, 27, 28, 29, 30, 31, 32, 33, 34, 35, 36, 37, 38, 39, 40, 41, 42, 43, 44, 45, 46, 47, 48, 49, 50, 51, 52, 53, 54, 55, 56, 57, 58, 59, 60] (by decide +kernel) (by decide +kernel)) (goodIn_sub (fun _ h => List.mem_cons_of_mem _ (List.mem_append_right _ h)) (by decide +kernel))
set_option maxRecDepth 20000 in
theorem gL_ties_X0_ties : GoodIn wsL_ties (wsV RL 35 RX0 yX0_ties wsX0_ties) := goodIn_app (goodIn_of _ (by decide +kernel)) ggL_ties_X0_ties
set_option maxRecDepth 20000 in
theorem ggL_settled_X0_settled : GoodIn wsL_settled wsX0_settled := goodIn_ca (goodIn_r _ [6, 7, 8, 9, 10, 5, 11, 12, 13, 14, 15, 16, 17, 18, 19, 20, 21, 22, 23, 24, 25, 26, 27, 28, 29, 30, 31, 32, 33, 34, 35, 36, 37, 38, 39, 40, 41, 42, 43, 44, 45, 46, 47, 48, 49, 50, 51, 52, 53, 54, 55, 56, 57, 58, 59, 60] (by decide +kernel) (by decide +kernel)) (goodIn_sub (fun _ h => List.mem_cons_of_mem _ (List.mem_append_right _ h)) (by decide +kernel))
set_option maxRecDepth 20000 in
theorem gL_settled_X0_settled : GoodIn wsL_settled (wsV RL 38 RX0 yX0_settled wsX0_settled) := goodIn_app (goodIn_of _ (by decide +kernel)) ggL_settled_X0_settled
set_option maxRecDepth 20000 in
theorem ggL_around_X0_around : GoodIn wsL_around wsX0_around := goodIn_ca (goodIn_r _ [6, 7, 8, 9, 10, 11, 5, 12, 13, 14, 15, 16, 17, 18, 19, 20, 21, 22, 23, 24, 25, 26, 27, 28, 29, 30, 31, 32, 33, 34, 35, 36, 37, 38, 39, 40, 41, 42, 43, 44, 45, 46, 47, 48] (by decide +kernel) (by decide +kernel)) (goodIn_sub (fun _ h => List.mem_cons_of_mem _ (List.mem_append_right _ h)) (by decide +kernel))
set_option maxRecDepth 20000 in
theorem gL_around_X0_around : GoodIn wsL_around (wsV RL 41 RX0 yX0_around wsX0_around) := goodIn_app (goodIn_of _ (by decide +kernel)) ggL_around_X0_around
set_option maxRecDepth 20000 in
theorem ggL_law_L_cell : GoodIn wsL_law wsL_cell := goodIn_r _ [10] (by decide +kernel) (by decide +kernel)
set_option maxRecDepth 20000 in
theorem gL_law_L_cell : GoodIn wsL_law (va_wsS RL 44 yL_cell wsL_cell) := goodIn_app (goodIn_of _ (by decide +kernel)) ggL_law_L_cell
set_option maxRecDepth 20000 in
theorem ggL_law_X0_init : GoodIn wsL_law wsX0_init := goodIn_r _ [13, 14, 15, 16, 17, 18, 19, 20, 21, 22, 23, 24, 25, 26, 27, 28, 29, 30, 279, 280, 281, 282, 283, 284, 285, 286, 287, 288, 289] (by decide +kernel) (by decide +kernel)
set_option maxRecDepth 20000 in
theorem gL_law_X0_init : GoodIn wsL_law (wsX0_init) := ggL_law_X0_init
set_option maxRecDepth 20000 in
theorem ggL_law_X1_init : GoodIn wsL_law wsX1_init := goodIn_r _ [33, 34, 15, 16, 17, 35, 19, 36, 37, 38, 39, 40, 290, 291, 292, 293, 294, 295, 296, 297] (by decide +kernel) (by decide +kernel)
set_option maxRecDepth 20000 in
theorem gL_law_X1_init : GoodIn wsL_law (wsX1_init) := ggL_law_X1_init
set_option maxRecDepth 20000 in
theorem ggL_law_L_node : GoodIn wsL_law wsL_node := goodIn_ca (goodIn_ca (goodIn_r _ [43, 44, 45, 46, 47, 48, 2, 49, 50, 51, 52, 53, 23, 18, 20, 54, 55, 56, 57, 58, 59, 60, 27, 279, 280, 281, 282, 283, 284, 285, 286, 287, 288, 289] (by decide +kernel) (by decide +kernel)) (goodIn_sub (fun _ h => List.mem_append_left _ (List.mem_append_right _ h)) (by decide +kernel))) (goodIn_sub (fun _ h => List.mem_append_right _ h) (by decide +kernel))
set_option maxRecDepth 20000 in
theorem gL_law_L_node : GoodIn wsL_law (va_wsS RL 56 yL_node wsL_node) := goodIn_app (goodIn_of _ (by decide +kernel)) ggL_law_L_node
set_option maxRecDepth 20000 in
theorem ggL_law_X1_node : GoodIn wsL_law wsX1_node := goodIn_r _ [64, 65, 66, 35, 36, 37, 67, 68, 5, 69, 290, 291, 292, 293, 294, 295, 296, 297] (by decide +kernel) (by decide +kernel)
set_option maxRecDepth 20000 in
theorem gL_law_X1_node : GoodIn wsL_law (wsV RL 59 RX1 yX1_node wsX1_node) := goodIn_app (goodIn_of _ (by decide +kernel)) ggL_law_X1_node
set_option maxRecDepth 20000 in
theorem ggL_law_X1_thrown : GoodIn wsL_law wsX1_thrown := goodIn_r _ [73, 66, 290, 291, 292, 293, 294, 295, 296, 297] (by decide +kernel) (by decide +kernel)
set_option maxRecDepth 20000 in
theorem gL_law_X1_thrown : GoodIn wsL_law (wsV RL 60 RX1 yX1_thrown wsX1_thrown) := goodIn_app (goodIn_of _ (by decide +kernel)) ggL_law_X1_thrown
set_option maxRecDepth 20000 in
theorem ggL_law_L_move : GoodIn wsL_law wsL_move := goodIn_ca (goodIn_ca (goodIn_r _ [76, 44, 45, 77, 78, 79, 2, 80, 50, 51, 52, 53, 21, 22, 24, 81, 82, 83, 84, 23, 85, 86, 87, 57, 58, 59, 60, 27, 279, 280, 281, 282, 283, 284, 285, 286, 287, 288, 289] (by decide +kernel) (by decide +kernel)) (goodIn_sub (fun _ h => List.mem_append_left _ (List.mem_append_right _ h)) (by decide +kernel))) (goodIn_sub (fun _ h => List.mem_append_right _ h) (by decide +kernel))
set_option maxRecDepth 20000 in
theorem gL_law_L_move : GoodIn wsL_law (va_wsS RL 64 yL_move wsL_move) := goodIn_app (goodIn_of _ (by decide +kernel)) ggL_law_L_move
set_option maxRecDepth 20000 in
theorem ggL_law_X1_move : GoodIn wsL_law wsX1_move := goodIn_r _ [91, 66, 37, 38, 92, 93, 94, 5, 95, 65, 290, 291, 292, 293, 294, 295, 296, 297] (by decide +kernel) (by decide +kernel)
set_option maxRecDepth 20000 in
theorem gL_law_X1_move : GoodIn wsL_law (wsV RL 67 RX1 yX1_move wsX1_move) := goodIn_app (goodIn_of _ (by decide +kernel)) ggL_law_X1_move
set_option maxRecDepth 20000 in
theorem ggL_law_X0_drop : GoodIn wsL_law wsX0_drop := goodIn_r _ [99, 21, 24, 81, 82, 83, 2, 84, 23, 57, 58, 59, 60, 27, 279, 280, 281, 282, 283, 284, 285, 286, 287, 288, 289] (by decide +kernel) (by decide +kernel)
set_option maxRecDepth 20000 in
theorem gL_law_X0_drop : GoodIn wsL_law (wsV RL 68 RX0 yX0_drop wsX0_drop) := goodIn_app (goodIn_of _ (by decide +kernel)) ggL_law_X0_drop
set_option maxRecDepth 20000 in
theorem ggL_law_X1_drop : GoodIn wsL_law wsX1_drop := goodIn_r _ [103, 66, 37, 92, 93, 94, 5, 95, 65, 290, 291, 292, 293, 294, 295, 296, 297] (by decide +kernel) (by decide +kernel)
set_option maxRecDepth 20000 in
theorem gL_law_X1_drop : GoodIn wsL_law (wsV RL 72 RX1 yX1_drop wsX1_drop) := goodIn_app (goodIn_of _ (by decide +kernel)) ggL_law_X1_drop
set_option maxRecDepth 20000 in
theorem ggL_law_X0_change : GoodIn wsL_law wsX0_change := goodIn_r _ [107, 18, 20, 81, 82, 83, 2, 84, 23, 54, 55, 56, 57, 58, 59, 60, 27, 279, 280, 281, 282, 283, 284, 285, 286, 287, 288, 289] (by decide +kernel) (by decide +kernel)
set_option maxRecDepth 20000 in
theorem gL_law_X0_change : GoodIn wsL_law (wsV RL 73 RX0 yX0_change wsX0_change) := goodIn_app (goodIn_of _ (by decide +kernel)) ggL_law_X0_change
set_option maxRecDepth 20000 in
theorem ggL_law_X1_change : GoodIn wsL_law wsX1_change := goodIn_r _ [111, 66, 35, 36, 92, 93, 94, 5, 95, 65, 67, 68, 69, 290, 291, 292, 293, 294, 295, 296, 297] (by decide +kernel) (by decide +kernel)
set_option maxRecDepth 20000 in
theorem gL_law_X1_change : GoodIn wsL_law (wsV RL 77 RX1 yX1_change wsX1_change) := goodIn_app (goodIn_of _ (by decide +kernel)) ggL_law_X1_change
set_option maxRecDepth 20000 in
theorem ggL_law_L_value : GoodIn wsL_law wsL_value := goodIn_ca (goodIn_r _ [114, 44, 115, 116, 117, 2, 118, 26, 119, 120, 121, 122, 50, 51, 81, 82, 83, 84, 23, 123, 124, 125, 126, 27, 127, 128, 129, 130, 131, 132, 133, 134, 21, 20, 18, 135, 136, 137, 138, 139, 140, 141, 142, 22, 85, 86, 87, 143, 144, 145, 279, 280, 281, 282, 283, 284, 285, 286, 287, 288, 289] (by decide +kernel) (by decide +kernel)) (goodIn_sub (fun _ h => List.mem_append_left _ (List.mem_append_right _ h)) (by decide +kernel))
set_option maxRecDepth 20000 in
theorem gL_law_L_value : GoodIn wsL_law (va_wsS RL 78 yL_value wsL_value) := goodIn_app (goodIn_of _ (by decide +kernel)) ggL_law_L_value
set_option maxRecDepth 20000 in
theorem ggL_law_X1_value : GoodIn wsL_law wsX1_value := goodIn_r _ [149, 150, 151, 152, 5, 153, 66, 92, 93, 94, 95, 65, 154, 155, 156, 157, 36, 39, 37, 35, 158, 159, 160, 161, 162, 163, 164, 165, 38, 166, 167, 168, 169, 170, 171, 172, 290, 291, 292, 293, 294, 295, 296, 297] (by decide +kernel) (by decide +kernel)
set_option maxRecDepth 20000 in
theorem gL_law_X1_value : GoodIn wsL_law (wsV RL 80 RX1 yX1_value wsX1_value) := goodIn_app (goodIn_of _ (by decide +kernel)) ggL_law_X1_value
set_option maxRecDepth 20000 in
theorem ggL_law_L_best : GoodIn wsL_law wsL_best := goodIn_ca (goodIn_r _ [175, 44, 176, 177, 178, 2, 179, 119, 120, 121, 122, 50, 51, 81, 82, 83, 84, 23, 123, 124, 125, 126, 27, 127, 128, 129, 130, 26, 131, 132, 133, 134, 21, 20, 18, 135, 136, 137, 138, 139, 140, 141, 142, 22, 85, 86, 87, 143, 144, 145, 180, 181, 182, 183, 279, 280, 281, 282, 283, 284, 285, 286, 287, 288, 289] (by decide +kernel) (by decide +kernel)) (goodIn_sub (fun _ h => List.mem_append_left _ (List.mem_append_right _ h)) (by decide +kernel))
set_option maxRecDepth 20000 in
theorem gL_law_L_best : GoodIn wsL_law (va_wsS RL 81 yL_best wsL_best) := goodIn_app (goodIn_of _ (by decide +kernel)) ggL_law_L_best
set_option maxRecDepth 20000 in
theorem ggL_law_X1_best : GoodIn wsL_law wsX1_best := goodIn_r _ [187, 150, 151, 152, 5, 153, 66, 92, 93, 94, 95, 65, 154, 155, 156, 157, 36, 39, 37, 35, 158, 159, 160, 161, 162, 163, 164, 165, 38, 166, 167, 168, 188, 189, 190, 191, 169, 170, 171, 172, 290, 291, 292, 293, 294, 295, 296, 297] (by decide +kernel) (by decide +kernel)
set_option maxRecDepth 20000 in
theorem gL_law_X1_best : GoodIn wsL_law (wsV RL 83 RX1 yX1_best wsX1_best) := goodIn_app (goodIn_of _ (by decide +kernel)) ggL_law_X1_best
set_option maxRecDepth 20000 in
theorem ggL_law_L_reaches : GoodIn wsL_law wsL_reaches := goodIn_ca (goodIn_r _ [194, 44, 195, 196, 197, 2, 198, 26, 119, 120, 121, 122, 50, 51, 81, 82, 83, 84, 23, 123, 124, 125, 126, 27, 127, 128, 129, 130, 131, 132, 133, 134, 21, 20, 18, 135, 136, 137, 138, 139, 140, 141, 142, 22, 85, 86, 87, 143, 144, 145, 279, 280, 281, 282, 283, 284, 285, 286, 287, 288, 289] (by decide +kernel) (by decide +kernel)) (goodIn_sub (fun _ h => List.mem_append_left _ (List.mem_append_right _ h)) (by decide +kernel))
set_option maxRecDepth 20000 in
theorem gL_law_L_reaches : GoodIn wsL_law (va_wsS RL 84 yL_reaches wsL_reaches) := goodIn_app (goodIn_of _ (by decide +kernel)) ggL_law_L_reaches
set_option maxRecDepth 20000 in
theorem ggL_law_X1_reaches : GoodIn wsL_law wsX1_reaches := goodIn_r _ [202, 150, 151, 152, 5, 153, 66, 92, 93, 94, 95, 65, 154, 155, 156, 157, 36, 39, 37, 35, 158, 159, 160, 161, 162, 163, 164, 165, 38, 166, 167, 168, 169, 170, 171, 172, 290, 291, 292, 293, 294, 295, 296, 297] (by decide +kernel) (by decide +kernel)
set_option maxRecDepth 20000 in
theorem gL_law_X1_reaches : GoodIn wsL_law (wsV RL 87 RX1 yX1_reaches wsX1_reaches) := goodIn_app (goodIn_of _ (by decide +kernel)) ggL_law_X1_reaches
set_option maxRecDepth 20000 in
theorem ggL_law_L_line : GoodIn wsL_law wsL_line := goodIn_ca (goodIn_r _ [205, 44, 206, 207, 208, 2, 209, 22, 119, 120, 121, 122, 50, 51, 81, 82, 83, 84, 23, 123, 124, 125, 126, 27, 127, 128, 129, 130, 26, 131, 132, 133, 134, 21, 20, 18, 135, 136, 137, 138, 139, 140, 141, 142, 85, 86, 87, 143, 144, 145, 180, 181, 182, 183, 279, 280, 281, 282, 283, 284, 285, 286, 287, 288, 289] (by decide +kernel) (by decide +kernel)) (goodIn_sub (fun _ h => List.mem_append_left _ (List.mem_append_right _ h)) (by decide +kernel))
set_option maxRecDepth 20000 in
theorem gL_law_L_line : GoodIn wsL_law (va_wsS RL 88 yL_line wsL_line) := goodIn_app (goodIn_of _ (by decide +kernel)) ggL_law_L_line
set_option maxRecDepth 20000 in
theorem ggL_law_X1_line : GoodIn wsL_law wsX1_line := goodIn_r _ [213, 38, 150, 151, 152, 5, 153, 66, 92, 93, 94, 95, 65, 154, 155, 156, 157, 36, 39, 37, 35, 158, 159, 160, 161, 162, 163, 164, 165, 166, 167, 168, 188, 189, 190, 191, 169, 170, 171, 172, 290, 291, 292, 293, 294, 295, 296, 297] (by decide +kernel) (by decide +kernel)
set_option maxRecDepth 20000 in
theorem gL_law_X1_line : GoodIn wsL_law (wsV RL 90 RX1 yX1_line wsX1_line) := goodIn_app (goodIn_of _ (by decide +kernel)) ggL_law_X1_line
set_option maxRecDepth 20000 in
theorem ggL_law_L_ties : GoodIn wsL_law wsL_ties := goodIn_ca (goodIn_r _ [216, 44, 217, 218, 219, 2, 220, 21, 26, 119, 120, 121, 122, 50, 51, 81, 82, 83, 84, 23, 123, 124, 125, 126, 27, 127, 128, 129, 130, 131, 132, 133, 134, 20, 18, 135, 136, 137, 138, 139, 140, 141, 142, 22, 85, 86, 87, 143, 144, 145, 279, 280, 281, 282, 283, 284, 285, 286, 287, 288, 289] (by decide +kernel) (by decide +kernel)) (goodIn_sub (fun _ h => List.mem_append_left _ (List.mem_append_right _ h)) (by decide +kernel))
set_option maxRecDepth 20000 in
theorem gL_law_L_ties : GoodIn wsL_law (va_wsS RL 91 yL_ties wsL_ties) := goodIn_app (goodIn_of _ (by decide +kernel)) ggL_law_L_ties
set_option maxRecDepth 20000 in
theorem ggL_law_X1_ties : GoodIn wsL_law wsX1_ties := goodIn_r _ [224, 37, 150, 151, 152, 5, 153, 66, 92, 93, 94, 95, 65, 154, 155, 156, 157, 36, 39, 35, 158, 159, 160, 161, 162, 163, 164, 165, 38, 166, 167, 168, 169, 170, 171, 172, 290, 291, 292, 293, 294, 295, 296, 297] (by decide +kernel) (by decide +kernel)
set_option maxRecDepth 20000 in
theorem gL_law_X1_ties : GoodIn wsL_law (wsV RL 93 RX1 yX1_ties wsX1_ties) := goodIn_app (goodIn_of _ (by decide +kernel)) ggL_law_X1_ties
set_option maxRecDepth 20000 in
theorem ggL_law_L_settled : GoodIn wsL_law wsL_settled := goodIn_ca (goodIn_r _ [227, 44, 228, 229, 230, 2, 231, 26, 119, 120, 121, 122, 50, 51, 81, 82, 83, 84, 23, 123, 124, 125, 126, 27, 127, 128, 129, 130, 131, 132, 133, 134, 21, 20, 18, 135, 136, 137, 138, 139, 140, 141, 142, 22, 85, 86, 87, 143, 144, 145, 279, 280, 281, 282, 283, 284, 285, 286, 287, 288, 289] (by decide +kernel) (by decide +kernel)) (goodIn_sub (fun _ h => List.mem_append_left _ (List.mem_append_right _ h)) (by decide +kernel))
set_option maxRecDepth 20000 in
theorem gL_law_L_settled : GoodIn wsL_law (va_wsS RL 94 yL_settled wsL_settled) := goodIn_app (goodIn_of _ (by decide +kernel)) ggL_law_L_settled
set_option maxRecDepth 20000 in
theorem ggL_law_X1_settled : GoodIn wsL_law wsX1_settled := goodIn_r _ [235, 150, 151, 152, 5, 153, 66, 92, 93, 94, 95, 65, 154, 155, 156, 157, 36, 39, 37, 35, 158, 159, 160, 161, 162, 163, 164, 165, 38, 166, 167, 168, 169, 170, 171, 172, 290, 291, 292, 293, 294, 295, 296, 297] (by decide +kernel) (by decide +kernel)
set_option maxRecDepth 20000 in
theorem gL_law_X1_settled : GoodIn wsL_law (wsV RL 96 RX1 yX1_settled wsX1_settled) := goodIn_app (goodIn_of _ (by decide +kernel)) ggL_law_X1_settled
set_option maxRecDepth 20000 in
theorem ggL_law_X0_of : GoodIn wsL_law wsX0_of := goodIn_r _ [239, 18, 20, 21, 81, 82, 83, 2, 84, 23, 240, 241, 242, 243, 22, 85, 86, 87, 279, 280, 281, 282, 283, 284, 285, 286, 287, 288, 289] (by decide +kernel) (by decide +kernel)
set_option maxRecDepth 20000 in
theorem gL_law_X0_of : GoodIn wsL_law (wsV RL 97 RX0 yX0_of wsX0_of) := goodIn_app (goodIn_of _ (by decide +kernel)) ggL_law_X0_of
set_option maxRecDepth 20000 in
theorem ggL_law_X1_of : GoodIn wsL_law wsX1_of := goodIn_r _ [247, 66, 35, 36, 37, 38, 92, 93, 94, 5, 95, 65, 290, 291, 292, 293, 294, 295, 296, 297] (by decide +kernel) (by decide +kernel)
set_option maxRecDepth 20000 in
theorem gL_law_X1_of : GoodIn wsL_law (wsV RL 100 RX1 yX1_of wsX1_of) := goodIn_app (goodIn_of _ (by decide +kernel)) ggL_law_X1_of
set_option maxRecDepth 20000 in
theorem ggL_law_L_around : GoodIn wsL_law wsL_around := goodIn_ca (goodIn_r _ [250, 44, 251, 252, 253, 2, 254, 30, 28, 119, 120, 121, 122, 50, 51, 81, 82, 83, 84, 23, 255, 256, 257, 258, 29, 259, 260, 261, 262, 263, 264, 265, 266, 21, 22, 85, 86, 87, 279, 280, 281, 282, 283, 284, 285, 286, 287, 288, 289] (by decide +kernel) (by decide +kernel)) (goodIn_sub (fun _ h => List.mem_append_left _ (List.mem_append_right _ h)) (by decide +kernel))
set_option maxRecDepth 20000 in
theorem gL_law_L_around : GoodIn wsL_law (va_wsS RL 101 yL_around wsL_around) := goodIn_app (goodIn_of _ (by decide +kernel)) ggL_law_L_around
set_option maxRecDepth 20000 in
theorem ggL_law_X1_around : GoodIn wsL_law wsX1_around := goodIn_r _ [270, 66, 65, 40, 37, 38, 92, 93, 94, 5, 95, 290, 291, 292, 293, 294, 295, 296, 297] (by decide +kernel) (by decide +kernel)
set_option maxRecDepth 20000 in
theorem gL_law_X1_around : GoodIn wsL_law (wsV RL 103 RX1 yX1_around wsX1_around) := goodIn_app (goodIn_of _ (by decide +kernel)) ggL_law_X1_around
set_option maxRecDepth 20000 in
theorem ggL_law_X0_look : GoodIn wsL_law wsX0_look := goodIn_r _ [274, 23, 24, 279, 280, 281, 282, 283, 284, 285, 286, 287, 288, 289] (by decide +kernel) (by decide +kernel)
set_option maxRecDepth 20000 in
theorem gL_law_X0_look : GoodIn wsL_law (wsV RL 104 RX0 yX0_look wsX0_look) := goodIn_app (goodIn_of _ (by decide +kernel)) ggL_law_X0_look
set_option maxRecDepth 20000 in
theorem ggL_law_X1_look : GoodIn wsL_law wsX1_look := goodIn_r _ [278, 66, 65, 37, 290, 291, 292, 293, 294, 295, 296, 297] (by decide +kernel) (by decide +kernel)
set_option maxRecDepth 20000 in
theorem gL_law_X1_look : GoodIn wsL_law (wsV RL 108 RX1 yX1_look wsX1_look) := goodIn_app (goodIn_of _ (by decide +kernel)) ggL_law_X1_look
abbrev vwCl : List vw_C := [(RX0, TX0, 11), (RX1, TX1, 8)]
end
section
theorem dX0_init_0 : decode cX0_init 0 = .ok (.aload_n 0, 1) := by decide +kernel
theorem dX0_init_1 : decode cX0_init 1 = .ok (.invokespecial 1, 3) := by decide +kernel
theorem dX0_init_4 : decode cX0_init 4 = .ok (.aload_n 0, 1) := by decide +kernel
theorem dX0_init_5 : decode cX0_init 5 = .ok (.sipush 400, 3) := by decide +kernel
theorem dX0_init_8 : decode cX0_init 8 = .ok (.newarray .int, 2) := by decide +kernel
theorem dX0_init_10 : decode cX0_init 10 = .ok (.putfield 9, 3) := by decide +kernel
theorem dX0_init_13 : decode cX0_init 13 = .ok (.aload_n 0, 1) := by decide +kernel
theorem dX0_init_14 : decode cX0_init 14 = .ok (.sipush 400, 3) := by decide +kernel
theorem dX0_init_17 : decode cX0_init 17 = .ok (.newarray .boolean, 2) := by decide +kernel
theorem dX0_init_19 : decode cX0_init 19 = .ok (.putfield 13, 3) := by decide +kernel
theorem dX0_init_22 : decode cX0_init 22 = .ok (.aload_n 0, 1) := by decide +kernel
theorem dX0_init_23 : decode cX0_init 23 = .ok (.sipush 400, 3) := by decide +kernel
theorem dX0_init_26 : decode cX0_init 26 = .ok (.newarray .int, 2) := by decide +kernel
theorem dX0_init_28 : decode cX0_init 28 = .ok (.putfield 17, 3) := by decide +kernel
theorem dX0_init_31 : decode cX0_init 31 = .ok (.aload_n 0, 1) := by decide +kernel
theorem dX0_init_32 : decode cX0_init 32 = .ok (.sipush 2400, 3) := by decide +kernel
theorem dX0_init_35 : decode cX0_init 35 = .ok (.newarray .int, 2) := by decide +kernel
theorem dX0_init_37 : decode cX0_init 37 = .ok (.putfield 20, 3) := by decide +kernel
theorem dX0_init_40 : decode cX0_init 40 = .ok (.aload_n 0, 1) := by decide +kernel
theorem dX0_init_41 : decode cX0_init 41 = .ok (.iconst 0, 1) := by decide +kernel
theorem dX0_init_42 : decode cX0_init 42 = .ok (.putfield 23, 3) := by decide +kernel
theorem dX0_init_45 : decode cX0_init 45 = .ok (.aload_n 0, 1) := by decide +kernel
theorem dX0_init_46 : decode cX0_init 46 = .ok (.iconst 0, 1) := by decide +kernel
theorem dX0_init_47 : decode cX0_init 47 = .ok (.putfield 27, 3) := by decide +kernel
theorem dX0_init_50 : decode cX0_init 50 = .ok (.aload_n 0, 1) := by decide +kernel
theorem dX0_init_51 : decode cX0_init 51 = .ok (.bipush 8, 2) := by decide +kernel
theorem dX0_init_53 : decode cX0_init 53 = .ok (.sipush 400, 3) := by decide +kernel
theorem dX0_init_56 : decode cX0_init 56 = .ok (.multianewarray 30 2, 4) := by decide +kernel
theorem dX0_init_60 : decode cX0_init 60 = .ok (.putfield 32, 3) := by decide +kernel
theorem dX0_init_63 : decode cX0_init 63 = .ok (.aload_n 0, 1) := by decide +kernel
theorem dX0_init_64 : decode cX0_init 64 = .ok (.iconst 0, 1) := by decide +kernel
theorem dX0_init_65 : decode cX0_init 65 = .ok (.putfield 35, 3) := by decide +kernel
theorem dX0_init_68 : decode cX0_init 68 = .ok (.aload_n 0, 1) := by decide +kernel
theorem dX0_init_69 : decode cX0_init 69 = .ok (.sipush 400, 3) := by decide +kernel
theorem dX0_init_72 : decode cX0_init 72 = .ok (.newarray .int, 2) := by decide +kernel
theorem dX0_init_74 : decode cX0_init 74 = .ok (.putfield 38, 3) := by decide +kernel
theorem dX0_init_77 : decode cX0_init 77 = .ok (.aload_n 0, 1) := by decide +kernel
theorem dX0_init_78 : decode cX0_init 78 = .ok (.sipush 400, 3) := by decide +kernel
theorem dX0_init_81 : decode cX0_init 81 = .ok (.newarray .boolean, 2) := by decide +kernel
theorem dX0_init_83 : decode cX0_init 83 = .ok (.putfield 41, 3) := by decide +kernel
theorem dX0_init_86 : decode cX0_init 86 = .ok (.aload_n 0, 1) := by decide +kernel
theorem dX0_init_87 : decode cX0_init 87 = .ok (.iconst 0, 1) := by decide +kernel
theorem dX0_init_88 : decode cX0_init 88 = .ok (.putfield 44, 3) := by decide +kernel
theorem dX0_init_91 : decode cX0_init 91 = .ok (.return_, 1) := by decide +kernel
theorem dX0_node_0 : decode cX0_node 0 = .ok (.iload_n 1, 1) := by decide +kernel
theorem dX0_node_1 : decode cX0_node 1 = .ok (.invokestatic 47, 3) := by decide +kernel
theorem dX0_node_4 : decode cX0_node 4 = .ok (.ifCond .ne 13, 3) := by decide +kernel
theorem dX0_node_7 : decode cX0_node 7 = .ok (.new 51, 3) := by decide +kernel
theorem dX0_node_10 : decode cX0_node 10 = .ok (.dup, 1) := by decide +kernel
theorem dX0_node_11 : decode cX0_node 11 = .ok (.ldc 53, 2) := by decide +kernel
theorem dX0_node_13 : decode cX0_node 13 = .ok (.invokespecial 55, 3) := by decide +kernel
theorem dX0_node_16 : decode cX0_node 16 = .ok (.athrow, 1) := by decide +kernel
theorem dX0_node_17 : decode cX0_node 17 = .ok (.aload_n 0, 1) := by decide +kernel
theorem dX0_node_18 : decode cX0_node 18 = .ok (.getfield 23, 3) := by decide +kernel
theorem dX0_node_21 : decode cX0_node 21 = .ok (.sipush 400, 3) := by decide +kernel
theorem dX0_node_24 : decode cX0_node 24 = .ok (.if_icmp .lt 13, 3) := by decide +kernel
theorem dX0_node_27 : decode cX0_node 27 = .ok (.new 58, 3) := by decide +kernel
theorem dX0_node_30 : decode cX0_node 30 = .ok (.dup, 1) := by decide +kernel
theorem dX0_node_31 : decode cX0_node 31 = .ok (.ldc 60, 2) := by decide +kernel
theorem dX0_node_33 : decode cX0_node 33 = .ok (.invokespecial 62, 3) := by decide +kernel
theorem dX0_node_36 : decode cX0_node 36 = .ok (.athrow, 1) := by decide +kernel
theorem dX0_node_37 : decode cX0_node 37 = .ok (.aload_n 0, 1) := by decide +kernel
theorem dX0_node_38 : decode cX0_node 38 = .ok (.getfield 23, 3) := by decide +kernel
theorem dX0_node_41 : decode cX0_node 41 = .ok (.istore_n 3, 1) := by decide +kernel
theorem dX0_node_42 : decode cX0_node 42 = .ok (.aload_n 0, 1) := by decide +kernel
theorem dX0_node_43 : decode cX0_node 43 = .ok (.getfield 9, 3) := by decide +kernel
theorem dX0_node_46 : decode cX0_node 46 = .ok (.iload_n 3, 1) := by decide +kernel
theorem dX0_node_47 : decode cX0_node 47 = .ok (.iload_n 1, 1) := by decide +kernel
theorem dX0_node_48 : decode cX0_node 48 = .ok (.iastore, 1) := by decide +kernel
theorem dX0_node_49 : decode cX0_node 49 = .ok (.aload_n 0, 1) := by decide +kernel
theorem dX0_node_50 : decode cX0_node 50 = .ok (.getfield 13, 3) := by decide +kernel
theorem dX0_node_53 : decode cX0_node 53 = .ok (.iload_n 3, 1) := by decide +kernel
theorem dX0_node_54 : decode cX0_node 54 = .ok (.iload_n 2, 1) := by decide +kernel
theorem dX0_node_55 : decode cX0_node 55 = .ok (.bastore, 1) := by decide +kernel
theorem dX0_node_56 : decode cX0_node 56 = .ok (.aload_n 0, 1) := by decide +kernel
theorem dX0_node_57 : decode cX0_node 57 = .ok (.dup, 1) := by decide +kernel
theorem dX0_node_58 : decode cX0_node 58 = .ok (.getfield 23, 3) := by decide +kernel
theorem dX0_node_61 : decode cX0_node 61 = .ok (.iconst 1, 1) := by decide +kernel
theorem dX0_node_62 : decode cX0_node 62 = .ok (.iadd, 1) := by decide +kernel
theorem dX0_node_63 : decode cX0_node 63 = .ok (.putfield 23, 3) := by decide +kernel
theorem dX0_node_66 : decode cX0_node 66 = .ok (.aload_n 0, 1) := by decide +kernel
theorem dX0_node_67 : decode cX0_node 67 = .ok (.invokevirtual 63, 3) := by decide +kernel
theorem dX0_node_70 : decode cX0_node 70 = .ok (.iload_n 3, 1) := by decide +kernel
theorem dX0_node_71 : decode cX0_node 71 = .ok (.ireturn, 1) := by decide +kernel
theorem dX0_move_0 : decode cX0_move 0 = .ok (.aload_n 0, 1) := by decide +kernel
theorem dX0_move_1 : decode cX0_move 1 = .ok (.iload_n 1, 1) := by decide +kernel
theorem dX0_move_2 : decode cX0_move 2 = .ok (.invokevirtual 66, 3) := by decide +kernel
theorem dX0_move_5 : decode cX0_move 5 = .ok (.ifCond .eq 11, 3) := by decide +kernel
theorem dX0_move_8 : decode cX0_move 8 = .ok (.aload_n 0, 1) := by decide +kernel
theorem dX0_move_9 : decode cX0_move 9 = .ok (.iload_n 2, 1) := by decide +kernel
theorem dX0_move_10 : decode cX0_move 10 = .ok (.invokevirtual 66, 3) := by decide +kernel
theorem dX0_move_13 : decode cX0_move 13 = .ok (.ifCond .ne 13, 3) := by decide +kernel
theorem dX0_move_16 : decode cX0_move 16 = .ok (.new 51, 3) := by decide +kernel
theorem dX0_move_19 : decode cX0_move 19 = .ok (.dup, 1) := by decide +kernel
theorem dX0_move_20 : decode cX0_move 20 = .ok (.ldc 69, 2) := by decide +kernel
theorem dX0_move_22 : decode cX0_move 22 = .ok (.invokespecial 55, 3) := by decide +kernel
theorem dX0_move_25 : decode cX0_move 25 = .ok (.athrow, 1) := by decide +kernel
theorem dX0_move_26 : decode cX0_move 26 = .ok (.aload_n 0, 1) := by decide +kernel
theorem dX0_move_27 : decode cX0_move 27 = .ok (.getfield 17, 3) := by decide +kernel
theorem dX0_move_30 : decode cX0_move 30 = .ok (.iload_n 1, 1) := by decide +kernel
theorem dX0_move_31 : decode cX0_move 31 = .ok (.iaload, 1) := by decide +kernel
theorem dX0_move_32 : decode cX0_move 32 = .ok (.bipush 6, 2) := by decide +kernel
theorem dX0_move_34 : decode cX0_move 34 = .ok (.if_icmp .lt 13, 3) := by decide +kernel
theorem dX0_move_37 : decode cX0_move 37 = .ok (.new 58, 3) := by decide +kernel
theorem dX0_move_40 : decode cX0_move 40 = .ok (.dup, 1) := by decide +kernel
theorem dX0_move_41 : decode cX0_move 41 = .ok (.ldc 71, 2) := by decide +kernel
theorem dX0_move_43 : decode cX0_move 43 = .ok (.invokespecial 62, 3) := by decide +kernel
theorem dX0_move_46 : decode cX0_move 46 = .ok (.athrow, 1) := by decide +kernel
theorem dX0_move_47 : decode cX0_move 47 = .ok (.aload_n 0, 1) := by decide +kernel
theorem dX0_move_48 : decode cX0_move 48 = .ok (.getfield 17, 3) := by decide +kernel
theorem dX0_move_51 : decode cX0_move 51 = .ok (.iload_n 1, 1) := by decide +kernel
theorem dX0_move_52 : decode cX0_move 52 = .ok (.iaload, 1) := by decide +kernel
theorem dX0_move_53 : decode cX0_move 53 = .ok (.istore_n 3, 1) := by decide +kernel
theorem dX0_move_54 : decode cX0_move 54 = .ok (.aload_n 0, 1) := by decide +kernel
theorem dX0_move_55 : decode cX0_move 55 = .ok (.getfield 20, 3) := by decide +kernel
theorem dX0_move_58 : decode cX0_move 58 = .ok (.iload_n 1, 1) := by decide +kernel
theorem dX0_move_59 : decode cX0_move 59 = .ok (.iload_n 3, 1) := by decide +kernel
theorem dX0_move_60 : decode cX0_move 60 = .ok (.invokestatic 73, 3) := by decide +kernel
theorem dX0_move_63 : decode cX0_move 63 = .ok (.iload_n 2, 1) := by decide +kernel
theorem dX0_move_64 : decode cX0_move 64 = .ok (.iastore, 1) := by decide +kernel
theorem dX0_move_65 : decode cX0_move 65 = .ok (.aload_n 0, 1) := by decide +kernel
theorem dX0_move_66 : decode cX0_move 66 = .ok (.getfield 17, 3) := by decide +kernel
theorem dX0_move_69 : decode cX0_move 69 = .ok (.iload_n 1, 1) := by decide +kernel
theorem dX0_move_70 : decode cX0_move 70 = .ok (.dup2, 1) := by decide +kernel
theorem dX0_move_71 : decode cX0_move 71 = .ok (.iaload, 1) := by decide +kernel
theorem dX0_move_72 : decode cX0_move 72 = .ok (.iconst 1, 1) := by decide +kernel
theorem dX0_move_73 : decode cX0_move 73 = .ok (.iadd, 1) := by decide +kernel
theorem dX0_move_74 : decode cX0_move 74 = .ok (.iastore, 1) := by decide +kernel
theorem dX0_move_75 : decode cX0_move 75 = .ok (.aload_n 0, 1) := by decide +kernel
theorem dX0_move_76 : decode cX0_move 76 = .ok (.dup, 1) := by decide +kernel
theorem dX0_move_77 : decode cX0_move 77 = .ok (.getfield 27, 3) := by decide +kernel
theorem dX0_move_80 : decode cX0_move 80 = .ok (.iconst 1, 1) := by decide +kernel
theorem dX0_move_81 : decode cX0_move 81 = .ok (.iadd, 1) := by decide +kernel
theorem dX0_move_82 : decode cX0_move 82 = .ok (.putfield 27, 3) := by decide +kernel
theorem dX0_move_85 : decode cX0_move 85 = .ok (.aload_n 0, 1) := by decide +kernel
theorem dX0_move_86 : decode cX0_move 86 = .ok (.invokevirtual 63, 3) := by decide +kernel
theorem dX0_move_89 : decode cX0_move 89 = .ok (.iload_n 3, 1) := by decide +kernel
theorem dX0_move_90 : decode cX0_move 90 = .ok (.ireturn, 1) := by decide +kernel
theorem dX0_drop_0 : decode cX0_drop 0 = .ok (.aload_n 0, 1) := by decide +kernel
theorem dX0_drop_1 : decode cX0_drop 1 = .ok (.iload_n 1, 1) := by decide +kernel
theorem dX0_drop_2 : decode cX0_drop 2 = .ok (.invokevirtual 66, 3) := by decide +kernel
theorem dX0_drop_5 : decode cX0_drop 5 = .ok (.ifCond .eq 12, 3) := by decide +kernel
theorem dX0_drop_8 : decode cX0_drop 8 = .ok (.aload_n 0, 1) := by decide +kernel
theorem dX0_drop_9 : decode cX0_drop 9 = .ok (.getfield 17, 3) := by decide +kernel
theorem dX0_drop_12 : decode cX0_drop 12 = .ok (.iload_n 1, 1) := by decide +kernel
theorem dX0_drop_13 : decode cX0_drop 13 = .ok (.iaload, 1) := by decide +kernel
theorem dX0_drop_14 : decode cX0_drop 14 = .ok (.ifCond .ne 5, 3) := by decide +kernel
theorem dX0_drop_17 : decode cX0_drop 17 = .ok (.iconst 0, 1) := by decide +kernel
theorem dX0_drop_18 : decode cX0_drop 18 = .ok (.ireturn, 1) := by decide +kernel
theorem dX0_drop_19 : decode cX0_drop 19 = .ok (.aload_n 0, 1) := by decide +kernel
theorem dX0_drop_20 : decode cX0_drop 20 = .ok (.getfield 17, 3) := by decide +kernel
theorem dX0_drop_23 : decode cX0_drop 23 = .ok (.iload_n 1, 1) := by decide +kernel
theorem dX0_drop_24 : decode cX0_drop 24 = .ok (.dup2, 1) := by decide +kernel
theorem dX0_drop_25 : decode cX0_drop 25 = .ok (.iaload, 1) := by decide +kernel
theorem dX0_drop_26 : decode cX0_drop 26 = .ok (.iconst 1, 1) := by decide +kernel
theorem dX0_drop_27 : decode cX0_drop 27 = .ok (.isub, 1) := by decide +kernel
theorem dX0_drop_28 : decode cX0_drop 28 = .ok (.iastore, 1) := by decide +kernel
theorem dX0_drop_29 : decode cX0_drop 29 = .ok (.aload_n 0, 1) := by decide +kernel
theorem dX0_drop_30 : decode cX0_drop 30 = .ok (.dup, 1) := by decide +kernel
theorem dX0_drop_31 : decode cX0_drop 31 = .ok (.getfield 27, 3) := by decide +kernel
theorem dX0_drop_34 : decode cX0_drop 34 = .ok (.iconst 1, 1) := by decide +kernel
theorem dX0_drop_35 : decode cX0_drop 35 = .ok (.isub, 1) := by decide +kernel
theorem dX0_drop_36 : decode cX0_drop 36 = .ok (.putfield 27, 3) := by decide +kernel
theorem dX0_drop_39 : decode cX0_drop 39 = .ok (.aload_n 0, 1) := by decide +kernel
theorem dX0_drop_40 : decode cX0_drop 40 = .ok (.invokevirtual 63, 3) := by decide +kernel
theorem dX0_drop_43 : decode cX0_drop 43 = .ok (.iconst 1, 1) := by decide +kernel
theorem dX0_drop_44 : decode cX0_drop 44 = .ok (.ireturn, 1) := by decide +kernel
theorem dX0_change_0 : decode cX0_change 0 = .ok (.aload_n 0, 1) := by decide +kernel
theorem dX0_change_1 : decode cX0_change 1 = .ok (.iload_n 1, 1) := by decide +kernel
theorem dX0_change_2 : decode cX0_change 2 = .ok (.invokevirtual 66, 3) := by decide +kernel
theorem dX0_change_5 : decode cX0_change 5 = .ok (.ifCond .eq 10, 3) := by decide +kernel
theorem dX0_change_8 : decode cX0_change 8 = .ok (.iload_n 2, 1) := by decide +kernel
theorem dX0_change_9 : decode cX0_change 9 = .ok (.invokestatic 47, 3) := by decide +kernel
theorem dX0_change_12 : decode cX0_change 12 = .ok (.ifCond .ne 5, 3) := by decide +kernel
theorem dX0_change_15 : decode cX0_change 15 = .ok (.iconst 0, 1) := by decide +kernel
theorem dX0_change_16 : decode cX0_change 16 = .ok (.ireturn, 1) := by decide +kernel
theorem dX0_change_17 : decode cX0_change 17 = .ok (.aload_n 0, 1) := by decide +kernel
theorem dX0_change_18 : decode cX0_change 18 = .ok (.getfield 9, 3) := by decide +kernel
theorem dX0_change_21 : decode cX0_change 21 = .ok (.iload_n 1, 1) := by decide +kernel
theorem dX0_change_22 : decode cX0_change 22 = .ok (.iload_n 2, 1) := by decide +kernel
theorem dX0_change_23 : decode cX0_change 23 = .ok (.iastore, 1) := by decide +kernel
theorem dX0_change_24 : decode cX0_change 24 = .ok (.aload_n 0, 1) := by decide +kernel
theorem dX0_change_25 : decode cX0_change 25 = .ok (.getfield 13, 3) := by decide +kernel
theorem dX0_change_28 : decode cX0_change 28 = .ok (.iload_n 1, 1) := by decide +kernel
theorem dX0_change_29 : decode cX0_change 29 = .ok (.iload_n 3, 1) := by decide +kernel
theorem dX0_change_30 : decode cX0_change 30 = .ok (.bastore, 1) := by decide +kernel
theorem dX0_change_31 : decode cX0_change 31 = .ok (.aload_n 0, 1) := by decide +kernel
theorem dX0_change_32 : decode cX0_change 32 = .ok (.invokevirtual 63, 3) := by decide +kernel
theorem dX0_change_35 : decode cX0_change 35 = .ok (.iconst 1, 1) := by decide +kernel
theorem dX0_change_36 : decode cX0_change 36 = .ok (.ireturn, 1) := by decide +kernel
theorem dX0_value_0 : decode cX0_value 0 = .ok (.aload_n 0, 1) := by decide +kernel
theorem dX0_value_1 : decode cX0_value 1 = .ok (.iload_n 1, 1) := by decide +kernel
theorem dX0_value_2 : decode cX0_value 2 = .ok (.iload_n 2, 1) := by decide +kernel
theorem dX0_value_3 : decode cX0_value 3 = .ok (.invokevirtual 77, 3) := by decide +kernel
theorem dX0_value_6 : decode cX0_value 6 = .ok (.aload_n 0, 1) := by decide +kernel
theorem dX0_value_7 : decode cX0_value 7 = .ok (.iload_n 2, 1) := by decide +kernel
theorem dX0_value_8 : decode cX0_value 8 = .ok (.invokevirtual 81, 3) := by decide +kernel
theorem dX0_value_11 : decode cX0_value 11 = .ok (.aload_n 0, 1) := by decide +kernel
theorem dX0_value_12 : decode cX0_value 12 = .ok (.getfield 32, 3) := by decide +kernel
theorem dX0_value_15 : decode cX0_value 15 = .ok (.iload_n 2, 1) := by decide +kernel
theorem dX0_value_16 : decode cX0_value 16 = .ok (.aaload, 1) := by decide +kernel
theorem dX0_value_17 : decode cX0_value 17 = .ok (.iload_n 1, 1) := by decide +kernel
theorem dX0_value_18 : decode cX0_value 18 = .ok (.iaload, 1) := by decide +kernel
theorem dX0_value_19 : decode cX0_value 19 = .ok (.ireturn, 1) := by decide +kernel
theorem dX0_best_0 : decode cX0_best 0 = .ok (.aload_n 0, 1) := by decide +kernel
theorem dX0_best_1 : decode cX0_best 1 = .ok (.iload_n 1, 1) := by decide +kernel
theorem dX0_best_2 : decode cX0_best 2 = .ok (.iload_n 2, 1) := by decide +kernel
theorem dX0_best_3 : decode cX0_best 3 = .ok (.invokevirtual 77, 3) := by decide +kernel
theorem dX0_best_6 : decode cX0_best 6 = .ok (.aload_n 0, 1) := by decide +kernel
theorem dX0_best_7 : decode cX0_best 7 = .ok (.iload_n 2, 1) := by decide +kernel
theorem dX0_best_8 : decode cX0_best 8 = .ok (.invokevirtual 81, 3) := by decide +kernel
theorem dX0_best_11 : decode cX0_best 11 = .ok (.aload_n 0, 1) := by decide +kernel
theorem dX0_best_12 : decode cX0_best 12 = .ok (.iload_n 1, 1) := by decide +kernel
theorem dX0_best_13 : decode cX0_best 13 = .ok (.iload_n 2, 1) := by decide +kernel
theorem dX0_best_14 : decode cX0_best 14 = .ok (.invokevirtual 85, 3) := by decide +kernel
theorem dX0_best_17 : decode cX0_best 17 = .ok (.ireturn, 1) := by decide +kernel
theorem dX0_reaches_0 : decode cX0_reaches 0 = .ok (.aload_n 0, 1) := by decide +kernel
theorem dX0_reaches_1 : decode cX0_reaches 1 = .ok (.iload_n 1, 1) := by decide +kernel
theorem dX0_reaches_2 : decode cX0_reaches 2 = .ok (.iload_n 2, 1) := by decide +kernel
theorem dX0_reaches_3 : decode cX0_reaches 3 = .ok (.invokevirtual 77, 3) := by decide +kernel
theorem dX0_reaches_6 : decode cX0_reaches 6 = .ok (.aload_n 0, 1) := by decide +kernel
theorem dX0_reaches_7 : decode cX0_reaches 7 = .ok (.iload_n 2, 1) := by decide +kernel
theorem dX0_reaches_8 : decode cX0_reaches 8 = .ok (.invokevirtual 81, 3) := by decide +kernel
theorem dX0_reaches_11 : decode cX0_reaches 11 = .ok (.aload_n 0, 1) := by decide +kernel
theorem dX0_reaches_12 : decode cX0_reaches 12 = .ok (.getfield 32, 3) := by decide +kernel
theorem dX0_reaches_15 : decode cX0_reaches 15 = .ok (.iload_n 2, 1) := by decide +kernel
theorem dX0_reaches_16 : decode cX0_reaches 16 = .ok (.aaload, 1) := by decide +kernel
theorem dX0_reaches_17 : decode cX0_reaches 17 = .ok (.iload_n 1, 1) := by decide +kernel
theorem dX0_reaches_18 : decode cX0_reaches 18 = .ok (.iaload, 1) := by decide +kernel
theorem dX0_reaches_19 : decode cX0_reaches 19 = .ok (.iload_n 3, 1) := by decide +kernel
theorem dX0_reaches_20 : decode cX0_reaches 20 = .ok (.if_icmp .lt 7, 3) := by decide +kernel
theorem dX0_reaches_23 : decode cX0_reaches 23 = .ok (.iconst 1, 1) := by decide +kernel
theorem dX0_reaches_24 : decode cX0_reaches 24 = .ok (.goto 4, 3) := by decide +kernel
theorem dX0_reaches_27 : decode cX0_reaches 27 = .ok (.iconst 0, 1) := by decide +kernel
theorem dX0_reaches_28 : decode cX0_reaches 28 = .ok (.ireturn, 1) := by decide +kernel
theorem dX0_line_0 : decode cX0_line 0 = .ok (.aload_n 0, 1) := by decide +kernel
theorem dX0_line_1 : decode cX0_line 1 = .ok (.iload_n 1, 1) := by decide +kernel
theorem dX0_line_2 : decode cX0_line 2 = .ok (.iload_n 2, 1) := by decide +kernel
theorem dX0_line_3 : decode cX0_line 3 = .ok (.invokevirtual 77, 3) := by decide +kernel
theorem dX0_line_6 : decode cX0_line 6 = .ok (.iload_n 3, 1) := by decide +kernel
theorem dX0_line_7 : decode cX0_line 7 = .ok (.ifCond .lt 8, 3) := by decide +kernel
theorem dX0_line_10 : decode cX0_line 10 = .ok (.iload_n 3, 1) := by decide +kernel
theorem dX0_line_11 : decode cX0_line 11 = .ok (.iload_n 2, 1) := by decide +kernel
theorem dX0_line_12 : decode cX0_line 12 = .ok (.if_icmp .le 5, 3) := by decide +kernel
theorem dX0_line_15 : decode cX0_line 15 = .ok (.iconst (-1), 1) := by decide +kernel
theorem dX0_line_16 : decode cX0_line 16 = .ok (.ireturn, 1) := by decide +kernel
theorem dX0_line_17 : decode cX0_line 17 = .ok (.aload_n 0, 1) := by decide +kernel
theorem dX0_line_18 : decode cX0_line 18 = .ok (.iload_n 2, 1) := by decide +kernel
theorem dX0_line_19 : decode cX0_line 19 = .ok (.invokevirtual 81, 3) := by decide +kernel
theorem dX0_line_22 : decode cX0_line 22 = .ok (.iload_n 1, 1) := by decide +kernel
theorem dX0_line_23 : decode cX0_line 23 = .ok (.istore 4, 2) := by decide +kernel
theorem dX0_line_25 : decode cX0_line 25 = .ok (.iconst 0, 1) := by decide +kernel
theorem dX0_line_26 : decode cX0_line 26 = .ok (.istore 5, 2) := by decide +kernel
theorem dX0_line_28 : decode cX0_line 28 = .ok (.iload 5, 2) := by decide +kernel
theorem dX0_line_30 : decode cX0_line 30 = .ok (.iload_n 3, 1) := by decide +kernel
theorem dX0_line_31 : decode cX0_line 31 = .ok (.if_icmp .ge 43, 3) := by decide +kernel
theorem dX0_line_34 : decode cX0_line 34 = .ok (.aload_n 0, 1) := by decide +kernel
theorem dX0_line_35 : decode cX0_line 35 = .ok (.iload 4, 2) := by decide +kernel
theorem dX0_line_37 : decode cX0_line 37 = .ok (.iload_n 2, 1) := by decide +kernel
theorem dX0_line_38 : decode cX0_line 38 = .ok (.iload 5, 2) := by decide +kernel
theorem dX0_line_40 : decode cX0_line 40 = .ok (.isub, 1) := by decide +kernel
theorem dX0_line_41 : decode cX0_line 41 = .ok (.invokevirtual 85, 3) := by decide +kernel
theorem dX0_line_44 : decode cX0_line 44 = .ok (.istore 6, 2) := by decide +kernel
theorem dX0_line_46 : decode cX0_line 46 = .ok (.iload 6, 2) := by decide +kernel
theorem dX0_line_48 : decode cX0_line 48 = .ok (.iconst (-1), 1) := by decide +kernel
theorem dX0_line_49 : decode cX0_line 49 = .ok (.if_icmp .ne 5, 3) := by decide +kernel
theorem dX0_line_52 : decode cX0_line 52 = .ok (.iconst (-1), 1) := by decide +kernel
theorem dX0_line_53 : decode cX0_line 53 = .ok (.ireturn, 1) := by decide +kernel
theorem dX0_line_54 : decode cX0_line 54 = .ok (.aload_n 0, 1) := by decide +kernel
theorem dX0_line_55 : decode cX0_line 55 = .ok (.getfield 20, 3) := by decide +kernel
theorem dX0_line_58 : decode cX0_line 58 = .ok (.iload 4, 2) := by decide +kernel
theorem dX0_line_60 : decode cX0_line 60 = .ok (.iload 6, 2) := by decide +kernel
theorem dX0_line_62 : decode cX0_line 62 = .ok (.invokestatic 73, 3) := by decide +kernel
theorem dX0_line_65 : decode cX0_line 65 = .ok (.iaload, 1) := by decide +kernel
theorem dX0_line_66 : decode cX0_line 66 = .ok (.istore 4, 2) := by decide +kernel
theorem dX0_line_68 : decode cX0_line 68 = .ok (.iinc 5 1, 3) := by decide +kernel
theorem dX0_line_71 : decode cX0_line 71 = .ok (.goto (-43), 3) := by decide +kernel
theorem dX0_line_74 : decode cX0_line 74 = .ok (.iload 4, 2) := by decide +kernel
theorem dX0_line_76 : decode cX0_line 76 = .ok (.ireturn, 1) := by decide +kernel
theorem dX0_ties_0 : decode cX0_ties 0 = .ok (.aload_n 0, 1) := by decide +kernel
theorem dX0_ties_1 : decode cX0_ties 1 = .ok (.iload_n 1, 1) := by decide +kernel
theorem dX0_ties_2 : decode cX0_ties 2 = .ok (.iload_n 2, 1) := by decide +kernel
theorem dX0_ties_3 : decode cX0_ties 3 = .ok (.invokevirtual 77, 3) := by decide +kernel
theorem dX0_ties_6 : decode cX0_ties 6 = .ok (.iload_n 2, 1) := by decide +kernel
theorem dX0_ties_7 : decode cX0_ties 7 = .ok (.ifCond .ne 5, 3) := by decide +kernel
theorem dX0_ties_10 : decode cX0_ties 10 = .ok (.iconst 0, 1) := by decide +kernel
theorem dX0_ties_11 : decode cX0_ties 11 = .ok (.ireturn, 1) := by decide +kernel
theorem dX0_ties_12 : decode cX0_ties 12 = .ok (.aload_n 0, 1) := by decide +kernel
theorem dX0_ties_13 : decode cX0_ties 13 = .ok (.iload_n 2, 1) := by decide +kernel
theorem dX0_ties_14 : decode cX0_ties 14 = .ok (.invokevirtual 81, 3) := by decide +kernel
theorem dX0_ties_17 : decode cX0_ties 17 = .ok (.iconst 0, 1) := by decide +kernel
theorem dX0_ties_18 : decode cX0_ties 18 = .ok (.istore_n 3, 1) := by decide +kernel
theorem dX0_ties_19 : decode cX0_ties 19 = .ok (.iconst 0, 1) := by decide +kernel
theorem dX0_ties_20 : decode cX0_ties 20 = .ok (.istore 4, 2) := by decide +kernel
theorem dX0_ties_22 : decode cX0_ties 22 = .ok (.iload 4, 2) := by decide +kernel
theorem dX0_ties_24 : decode cX0_ties 24 = .ok (.aload_n 0, 1) := by decide +kernel
theorem dX0_ties_25 : decode cX0_ties 25 = .ok (.getfield 17, 3) := by decide +kernel
theorem dX0_ties_28 : decode cX0_ties 28 = .ok (.iload_n 1, 1) := by decide +kernel
theorem dX0_ties_29 : decode cX0_ties 29 = .ok (.iaload, 1) := by decide +kernel
theorem dX0_ties_30 : decode cX0_ties 30 = .ok (.if_icmp .ge 31, 3) := by decide +kernel
theorem dX0_ties_33 : decode cX0_ties 33 = .ok (.aload_n 0, 1) := by decide +kernel
theorem dX0_ties_34 : decode cX0_ties 34 = .ok (.iload_n 1, 1) := by decide +kernel
theorem dX0_ties_35 : decode cX0_ties 35 = .ok (.iload 4, 2) := by decide +kernel
theorem dX0_ties_37 : decode cX0_ties 37 = .ok (.iload_n 2, 1) := by decide +kernel
theorem dX0_ties_38 : decode cX0_ties 38 = .ok (.invokevirtual 88, 3) := by decide +kernel
theorem dX0_ties_41 : decode cX0_ties 41 = .ok (.aload_n 0, 1) := by decide +kernel
theorem dX0_ties_42 : decode cX0_ties 42 = .ok (.getfield 32, 3) := by decide +kernel
theorem dX0_ties_45 : decode cX0_ties 45 = .ok (.iload_n 2, 1) := by decide +kernel
theorem dX0_ties_46 : decode cX0_ties 46 = .ok (.aaload, 1) := by decide +kernel
theorem dX0_ties_47 : decode cX0_ties 47 = .ok (.iload_n 1, 1) := by decide +kernel
theorem dX0_ties_48 : decode cX0_ties 48 = .ok (.iaload, 1) := by decide +kernel
theorem dX0_ties_49 : decode cX0_ties 49 = .ok (.if_icmp .ne 6, 3) := by decide +kernel
theorem dX0_ties_52 : decode cX0_ties 52 = .ok (.iinc 3 1, 3) := by decide +kernel
theorem dX0_ties_55 : decode cX0_ties 55 = .ok (.iinc 4 1, 3) := by decide +kernel
theorem dX0_ties_58 : decode cX0_ties 58 = .ok (.goto (-36), 3) := by decide +kernel
theorem dX0_ties_61 : decode cX0_ties 61 = .ok (.iload_n 3, 1) := by decide +kernel
theorem dX0_ties_62 : decode cX0_ties 62 = .ok (.ireturn, 1) := by decide +kernel
theorem dX0_settled_0 : decode cX0_settled 0 = .ok (.aload_n 0, 1) := by decide +kernel
theorem dX0_settled_1 : decode cX0_settled 1 = .ok (.iload_n 1, 1) := by decide +kernel
theorem dX0_settled_2 : decode cX0_settled 2 = .ok (.iload_n 2, 1) := by decide +kernel
theorem dX0_settled_3 : decode cX0_settled 3 = .ok (.invokevirtual 77, 3) := by decide +kernel
theorem dX0_settled_6 : decode cX0_settled 6 = .ok (.aload_n 0, 1) := by decide +kernel
theorem dX0_settled_7 : decode cX0_settled 7 = .ok (.iload_n 2, 1) := by decide +kernel
theorem dX0_settled_8 : decode cX0_settled 8 = .ok (.invokevirtual 81, 3) := by decide +kernel
theorem dX0_settled_11 : decode cX0_settled 11 = .ok (.iload_n 2, 1) := by decide +kernel
theorem dX0_settled_12 : decode cX0_settled 12 = .ok (.istore_n 3, 1) := by decide +kernel
theorem dX0_settled_13 : decode cX0_settled 13 = .ok (.iload_n 3, 1) := by decide +kernel
theorem dX0_settled_14 : decode cX0_settled 14 = .ok (.ifCond .le 30, 3) := by decide +kernel
theorem dX0_settled_17 : decode cX0_settled 17 = .ok (.aload_n 0, 1) := by decide +kernel
theorem dX0_settled_18 : decode cX0_settled 18 = .ok (.getfield 32, 3) := by decide +kernel
theorem dX0_settled_21 : decode cX0_settled 21 = .ok (.iload_n 3, 1) := by decide +kernel
theorem dX0_settled_22 : decode cX0_settled 22 = .ok (.iconst 1, 1) := by decide +kernel
theorem dX0_settled_23 : decode cX0_settled 23 = .ok (.isub, 1) := by decide +kernel
theorem dX0_settled_24 : decode cX0_settled 24 = .ok (.aaload, 1) := by decide +kernel
theorem dX0_settled_25 : decode cX0_settled 25 = .ok (.iload_n 1, 1) := by decide +kernel
theorem dX0_settled_26 : decode cX0_settled 26 = .ok (.iaload, 1) := by decide +kernel
theorem dX0_settled_27 : decode cX0_settled 27 = .ok (.aload_n 0, 1) := by decide +kernel
theorem dX0_settled_28 : decode cX0_settled 28 = .ok (.getfield 32, 3) := by decide +kernel
theorem dX0_settled_31 : decode cX0_settled 31 = .ok (.iload_n 2, 1) := by decide +kernel
theorem dX0_settled_32 : decode cX0_settled 32 = .ok (.aaload, 1) := by decide +kernel
theorem dX0_settled_33 : decode cX0_settled 33 = .ok (.iload_n 1, 1) := by decide +kernel
theorem dX0_settled_34 : decode cX0_settled 34 = .ok (.iaload, 1) := by decide +kernel
theorem dX0_settled_35 : decode cX0_settled 35 = .ok (.if_icmp .ne 9, 3) := by decide +kernel
theorem dX0_settled_38 : decode cX0_settled 38 = .ok (.iinc 3 (-1), 3) := by decide +kernel
theorem dX0_settled_41 : decode cX0_settled 41 = .ok (.goto (-28), 3) := by decide +kernel
theorem dX0_settled_44 : decode cX0_settled 44 = .ok (.iload_n 3, 1) := by decide +kernel
theorem dX0_settled_45 : decode cX0_settled 45 = .ok (.ireturn, 1) := by decide +kernel
theorem dX0_of_0 : decode cX0_of 0 = .ok (.aload_n 0, 1) := by decide +kernel
theorem dX0_of_1 : decode cX0_of 1 = .ok (.iload_n 1, 1) := by decide +kernel
theorem dX0_of_2 : decode cX0_of 2 = .ok (.invokevirtual 66, 3) := by decide +kernel
theorem dX0_of_5 : decode cX0_of 5 = .ok (.ifCond .ne 5, 3) := by decide +kernel
theorem dX0_of_8 : decode cX0_of 8 = .ok (.iconst (-1), 1) := by decide +kernel
theorem dX0_of_9 : decode cX0_of 9 = .ok (.ireturn, 1) := by decide +kernel
theorem dX0_of_10 : decode cX0_of 10 = .ok (.iload_n 2, 1) := by decide +kernel
theorem dX0_of_11 : decode cX0_of 11 = .ok (.tableswitch 54 0 2 #[25, 32, 47], 25) := by decide +kernel
theorem dX0_of_36 : decode cX0_of 36 = .ok (.aload_n 0, 1) := by decide +kernel
theorem dX0_of_37 : decode cX0_of 37 = .ok (.getfield 9, 3) := by decide +kernel
theorem dX0_of_40 : decode cX0_of 40 = .ok (.iload_n 1, 1) := by decide +kernel
theorem dX0_of_41 : decode cX0_of 41 = .ok (.iaload, 1) := by decide +kernel
theorem dX0_of_42 : decode cX0_of 42 = .ok (.ireturn, 1) := by decide +kernel
theorem dX0_of_43 : decode cX0_of 43 = .ok (.aload_n 0, 1) := by decide +kernel
theorem dX0_of_44 : decode cX0_of 44 = .ok (.getfield 13, 3) := by decide +kernel
theorem dX0_of_47 : decode cX0_of 47 = .ok (.iload_n 1, 1) := by decide +kernel
theorem dX0_of_48 : decode cX0_of 48 = .ok (.baload, 1) := by decide +kernel
theorem dX0_of_49 : decode cX0_of 49 = .ok (.ifCond .eq 7, 3) := by decide +kernel
theorem dX0_of_52 : decode cX0_of 52 = .ok (.iconst 1, 1) := by decide +kernel
theorem dX0_of_53 : decode cX0_of 53 = .ok (.goto 4, 3) := by decide +kernel
theorem dX0_of_56 : decode cX0_of 56 = .ok (.iconst 0, 1) := by decide +kernel
theorem dX0_of_57 : decode cX0_of 57 = .ok (.ireturn, 1) := by decide +kernel
theorem dX0_of_58 : decode cX0_of 58 = .ok (.aload_n 0, 1) := by decide +kernel
theorem dX0_of_59 : decode cX0_of 59 = .ok (.getfield 17, 3) := by decide +kernel
theorem dX0_of_62 : decode cX0_of 62 = .ok (.iload_n 1, 1) := by decide +kernel
theorem dX0_of_63 : decode cX0_of 63 = .ok (.iaload, 1) := by decide +kernel
theorem dX0_of_64 : decode cX0_of 64 = .ok (.ireturn, 1) := by decide +kernel
theorem dX0_of_65 : decode cX0_of 65 = .ok (.aload_n 0, 1) := by decide +kernel
theorem dX0_of_66 : decode cX0_of 66 = .ok (.iload_n 1, 1) := by decide +kernel
theorem dX0_of_67 : decode cX0_of 67 = .ok (.iload_n 2, 1) := by decide +kernel
theorem dX0_of_68 : decode cX0_of 68 = .ok (.invokevirtual 92, 3) := by decide +kernel
theorem dX0_of_71 : decode cX0_of 71 = .ok (.ireturn, 1) := by decide +kernel
theorem dX0_around_0 : decode cX0_around 0 = .ok (.aload_n 0, 1) := by decide +kernel
theorem dX0_around_1 : decode cX0_around 1 = .ok (.iload_n 1, 1) := by decide +kernel
theorem dX0_around_2 : decode cX0_around 2 = .ok (.iload_n 2, 1) := by decide +kernel
theorem dX0_around_3 : decode cX0_around 3 = .ok (.invokevirtual 77, 3) := by decide +kernel
theorem dX0_around_6 : decode cX0_around 6 = .ok (.aload_n 0, 1) := by decide +kernel
theorem dX0_around_7 : decode cX0_around 7 = .ok (.invokevirtual 95, 3) := by decide +kernel
theorem dX0_around_10 : decode cX0_around 10 = .ok (.aload_n 0, 1) := by decide +kernel
theorem dX0_around_11 : decode cX0_around 11 = .ok (.iload_n 1, 1) := by decide +kernel
theorem dX0_around_12 : decode cX0_around 12 = .ok (.invokevirtual 98, 3) := by decide +kernel
theorem dX0_around_15 : decode cX0_around 15 = .ok (.iconst 0, 1) := by decide +kernel
theorem dX0_around_16 : decode cX0_around 16 = .ok (.istore_n 3, 1) := by decide +kernel
theorem dX0_around_17 : decode cX0_around 17 = .ok (.iconst 0, 1) := by decide +kernel
theorem dX0_around_18 : decode cX0_around 18 = .ok (.istore 4, 2) := by decide +kernel
theorem dX0_around_20 : decode cX0_around 20 = .ok (.iload 4, 2) := by decide +kernel
theorem dX0_around_22 : decode cX0_around 22 = .ok (.iload_n 2, 1) := by decide +kernel
theorem dX0_around_23 : decode cX0_around 23 = .ok (.if_icmp .ge 37, 3) := by decide +kernel
theorem dX0_around_26 : decode cX0_around 26 = .ok (.aload_n 0, 1) := by decide +kernel
theorem dX0_around_27 : decode cX0_around 27 = .ok (.getfield 44, 3) := by decide +kernel
theorem dX0_around_30 : decode cX0_around 30 = .ok (.istore 5, 2) := by decide +kernel
theorem dX0_around_32 : decode cX0_around 32 = .ok (.iload_n 3, 1) := by decide +kernel
theorem dX0_around_33 : decode cX0_around 33 = .ok (.iload 5, 2) := by decide +kernel
theorem dX0_around_35 : decode cX0_around 35 = .ok (.if_icmp .ge 19, 3) := by decide +kernel
theorem dX0_around_38 : decode cX0_around 38 = .ok (.aload_n 0, 1) := by decide +kernel
theorem dX0_around_39 : decode cX0_around 39 = .ok (.aload_n 0, 1) := by decide +kernel
theorem dX0_around_40 : decode cX0_around 40 = .ok (.getfield 38, 3) := by decide +kernel
theorem dX0_around_43 : decode cX0_around 43 = .ok (.iload_n 3, 1) := by decide +kernel
theorem dX0_around_44 : decode cX0_around 44 = .ok (.iaload, 1) := by decide +kernel
theorem dX0_around_45 : decode cX0_around 45 = .ok (.invokevirtual 101, 3) := by decide +kernel
theorem dX0_around_48 : decode cX0_around 48 = .ok (.iinc 3 1, 3) := by decide +kernel
theorem dX0_around_51 : decode cX0_around 51 = .ok (.goto (-19), 3) := by decide +kernel
theorem dX0_around_54 : decode cX0_around 54 = .ok (.iinc 4 1, 3) := by decide +kernel
theorem dX0_around_57 : decode cX0_around 57 = .ok (.goto (-37), 3) := by decide +kernel
theorem dX0_around_60 : decode cX0_around 60 = .ok (.aload_n 0, 1) := by decide +kernel
theorem dX0_around_61 : decode cX0_around 61 = .ok (.getfield 44, 3) := by decide +kernel
theorem dX0_around_64 : decode cX0_around 64 = .ok (.ireturn, 1) := by decide +kernel
theorem dX0_look_0 : decode cX0_look 0 = .ok (.iload_n 1, 1) := by decide +kernel
theorem dX0_look_1 : decode cX0_look 1 = .ok (.lookupswitch 37 #[(0, 27), (1, 32)], 27) := by decide +kernel
theorem dX0_look_28 : decode cX0_look 28 = .ok (.aload_n 0, 1) := by decide +kernel
theorem dX0_look_29 : decode cX0_look 29 = .ok (.getfield 23, 3) := by decide +kernel
theorem dX0_look_32 : decode cX0_look 32 = .ok (.ireturn, 1) := by decide +kernel
theorem dX0_look_33 : decode cX0_look 33 = .ok (.aload_n 0, 1) := by decide +kernel
theorem dX0_look_34 : decode cX0_look 34 = .ok (.getfield 27, 3) := by decide +kernel
theorem dX0_look_37 : decode cX0_look 37 = .ok (.ireturn, 1) := by decide +kernel
theorem dX0_look_38 : decode cX0_look 38 = .ok (.iconst (-1), 1) := by decide +kernel
theorem dX0_look_39 : decode cX0_look 39 = .ok (.ireturn, 1) := by decide +kernel
theorem dX0_isWorth_0 : decode cX0_isWorth 0 = .ok (.iload_n 0, 1) := by decide +kernel
theorem dX0_isWorth_1 : decode cX0_isWorth 1 = .ok (.sipush (-500), 3) := by decide +kernel
theorem dX0_isWorth_4 : decode cX0_isWorth 4 = .ok (.if_icmp .lt 14, 3) := by decide +kernel
theorem dX0_isWorth_7 : decode cX0_isWorth 7 = .ok (.iload_n 0, 1) := by decide +kernel
theorem dX0_isWorth_8 : decode cX0_isWorth 8 = .ok (.sipush 500, 3) := by decide +kernel
theorem dX0_isWorth_11 : decode cX0_isWorth 11 = .ok (.if_icmp .gt 7, 3) := by decide +kernel
theorem dX0_isWorth_14 : decode cX0_isWorth 14 = .ok (.iconst 1, 1) := by decide +kernel
theorem dX0_isWorth_15 : decode cX0_isWorth 15 = .ok (.goto 4, 3) := by decide +kernel
theorem dX0_isWorth_18 : decode cX0_isWorth 18 = .ok (.iconst 0, 1) := by decide +kernel
theorem dX0_isWorth_19 : decode cX0_isWorth 19 = .ok (.ireturn, 1) := by decide +kernel
theorem dX0_isNode_0 : decode cX0_isNode 0 = .ok (.iload_n 1, 1) := by decide +kernel
theorem dX0_isNode_1 : decode cX0_isNode 1 = .ok (.ifCond .lt 15, 3) := by decide +kernel
theorem dX0_isNode_4 : decode cX0_isNode 4 = .ok (.iload_n 1, 1) := by decide +kernel
theorem dX0_isNode_5 : decode cX0_isNode 5 = .ok (.aload_n 0, 1) := by decide +kernel
theorem dX0_isNode_6 : decode cX0_isNode 6 = .ok (.getfield 23, 3) := by decide +kernel
theorem dX0_isNode_9 : decode cX0_isNode 9 = .ok (.if_icmp .ge 7, 3) := by decide +kernel
theorem dX0_isNode_12 : decode cX0_isNode 12 = .ok (.iconst 1, 1) := by decide +kernel
theorem dX0_isNode_13 : decode cX0_isNode 13 = .ok (.goto 4, 3) := by decide +kernel
theorem dX0_isNode_16 : decode cX0_isNode 16 = .ok (.iconst 0, 1) := by decide +kernel
theorem dX0_isNode_17 : decode cX0_isNode 17 = .ok (.ireturn, 1) := by decide +kernel
theorem dX0_refuseWrongQuestion_0 : decode cX0_refuseWrongQuestion 0 = .ok (.aload_n 0, 1) := by decide +kernel
theorem dX0_refuseWrongQuestion_1 : decode cX0_refuseWrongQuestion 1 = .ok (.iload_n 1, 1) := by decide +kernel
theorem dX0_refuseWrongQuestion_2 : decode cX0_refuseWrongQuestion 2 = .ok (.invokevirtual 66, 3) := by decide +kernel
theorem dX0_refuseWrongQuestion_5 : decode cX0_refuseWrongQuestion 5 = .ok (.ifCond .eq 13, 3) := by decide +kernel
theorem dX0_refuseWrongQuestion_8 : decode cX0_refuseWrongQuestion 8 = .ok (.iload_n 2, 1) := by decide +kernel
theorem dX0_refuseWrongQuestion_9 : decode cX0_refuseWrongQuestion 9 = .ok (.ifCond .lt 9, 3) := by decide +kernel
theorem dX0_refuseWrongQuestion_12 : decode cX0_refuseWrongQuestion 12 = .ok (.iload_n 2, 1) := by decide +kernel
theorem dX0_refuseWrongQuestion_13 : decode cX0_refuseWrongQuestion 13 = .ok (.bipush 7, 2) := by decide +kernel
theorem dX0_refuseWrongQuestion_15 : decode cX0_refuseWrongQuestion 15 = .ok (.if_icmp .le 13, 3) := by decide +kernel
theorem dX0_refuseWrongQuestion_18 : decode cX0_refuseWrongQuestion 18 = .ok (.new 51, 3) := by decide +kernel
theorem dX0_refuseWrongQuestion_21 : decode cX0_refuseWrongQuestion 21 = .ok (.dup, 1) := by decide +kernel
theorem dX0_refuseWrongQuestion_22 : decode cX0_refuseWrongQuestion 22 = .ok (.ldc 104, 2) := by decide +kernel
theorem dX0_refuseWrongQuestion_24 : decode cX0_refuseWrongQuestion 24 = .ok (.invokespecial 55, 3) := by decide +kernel
theorem dX0_refuseWrongQuestion_27 : decode cX0_refuseWrongQuestion 27 = .ok (.athrow, 1) := by decide +kernel
theorem dX0_refuseWrongQuestion_28 : decode cX0_refuseWrongQuestion 28 = .ok (.return_, 1) := by decide +kernel
theorem dX0_place_0 : decode cX0_place 0 = .ok (.iload_n 0, 1) := by decide +kernel
theorem dX0_place_1 : decode cX0_place 1 = .ok (.bipush 6, 2) := by decide +kernel
theorem dX0_place_3 : decode cX0_place 3 = .ok (.imul, 1) := by decide +kernel
theorem dX0_place_4 : decode cX0_place 4 = .ok (.iload_n 1, 1) := by decide +kernel
theorem dX0_place_5 : decode cX0_place 5 = .ok (.iadd, 1) := by decide +kernel
theorem dX0_place_6 : decode cX0_place 6 = .ok (.ireturn, 1) := by decide +kernel
theorem dX0_targetOrNone_0 : decode cX0_targetOrNone 0 = .ok (.iload_n 2, 1) := by decide +kernel
theorem dX0_targetOrNone_1 : decode cX0_targetOrNone 1 = .ok (.iconst 3, 1) := by decide +kernel
theorem dX0_targetOrNone_2 : decode cX0_targetOrNone 2 = .ok (.if_icmp .lt 15, 3) := by decide +kernel
theorem dX0_targetOrNone_5 : decode cX0_targetOrNone 5 = .ok (.iload_n 2, 1) := by decide +kernel
theorem dX0_targetOrNone_6 : decode cX0_targetOrNone 6 = .ok (.iconst 3, 1) := by decide +kernel
theorem dX0_targetOrNone_7 : decode cX0_targetOrNone 7 = .ok (.aload_n 0, 1) := by decide +kernel
theorem dX0_targetOrNone_8 : decode cX0_targetOrNone 8 = .ok (.getfield 17, 3) := by decide +kernel
theorem dX0_targetOrNone_11 : decode cX0_targetOrNone 11 = .ok (.iload_n 1, 1) := by decide +kernel
theorem dX0_targetOrNone_12 : decode cX0_targetOrNone 12 = .ok (.iaload, 1) := by decide +kernel
theorem dX0_targetOrNone_13 : decode cX0_targetOrNone 13 = .ok (.iadd, 1) := by decide +kernel
theorem dX0_targetOrNone_14 : decode cX0_targetOrNone 14 = .ok (.if_icmp .lt 5, 3) := by decide +kernel
theorem dX0_targetOrNone_17 : decode cX0_targetOrNone 17 = .ok (.iconst (-1), 1) := by decide +kernel
theorem dX0_targetOrNone_18 : decode cX0_targetOrNone 18 = .ok (.ireturn, 1) := by decide +kernel
theorem dX0_targetOrNone_19 : decode cX0_targetOrNone 19 = .ok (.aload_n 0, 1) := by decide +kernel
theorem dX0_targetOrNone_20 : decode cX0_targetOrNone 20 = .ok (.getfield 20, 3) := by decide +kernel
theorem dX0_targetOrNone_23 : decode cX0_targetOrNone 23 = .ok (.iload_n 1, 1) := by decide +kernel
theorem dX0_targetOrNone_24 : decode cX0_targetOrNone 24 = .ok (.iload_n 2, 1) := by decide +kernel
theorem dX0_targetOrNone_25 : decode cX0_targetOrNone 25 = .ok (.iconst 3, 1) := by decide +kernel
theorem dX0_targetOrNone_26 : decode cX0_targetOrNone 26 = .ok (.isub, 1) := by decide +kernel
theorem dX0_targetOrNone_27 : decode cX0_targetOrNone 27 = .ok (.invokestatic 73, 3) := by decide +kernel
theorem dX0_targetOrNone_30 : decode cX0_targetOrNone 30 = .ok (.iaload, 1) := by decide +kernel
theorem dX0_targetOrNone_31 : decode cX0_targetOrNone 31 = .ok (.ireturn, 1) := by decide +kernel
theorem dX0_forgetTable_0 : decode cX0_forgetTable 0 = .ok (.aload_n 0, 1) := by decide +kernel
theorem dX0_forgetTable_1 : decode cX0_forgetTable 1 = .ok (.iconst 0, 1) := by decide +kernel
theorem dX0_forgetTable_2 : decode cX0_forgetTable 2 = .ok (.putfield 35, 3) := by decide +kernel
theorem dX0_forgetTable_5 : decode cX0_forgetTable 5 = .ok (.return_, 1) := by decide +kernel
theorem dX0_deepenTo_0 : decode cX0_deepenTo 0 = .ok (.aload_n 0, 1) := by decide +kernel
theorem dX0_deepenTo_1 : decode cX0_deepenTo 1 = .ok (.getfield 35, 3) := by decide +kernel
theorem dX0_deepenTo_4 : decode cX0_deepenTo 4 = .ok (.iload_n 1, 1) := by decide +kernel
theorem dX0_deepenTo_5 : decode cX0_deepenTo 5 = .ok (.if_icmp .gt 24, 3) := by decide +kernel
theorem dX0_deepenTo_8 : decode cX0_deepenTo 8 = .ok (.aload_n 0, 1) := by decide +kernel
theorem dX0_deepenTo_9 : decode cX0_deepenTo 9 = .ok (.aload_n 0, 1) := by decide +kernel
theorem dX0_deepenTo_10 : decode cX0_deepenTo 10 = .ok (.getfield 35, 3) := by decide +kernel
theorem dX0_deepenTo_13 : decode cX0_deepenTo 13 = .ok (.invokevirtual 106, 3) := by decide +kernel
theorem dX0_deepenTo_16 : decode cX0_deepenTo 16 = .ok (.aload_n 0, 1) := by decide +kernel
theorem dX0_deepenTo_17 : decode cX0_deepenTo 17 = .ok (.dup, 1) := by decide +kernel
theorem dX0_deepenTo_18 : decode cX0_deepenTo 18 = .ok (.getfield 35, 3) := by decide +kernel
theorem dX0_deepenTo_21 : decode cX0_deepenTo 21 = .ok (.iconst 1, 1) := by decide +kernel
theorem dX0_deepenTo_22 : decode cX0_deepenTo 22 = .ok (.iadd, 1) := by decide +kernel
theorem dX0_deepenTo_23 : decode cX0_deepenTo 23 = .ok (.putfield 35, 3) := by decide +kernel
theorem dX0_deepenTo_26 : decode cX0_deepenTo 26 = .ok (.goto (-26), 3) := by decide +kernel
theorem dX0_deepenTo_29 : decode cX0_deepenTo 29 = .ok (.return_, 1) := by decide +kernel
theorem dX0_findRow_0 : decode cX0_findRow 0 = .ok (.iconst 0, 1) := by decide +kernel
theorem dX0_findRow_1 : decode cX0_findRow 1 = .ok (.istore_n 2, 1) := by decide +kernel
theorem dX0_findRow_2 : decode cX0_findRow 2 = .ok (.iload_n 2, 1) := by decide +kernel
theorem dX0_findRow_3 : decode cX0_findRow 3 = .ok (.aload_n 0, 1) := by decide +kernel
theorem dX0_findRow_4 : decode cX0_findRow 4 = .ok (.getfield 23, 3) := by decide +kernel
theorem dX0_findRow_7 : decode cX0_findRow 7 = .ok (.if_icmp .ge 23, 3) := by decide +kernel
theorem dX0_findRow_10 : decode cX0_findRow 10 = .ok (.aload_n 0, 1) := by decide +kernel
theorem dX0_findRow_11 : decode cX0_findRow 11 = .ok (.getfield 32, 3) := by decide +kernel
theorem dX0_findRow_14 : decode cX0_findRow 14 = .ok (.iload_n 1, 1) := by decide +kernel
theorem dX0_findRow_15 : decode cX0_findRow 15 = .ok (.aaload, 1) := by decide +kernel
theorem dX0_findRow_16 : decode cX0_findRow 16 = .ok (.iload_n 2, 1) := by decide +kernel
theorem dX0_findRow_17 : decode cX0_findRow 17 = .ok (.aload_n 0, 1) := by decide +kernel
theorem dX0_findRow_18 : decode cX0_findRow 18 = .ok (.iload_n 2, 1) := by decide +kernel
theorem dX0_findRow_19 : decode cX0_findRow 19 = .ok (.iload_n 1, 1) := by decide +kernel
theorem dX0_findRow_20 : decode cX0_findRow 20 = .ok (.invokevirtual 109, 3) := by decide +kernel
theorem dX0_findRow_23 : decode cX0_findRow 23 = .ok (.iastore, 1) := by decide +kernel
theorem dX0_findRow_24 : decode cX0_findRow 24 = .ok (.iinc 2 1, 3) := by decide +kernel
theorem dX0_findRow_27 : decode cX0_findRow 27 = .ok (.goto (-25), 3) := by decide +kernel
theorem dX0_findRow_30 : decode cX0_findRow 30 = .ok (.return_, 1) := by decide +kernel
theorem dX0_findValue_0 : decode cX0_findValue 0 = .ok (.aload_n 0, 1) := by decide +kernel
theorem dX0_findValue_1 : decode cX0_findValue 1 = .ok (.getfield 17, 3) := by decide +kernel
theorem dX0_findValue_4 : decode cX0_findValue 4 = .ok (.iload_n 1, 1) := by decide +kernel
theorem dX0_findValue_5 : decode cX0_findValue 5 = .ok (.iaload, 1) := by decide +kernel
theorem dX0_findValue_6 : decode cX0_findValue 6 = .ok (.ifCond .ne 20, 3) := by decide +kernel
theorem dX0_findValue_9 : decode cX0_findValue 9 = .ok (.aload_n 0, 1) := by decide +kernel
theorem dX0_findValue_10 : decode cX0_findValue 10 = .ok (.getfield 13, 3) := by decide +kernel
theorem dX0_findValue_13 : decode cX0_findValue 13 = .ok (.iload_n 1, 1) := by decide +kernel
theorem dX0_findValue_14 : decode cX0_findValue 14 = .ok (.baload, 1) := by decide +kernel
theorem dX0_findValue_15 : decode cX0_findValue 15 = .ok (.ifCond .eq 9, 3) := by decide +kernel
theorem dX0_findValue_18 : decode cX0_findValue 18 = .ok (.sipush (-1000), 3) := by decide +kernel
theorem dX0_findValue_21 : decode cX0_findValue 21 = .ok (.goto 4, 3) := by decide +kernel
theorem dX0_findValue_24 : decode cX0_findValue 24 = .ok (.iconst 0, 1) := by decide +kernel
theorem dX0_findValue_25 : decode cX0_findValue 25 = .ok (.ireturn, 1) := by decide +kernel
theorem dX0_findValue_26 : decode cX0_findValue 26 = .ok (.iload_n 2, 1) := by decide +kernel
theorem dX0_findValue_27 : decode cX0_findValue 27 = .ok (.ifCond .ne 10, 3) := by decide +kernel
theorem dX0_findValue_30 : decode cX0_findValue 30 = .ok (.aload_n 0, 1) := by decide +kernel
theorem dX0_findValue_31 : decode cX0_findValue 31 = .ok (.getfield 9, 3) := by decide +kernel
theorem dX0_findValue_34 : decode cX0_findValue 34 = .ok (.iload_n 1, 1) := by decide +kernel
theorem dX0_findValue_35 : decode cX0_findValue 35 = .ok (.iaload, 1) := by decide +kernel
theorem dX0_findValue_36 : decode cX0_findValue 36 = .ok (.ireturn, 1) := by decide +kernel
theorem dX0_findValue_37 : decode cX0_findValue 37 = .ok (.aload_n 0, 1) := by decide +kernel
theorem dX0_findValue_38 : decode cX0_findValue 38 = .ok (.iload_n 1, 1) := by decide +kernel
theorem dX0_findValue_39 : decode cX0_findValue 39 = .ok (.iconst 0, 1) := by decide +kernel
theorem dX0_findValue_40 : decode cX0_findValue 40 = .ok (.iload_n 2, 1) := by decide +kernel
theorem dX0_findValue_41 : decode cX0_findValue 41 = .ok (.invokevirtual 88, 3) := by decide +kernel
theorem dX0_findValue_44 : decode cX0_findValue 44 = .ok (.istore_n 3, 1) := by decide +kernel
theorem dX0_findValue_45 : decode cX0_findValue 45 = .ok (.iconst 1, 1) := by decide +kernel
theorem dX0_findValue_46 : decode cX0_findValue 46 = .ok (.istore 4, 2) := by decide +kernel
theorem dX0_findValue_48 : decode cX0_findValue 48 = .ok (.iload 4, 2) := by decide +kernel
theorem dX0_findValue_50 : decode cX0_findValue 50 = .ok (.aload_n 0, 1) := by decide +kernel
theorem dX0_findValue_51 : decode cX0_findValue 51 = .ok (.getfield 17, 3) := by decide +kernel
theorem dX0_findValue_54 : decode cX0_findValue 54 = .ok (.iload_n 1, 1) := by decide +kernel
theorem dX0_findValue_55 : decode cX0_findValue 55 = .ok (.iaload, 1) := by decide +kernel
theorem dX0_findValue_56 : decode cX0_findValue 56 = .ok (.if_icmp .ge 29, 3) := by decide +kernel
theorem dX0_findValue_59 : decode cX0_findValue 59 = .ok (.iload_n 3, 1) := by decide +kernel
theorem dX0_findValue_60 : decode cX0_findValue 60 = .ok (.sipush 999, 3) := by decide +kernel
theorem dX0_findValue_63 : decode cX0_findValue 63 = .ok (.if_icmp .ge 22, 3) := by decide +kernel
theorem dX0_findValue_66 : decode cX0_findValue 66 = .ok (.iload_n 3, 1) := by decide +kernel
theorem dX0_findValue_67 : decode cX0_findValue 67 = .ok (.aload_n 0, 1) := by decide +kernel
theorem dX0_findValue_68 : decode cX0_findValue 68 = .ok (.iload_n 1, 1) := by decide +kernel
theorem dX0_findValue_69 : decode cX0_findValue 69 = .ok (.iload 4, 2) := by decide +kernel
theorem dX0_findValue_71 : decode cX0_findValue 71 = .ok (.iload_n 2, 1) := by decide +kernel
theorem dX0_findValue_72 : decode cX0_findValue 72 = .ok (.invokevirtual 88, 3) := by decide +kernel
theorem dX0_findValue_75 : decode cX0_findValue 75 = .ok (.invokestatic 112, 3) := by decide +kernel
theorem dX0_findValue_78 : decode cX0_findValue 78 = .ok (.istore_n 3, 1) := by decide +kernel
theorem dX0_findValue_79 : decode cX0_findValue 79 = .ok (.iinc 4 1, 3) := by decide +kernel
theorem dX0_findValue_82 : decode cX0_findValue 82 = .ok (.goto (-34), 3) := by decide +kernel
theorem dX0_findValue_85 : decode cX0_findValue 85 = .ok (.iload_n 3, 1) := by decide +kernel
theorem dX0_findValue_86 : decode cX0_findValue 86 = .ok (.ireturn, 1) := by decide +kernel
theorem dX0_moveValue_0 : decode cX0_moveValue 0 = .ok (.aload_n 0, 1) := by decide +kernel
theorem dX0_moveValue_1 : decode cX0_moveValue 1 = .ok (.getfield 32, 3) := by decide +kernel
theorem dX0_moveValue_4 : decode cX0_moveValue 4 = .ok (.iload_n 3, 1) := by decide +kernel
theorem dX0_moveValue_5 : decode cX0_moveValue 5 = .ok (.iconst 1, 1) := by decide +kernel
theorem dX0_moveValue_6 : decode cX0_moveValue 6 = .ok (.isub, 1) := by decide +kernel
theorem dX0_moveValue_7 : decode cX0_moveValue 7 = .ok (.aaload, 1) := by decide +kernel
theorem dX0_moveValue_8 : decode cX0_moveValue 8 = .ok (.aload_n 0, 1) := by decide +kernel
theorem dX0_moveValue_9 : decode cX0_moveValue 9 = .ok (.getfield 20, 3) := by decide +kernel
theorem dX0_moveValue_12 : decode cX0_moveValue 12 = .ok (.iload_n 1, 1) := by decide +kernel
theorem dX0_moveValue_13 : decode cX0_moveValue 13 = .ok (.iload_n 2, 1) := by decide +kernel
theorem dX0_moveValue_14 : decode cX0_moveValue 14 = .ok (.invokestatic 73, 3) := by decide +kernel
theorem dX0_moveValue_17 : decode cX0_moveValue 17 = .ok (.iaload, 1) := by decide +kernel
theorem dX0_moveValue_18 : decode cX0_moveValue 18 = .ok (.iaload, 1) := by decide +kernel
theorem dX0_moveValue_19 : decode cX0_moveValue 19 = .ok (.invokestatic 117, 3) := by decide +kernel
theorem dX0_moveValue_22 : decode cX0_moveValue 22 = .ok (.ireturn, 1) := by decide +kernel
theorem dX0_halfMoveBack_0 : decode cX0_halfMoveBack 0 = .ok (.iload_n 0, 1) := by decide +kernel
theorem dX0_halfMoveBack_1 : decode cX0_halfMoveBack 1 = .ok (.ineg, 1) := by decide +kernel
theorem dX0_halfMoveBack_2 : decode cX0_halfMoveBack 2 = .ok (.istore_n 1, 1) := by decide +kernel
theorem dX0_halfMoveBack_3 : decode cX0_halfMoveBack 3 = .ok (.iload_n 1, 1) := by decide +kernel
theorem dX0_halfMoveBack_4 : decode cX0_halfMoveBack 4 = .ok (.sipush (-900), 3) := by decide +kernel
theorem dX0_halfMoveBack_7 : decode cX0_halfMoveBack 7 = .ok (.if_icmp .ge 7, 3) := by decide +kernel
theorem dX0_halfMoveBack_10 : decode cX0_halfMoveBack 10 = .ok (.iload_n 1, 1) := by decide +kernel
theorem dX0_halfMoveBack_11 : decode cX0_halfMoveBack 11 = .ok (.iconst 1, 1) := by decide +kernel
theorem dX0_halfMoveBack_12 : decode cX0_halfMoveBack 12 = .ok (.iadd, 1) := by decide +kernel
theorem dX0_halfMoveBack_13 : decode cX0_halfMoveBack 13 = .ok (.ireturn, 1) := by decide +kernel
theorem dX0_halfMoveBack_14 : decode cX0_halfMoveBack 14 = .ok (.iload_n 1, 1) := by decide +kernel
theorem dX0_halfMoveBack_15 : decode cX0_halfMoveBack 15 = .ok (.sipush 900, 3) := by decide +kernel
theorem dX0_halfMoveBack_18 : decode cX0_halfMoveBack 18 = .ok (.if_icmp .le 7, 3) := by decide +kernel
theorem dX0_halfMoveBack_21 : decode cX0_halfMoveBack 21 = .ok (.iload_n 1, 1) := by decide +kernel
theorem dX0_halfMoveBack_22 : decode cX0_halfMoveBack 22 = .ok (.iconst 1, 1) := by decide +kernel
theorem dX0_halfMoveBack_23 : decode cX0_halfMoveBack 23 = .ok (.isub, 1) := by decide +kernel
theorem dX0_halfMoveBack_24 : decode cX0_halfMoveBack 24 = .ok (.ireturn, 1) := by decide +kernel
theorem dX0_halfMoveBack_25 : decode cX0_halfMoveBack 25 = .ok (.iload_n 1, 1) := by decide +kernel
theorem dX0_halfMoveBack_26 : decode cX0_halfMoveBack 26 = .ok (.ireturn, 1) := by decide +kernel
theorem dX0_bestMove_0 : decode cX0_bestMove 0 = .ok (.iload_n 2, 1) := by decide +kernel
theorem dX0_bestMove_1 : decode cX0_bestMove 1 = .ok (.ifCond .ne 5, 3) := by decide +kernel
theorem dX0_bestMove_4 : decode cX0_bestMove 4 = .ok (.iconst (-1), 1) := by decide +kernel
theorem dX0_bestMove_5 : decode cX0_bestMove 5 = .ok (.ireturn, 1) := by decide +kernel
theorem dX0_bestMove_6 : decode cX0_bestMove 6 = .ok (.iconst 0, 1) := by decide +kernel
theorem dX0_bestMove_7 : decode cX0_bestMove 7 = .ok (.istore_n 3, 1) := by decide +kernel
theorem dX0_bestMove_8 : decode cX0_bestMove 8 = .ok (.iload_n 3, 1) := by decide +kernel
theorem dX0_bestMove_9 : decode cX0_bestMove 9 = .ok (.aload_n 0, 1) := by decide +kernel
theorem dX0_bestMove_10 : decode cX0_bestMove 10 = .ok (.getfield 17, 3) := by decide +kernel
theorem dX0_bestMove_13 : decode cX0_bestMove 13 = .ok (.iload_n 1, 1) := by decide +kernel
theorem dX0_bestMove_14 : decode cX0_bestMove 14 = .ok (.iaload, 1) := by decide +kernel
theorem dX0_bestMove_15 : decode cX0_bestMove 15 = .ok (.if_icmp .ge 29, 3) := by decide +kernel
theorem dX0_bestMove_18 : decode cX0_bestMove 18 = .ok (.aload_n 0, 1) := by decide +kernel
theorem dX0_bestMove_19 : decode cX0_bestMove 19 = .ok (.iload_n 1, 1) := by decide +kernel
theorem dX0_bestMove_20 : decode cX0_bestMove 20 = .ok (.iload_n 3, 1) := by decide +kernel
theorem dX0_bestMove_21 : decode cX0_bestMove 21 = .ok (.iload_n 2, 1) := by decide +kernel
theorem dX0_bestMove_22 : decode cX0_bestMove 22 = .ok (.invokevirtual 88, 3) := by decide +kernel
theorem dX0_bestMove_25 : decode cX0_bestMove 25 = .ok (.aload_n 0, 1) := by decide +kernel
theorem dX0_bestMove_26 : decode cX0_bestMove 26 = .ok (.getfield 32, 3) := by decide +kernel
theorem dX0_bestMove_29 : decode cX0_bestMove 29 = .ok (.iload_n 2, 1) := by decide +kernel
theorem dX0_bestMove_30 : decode cX0_bestMove 30 = .ok (.aaload, 1) := by decide +kernel
theorem dX0_bestMove_31 : decode cX0_bestMove 31 = .ok (.iload_n 1, 1) := by decide +kernel
theorem dX0_bestMove_32 : decode cX0_bestMove 32 = .ok (.iaload, 1) := by decide +kernel
theorem dX0_bestMove_33 : decode cX0_bestMove 33 = .ok (.if_icmp .ne 5, 3) := by decide +kernel
theorem dX0_bestMove_36 : decode cX0_bestMove 36 = .ok (.iload_n 3, 1) := by decide +kernel
theorem dX0_bestMove_37 : decode cX0_bestMove 37 = .ok (.ireturn, 1) := by decide +kernel
theorem dX0_bestMove_38 : decode cX0_bestMove 38 = .ok (.iinc 3 1, 3) := by decide +kernel
theorem dX0_bestMove_41 : decode cX0_bestMove 41 = .ok (.goto (-33), 3) := by decide +kernel
theorem dX0_bestMove_44 : decode cX0_bestMove 44 = .ok (.iconst (-1), 1) := by decide +kernel
theorem dX0_bestMove_45 : decode cX0_bestMove 45 = .ok (.ireturn, 1) := by decide +kernel
theorem dX0_forgetMet_0 : decode cX0_forgetMet 0 = .ok (.iconst 0, 1) := by decide +kernel
theorem dX0_forgetMet_1 : decode cX0_forgetMet 1 = .ok (.istore_n 1, 1) := by decide +kernel
theorem dX0_forgetMet_2 : decode cX0_forgetMet 2 = .ok (.iload_n 1, 1) := by decide +kernel
theorem dX0_forgetMet_3 : decode cX0_forgetMet 3 = .ok (.aload_n 0, 1) := by decide +kernel
theorem dX0_forgetMet_4 : decode cX0_forgetMet 4 = .ok (.getfield 44, 3) := by decide +kernel
theorem dX0_forgetMet_7 : decode cX0_forgetMet 7 = .ok (.if_icmp .ge 21, 3) := by decide +kernel
theorem dX0_forgetMet_10 : decode cX0_forgetMet 10 = .ok (.aload_n 0, 1) := by decide +kernel
theorem dX0_forgetMet_11 : decode cX0_forgetMet 11 = .ok (.getfield 41, 3) := by decide +kernel
theorem dX0_forgetMet_14 : decode cX0_forgetMet 14 = .ok (.aload_n 0, 1) := by decide +kernel
theorem dX0_forgetMet_15 : decode cX0_forgetMet 15 = .ok (.getfield 38, 3) := by decide +kernel
theorem dX0_forgetMet_18 : decode cX0_forgetMet 18 = .ok (.iload_n 1, 1) := by decide +kernel
theorem dX0_forgetMet_19 : decode cX0_forgetMet 19 = .ok (.iaload, 1) := by decide +kernel
theorem dX0_forgetMet_20 : decode cX0_forgetMet 20 = .ok (.iconst 0, 1) := by decide +kernel
theorem dX0_forgetMet_21 : decode cX0_forgetMet 21 = .ok (.bastore, 1) := by decide +kernel
theorem dX0_forgetMet_22 : decode cX0_forgetMet 22 = .ok (.iinc 1 1, 3) := by decide +kernel
theorem dX0_forgetMet_25 : decode cX0_forgetMet 25 = .ok (.goto (-23), 3) := by decide +kernel
theorem dX0_forgetMet_28 : decode cX0_forgetMet 28 = .ok (.aload_n 0, 1) := by decide +kernel
theorem dX0_forgetMet_29 : decode cX0_forgetMet 29 = .ok (.iconst 0, 1) := by decide +kernel
theorem dX0_forgetMet_30 : decode cX0_forgetMet 30 = .ok (.putfield 44, 3) := by decide +kernel
theorem dX0_forgetMet_33 : decode cX0_forgetMet 33 = .ok (.return_, 1) := by decide +kernel
theorem dX0_meet_0 : decode cX0_meet 0 = .ok (.aload_n 0, 1) := by decide +kernel
theorem dX0_meet_1 : decode cX0_meet 1 = .ok (.getfield 41, 3) := by decide +kernel
theorem dX0_meet_4 : decode cX0_meet 4 = .ok (.iload_n 1, 1) := by decide +kernel
theorem dX0_meet_5 : decode cX0_meet 5 = .ok (.baload, 1) := by decide +kernel
theorem dX0_meet_6 : decode cX0_meet 6 = .ok (.ifCond .ne 30, 3) := by decide +kernel
theorem dX0_meet_9 : decode cX0_meet 9 = .ok (.aload_n 0, 1) := by decide +kernel
theorem dX0_meet_10 : decode cX0_meet 10 = .ok (.getfield 41, 3) := by decide +kernel
theorem dX0_meet_13 : decode cX0_meet 13 = .ok (.iload_n 1, 1) := by decide +kernel
theorem dX0_meet_14 : decode cX0_meet 14 = .ok (.iconst 1, 1) := by decide +kernel
theorem dX0_meet_15 : decode cX0_meet 15 = .ok (.bastore, 1) := by decide +kernel
theorem dX0_meet_16 : decode cX0_meet 16 = .ok (.aload_n 0, 1) := by decide +kernel
theorem dX0_meet_17 : decode cX0_meet 17 = .ok (.getfield 38, 3) := by decide +kernel
theorem dX0_meet_20 : decode cX0_meet 20 = .ok (.aload_n 0, 1) := by decide +kernel
theorem dX0_meet_21 : decode cX0_meet 21 = .ok (.getfield 44, 3) := by decide +kernel
theorem dX0_meet_24 : decode cX0_meet 24 = .ok (.iload_n 1, 1) := by decide +kernel
theorem dX0_meet_25 : decode cX0_meet 25 = .ok (.iastore, 1) := by decide +kernel
theorem dX0_meet_26 : decode cX0_meet 26 = .ok (.aload_n 0, 1) := by decide +kernel
theorem dX0_meet_27 : decode cX0_meet 27 = .ok (.dup, 1) := by decide +kernel
theorem dX0_meet_28 : decode cX0_meet 28 = .ok (.getfield 44, 3) := by decide +kernel
theorem dX0_meet_31 : decode cX0_meet 31 = .ok (.iconst 1, 1) := by decide +kernel
theorem dX0_meet_32 : decode cX0_meet 32 = .ok (.iadd, 1) := by decide +kernel
theorem dX0_meet_33 : decode cX0_meet 33 = .ok (.putfield 44, 3) := by decide +kernel
theorem dX0_meet_36 : decode cX0_meet 36 = .ok (.return_, 1) := by decide +kernel
theorem dX0_meetTargets_0 : decode cX0_meetTargets 0 = .ok (.iconst 0, 1) := by decide +kernel
theorem dX0_meetTargets_1 : decode cX0_meetTargets 1 = .ok (.istore_n 2, 1) := by decide +kernel
theorem dX0_meetTargets_2 : decode cX0_meetTargets 2 = .ok (.iload_n 2, 1) := by decide +kernel
theorem dX0_meetTargets_3 : decode cX0_meetTargets 3 = .ok (.aload_n 0, 1) := by decide +kernel
theorem dX0_meetTargets_4 : decode cX0_meetTargets 4 = .ok (.getfield 17, 3) := by decide +kernel
theorem dX0_meetTargets_7 : decode cX0_meetTargets 7 = .ok (.iload_n 1, 1) := by decide +kernel
theorem dX0_meetTargets_8 : decode cX0_meetTargets 8 = .ok (.iaload, 1) := by decide +kernel
theorem dX0_meetTargets_9 : decode cX0_meetTargets 9 = .ok (.if_icmp .ge 23, 3) := by decide +kernel
theorem dX0_meetTargets_12 : decode cX0_meetTargets 12 = .ok (.aload_n 0, 1) := by decide +kernel
theorem dX0_meetTargets_13 : decode cX0_meetTargets 13 = .ok (.aload_n 0, 1) := by decide +kernel
theorem dX0_meetTargets_14 : decode cX0_meetTargets 14 = .ok (.getfield 20, 3) := by decide +kernel
theorem dX0_meetTargets_17 : decode cX0_meetTargets 17 = .ok (.iload_n 1, 1) := by decide +kernel
theorem dX0_meetTargets_18 : decode cX0_meetTargets 18 = .ok (.iload_n 2, 1) := by decide +kernel
theorem dX0_meetTargets_19 : decode cX0_meetTargets 19 = .ok (.invokestatic 73, 3) := by decide +kernel
theorem dX0_meetTargets_22 : decode cX0_meetTargets 22 = .ok (.iaload, 1) := by decide +kernel
theorem dX0_meetTargets_23 : decode cX0_meetTargets 23 = .ok (.invokevirtual 98, 3) := by decide +kernel
theorem dX0_meetTargets_26 : decode cX0_meetTargets 26 = .ok (.iinc 2 1, 3) := by decide +kernel
theorem dX0_meetTargets_29 : decode cX0_meetTargets 29 = .ok (.goto (-27), 3) := by decide +kernel
theorem dX0_meetTargets_32 : decode cX0_meetTargets 32 = .ok (.return_, 1) := by decide +kernel
end
section
theorem dX1_init_0 : decode cX1_init 0 = .ok (.aload_n 0, 1) := by decide +kernel
theorem dX1_init_1 : decode cX1_init 1 = .ok (.invokespecial 1, 3) := by decide +kernel
theorem dX1_init_4 : decode cX1_init 4 = .ok (.aload_n 0, 1) := by decide +kernel
theorem dX1_init_5 : decode cX1_init 5 = .ok (.sipush 400, 3) := by decide +kernel
theorem dX1_init_8 : decode cX1_init 8 = .ok (.newarray .int, 2) := by decide +kernel
theorem dX1_init_10 : decode cX1_init 10 = .ok (.putfield 7, 3) := by decide +kernel
theorem dX1_init_13 : decode cX1_init 13 = .ok (.aload_n 0, 1) := by decide +kernel
theorem dX1_init_14 : decode cX1_init 14 = .ok (.sipush 400, 3) := by decide +kernel
theorem dX1_init_17 : decode cX1_init 17 = .ok (.newarray .boolean, 2) := by decide +kernel
theorem dX1_init_19 : decode cX1_init 19 = .ok (.putfield 13, 3) := by decide +kernel
theorem dX1_init_22 : decode cX1_init 22 = .ok (.aload_n 0, 1) := by decide +kernel
theorem dX1_init_23 : decode cX1_init 23 = .ok (.sipush 400, 3) := by decide +kernel
theorem dX1_init_26 : decode cX1_init 26 = .ok (.newarray .int, 2) := by decide +kernel
theorem dX1_init_28 : decode cX1_init 28 = .ok (.putfield 17, 3) := by decide +kernel
theorem dX1_init_31 : decode cX1_init 31 = .ok (.aload_n 0, 1) := by decide +kernel
theorem dX1_init_32 : decode cX1_init 32 = .ok (.sipush 2400, 3) := by decide +kernel
theorem dX1_init_35 : decode cX1_init 35 = .ok (.newarray .int, 2) := by decide +kernel
theorem dX1_init_37 : decode cX1_init 37 = .ok (.putfield 20, 3) := by decide +kernel
theorem dX1_init_40 : decode cX1_init 40 = .ok (.aload_n 0, 1) := by decide +kernel
theorem dX1_init_41 : decode cX1_init 41 = .ok (.sipush 3200, 3) := by decide +kernel
theorem dX1_init_44 : decode cX1_init 44 = .ok (.newarray .int, 2) := by decide +kernel
theorem dX1_init_46 : decode cX1_init 46 = .ok (.putfield 23, 3) := by decide +kernel
theorem dX1_init_49 : decode cX1_init 49 = .ok (.aload_n 0, 1) := by decide +kernel
theorem dX1_init_50 : decode cX1_init 50 = .ok (.sipush 400, 3) := by decide +kernel
theorem dX1_init_53 : decode cX1_init 53 = .ok (.newarray .int, 2) := by decide +kernel
theorem dX1_init_55 : decode cX1_init 55 = .ok (.putfield 26, 3) := by decide +kernel
theorem dX1_init_58 : decode cX1_init 58 = .ok (.return_, 1) := by decide +kernel
theorem dX1_thrown_0 : decode cX1_thrown 0 = .ok (.aload_n 0, 1) := by decide +kernel
theorem dX1_thrown_1 : decode cX1_thrown 1 = .ok (.getfield 29, 3) := by decide +kernel
theorem dX1_thrown_4 : decode cX1_thrown 4 = .ok (.ireturn, 1) := by decide +kernel
theorem dX1_isNode_0 : decode cX1_isNode 0 = .ok (.iload_n 1, 1) := by decide +kernel
theorem dX1_isNode_1 : decode cX1_isNode 1 = .ok (.ifCond .lt 15, 3) := by decide +kernel
theorem dX1_isNode_4 : decode cX1_isNode 4 = .ok (.iload_n 1, 1) := by decide +kernel
theorem dX1_isNode_5 : decode cX1_isNode 5 = .ok (.aload_n 0, 1) := by decide +kernel
theorem dX1_isNode_6 : decode cX1_isNode 6 = .ok (.getfield 33, 3) := by decide +kernel
theorem dX1_isNode_9 : decode cX1_isNode 9 = .ok (.if_icmp .ge 7, 3) := by decide +kernel
theorem dX1_isNode_12 : decode cX1_isNode 12 = .ok (.iconst 1, 1) := by decide +kernel
theorem dX1_isNode_13 : decode cX1_isNode 13 = .ok (.goto 4, 3) := by decide +kernel
theorem dX1_isNode_16 : decode cX1_isNode 16 = .ok (.iconst 0, 1) := by decide +kernel
theorem dX1_isNode_17 : decode cX1_isNode 17 = .ok (.ireturn, 1) := by decide +kernel
theorem dX1_isWorth_0 : decode cX1_isWorth 0 = .ok (.iload_n 0, 1) := by decide +kernel
theorem dX1_isWorth_1 : decode cX1_isWorth 1 = .ok (.sipush (-500), 3) := by decide +kernel
theorem dX1_isWorth_4 : decode cX1_isWorth 4 = .ok (.if_icmp .lt 14, 3) := by decide +kernel
theorem dX1_isWorth_7 : decode cX1_isWorth 7 = .ok (.iload_n 0, 1) := by decide +kernel
theorem dX1_isWorth_8 : decode cX1_isWorth 8 = .ok (.sipush 500, 3) := by decide +kernel
theorem dX1_isWorth_11 : decode cX1_isWorth 11 = .ok (.if_icmp .gt 7, 3) := by decide +kernel
theorem dX1_isWorth_14 : decode cX1_isWorth 14 = .ok (.iconst 1, 1) := by decide +kernel
theorem dX1_isWorth_15 : decode cX1_isWorth 15 = .ok (.goto 4, 3) := by decide +kernel
theorem dX1_isWorth_18 : decode cX1_isWorth 18 = .ok (.iconst 0, 1) := by decide +kernel
theorem dX1_isWorth_19 : decode cX1_isWorth 19 = .ok (.ireturn, 1) := by decide +kernel
theorem dX1_node_0 : decode cX1_node 0 = .ok (.aload_n 0, 1) := by decide +kernel
theorem dX1_node_1 : decode cX1_node 1 = .ok (.iload_n 1, 1) := by decide +kernel
theorem dX1_node_2 : decode cX1_node 2 = .ok (.invokestatic 36, 3) := by decide +kernel
theorem dX1_node_5 : decode cX1_node 5 = .ok (.ifCond .ne 7, 3) := by decide +kernel
theorem dX1_node_8 : decode cX1_node 8 = .ok (.iconst 1, 1) := by decide +kernel
theorem dX1_node_9 : decode cX1_node 9 = .ok (.goto 18, 3) := by decide +kernel
theorem dX1_node_12 : decode cX1_node 12 = .ok (.aload_n 0, 1) := by decide +kernel
theorem dX1_node_13 : decode cX1_node 13 = .ok (.getfield 33, 3) := by decide +kernel
theorem dX1_node_16 : decode cX1_node 16 = .ok (.sipush 400, 3) := by decide +kernel
theorem dX1_node_19 : decode cX1_node 19 = .ok (.if_icmp .ne 7, 3) := by decide +kernel
theorem dX1_node_22 : decode cX1_node 22 = .ok (.iconst 2, 1) := by decide +kernel
theorem dX1_node_23 : decode cX1_node 23 = .ok (.goto 4, 3) := by decide +kernel
theorem dX1_node_26 : decode cX1_node 26 = .ok (.iconst 0, 1) := by decide +kernel
theorem dX1_node_27 : decode cX1_node 27 = .ok (.putfield 29, 3) := by decide +kernel
theorem dX1_node_30 : decode cX1_node 30 = .ok (.aload_n 0, 1) := by decide +kernel
theorem dX1_node_31 : decode cX1_node 31 = .ok (.getfield 29, 3) := by decide +kernel
theorem dX1_node_34 : decode cX1_node 34 = .ok (.ifCond .le 5, 3) := by decide +kernel
theorem dX1_node_37 : decode cX1_node 37 = .ok (.iconst 0, 1) := by decide +kernel
theorem dX1_node_38 : decode cX1_node 38 = .ok (.ireturn, 1) := by decide +kernel
theorem dX1_node_39 : decode cX1_node 39 = .ok (.aload_n 0, 1) := by decide +kernel
theorem dX1_node_40 : decode cX1_node 40 = .ok (.getfield 7, 3) := by decide +kernel
theorem dX1_node_43 : decode cX1_node 43 = .ok (.aload_n 0, 1) := by decide +kernel
theorem dX1_node_44 : decode cX1_node 44 = .ok (.getfield 33, 3) := by decide +kernel
theorem dX1_node_47 : decode cX1_node 47 = .ok (.iload_n 1, 1) := by decide +kernel
theorem dX1_node_48 : decode cX1_node 48 = .ok (.iastore, 1) := by decide +kernel
theorem dX1_node_49 : decode cX1_node 49 = .ok (.aload_n 0, 1) := by decide +kernel
theorem dX1_node_50 : decode cX1_node 50 = .ok (.getfield 13, 3) := by decide +kernel
theorem dX1_node_53 : decode cX1_node 53 = .ok (.aload_n 0, 1) := by decide +kernel
theorem dX1_node_54 : decode cX1_node 54 = .ok (.getfield 33, 3) := by decide +kernel
theorem dX1_node_57 : decode cX1_node 57 = .ok (.iload_n 2, 1) := by decide +kernel
theorem dX1_node_58 : decode cX1_node 58 = .ok (.bastore, 1) := by decide +kernel
theorem dX1_node_59 : decode cX1_node 59 = .ok (.aload_n 0, 1) := by decide +kernel
theorem dX1_node_60 : decode cX1_node 60 = .ok (.getfield 17, 3) := by decide +kernel
theorem dX1_node_63 : decode cX1_node 63 = .ok (.aload_n 0, 1) := by decide +kernel
theorem dX1_node_64 : decode cX1_node 64 = .ok (.getfield 33, 3) := by decide +kernel
theorem dX1_node_67 : decode cX1_node 67 = .ok (.iconst 0, 1) := by decide +kernel
theorem dX1_node_68 : decode cX1_node 68 = .ok (.iastore, 1) := by decide +kernel
theorem dX1_node_69 : decode cX1_node 69 = .ok (.aload_n 0, 1) := by decide +kernel
theorem dX1_node_70 : decode cX1_node 70 = .ok (.dup, 1) := by decide +kernel
theorem dX1_node_71 : decode cX1_node 71 = .ok (.getfield 33, 3) := by decide +kernel
theorem dX1_node_74 : decode cX1_node 74 = .ok (.iconst 1, 1) := by decide +kernel
theorem dX1_node_75 : decode cX1_node 75 = .ok (.iadd, 1) := by decide +kernel
theorem dX1_node_76 : decode cX1_node 76 = .ok (.putfield 33, 3) := by decide +kernel
theorem dX1_node_79 : decode cX1_node 79 = .ok (.aload_n 0, 1) := by decide +kernel
theorem dX1_node_80 : decode cX1_node 80 = .ok (.getfield 33, 3) := by decide +kernel
theorem dX1_node_83 : decode cX1_node 83 = .ok (.iconst 1, 1) := by decide +kernel
theorem dX1_node_84 : decode cX1_node 84 = .ok (.isub, 1) := by decide +kernel
theorem dX1_node_85 : decode cX1_node 85 = .ok (.ireturn, 1) := by decide +kernel
theorem dX1_move_0 : decode cX1_move 0 = .ok (.aload_n 0, 1) := by decide +kernel
theorem dX1_move_1 : decode cX1_move 1 = .ok (.aload_n 0, 1) := by decide +kernel
theorem dX1_move_2 : decode cX1_move 2 = .ok (.iload_n 1, 1) := by decide +kernel
theorem dX1_move_3 : decode cX1_move 3 = .ok (.invokevirtual 40, 3) := by decide +kernel
theorem dX1_move_6 : decode cX1_move 6 = .ok (.ifCond .eq 15, 3) := by decide +kernel
theorem dX1_move_9 : decode cX1_move 9 = .ok (.aload_n 0, 1) := by decide +kernel
theorem dX1_move_10 : decode cX1_move 10 = .ok (.iload_n 2, 1) := by decide +kernel
theorem dX1_move_11 : decode cX1_move 11 = .ok (.invokevirtual 40, 3) := by decide +kernel
theorem dX1_move_14 : decode cX1_move 14 = .ok (.ifCond .eq 7, 3) := by decide +kernel
theorem dX1_move_17 : decode cX1_move 17 = .ok (.iconst 0, 1) := by decide +kernel
theorem dX1_move_18 : decode cX1_move 18 = .ok (.goto 4, 3) := by decide +kernel
theorem dX1_move_21 : decode cX1_move 21 = .ok (.iconst 1, 1) := by decide +kernel
theorem dX1_move_22 : decode cX1_move 22 = .ok (.putfield 29, 3) := by decide +kernel
theorem dX1_move_25 : decode cX1_move 25 = .ok (.aload_n 0, 1) := by decide +kernel
theorem dX1_move_26 : decode cX1_move 26 = .ok (.getfield 29, 3) := by decide +kernel
theorem dX1_move_29 : decode cX1_move 29 = .ok (.ifCond .le 5, 3) := by decide +kernel
theorem dX1_move_32 : decode cX1_move 32 = .ok (.iconst 0, 1) := by decide +kernel
theorem dX1_move_33 : decode cX1_move 33 = .ok (.ireturn, 1) := by decide +kernel
theorem dX1_move_34 : decode cX1_move 34 = .ok (.aload_n 0, 1) := by decide +kernel
theorem dX1_move_35 : decode cX1_move 35 = .ok (.aload_n 0, 1) := by decide +kernel
theorem dX1_move_36 : decode cX1_move 36 = .ok (.getfield 17, 3) := by decide +kernel
theorem dX1_move_39 : decode cX1_move 39 = .ok (.iload_n 1, 1) := by decide +kernel
theorem dX1_move_40 : decode cX1_move 40 = .ok (.iaload, 1) := by decide +kernel
theorem dX1_move_41 : decode cX1_move 41 = .ok (.bipush 6, 2) := by decide +kernel
theorem dX1_move_43 : decode cX1_move 43 = .ok (.if_icmp .ne 7, 3) := by decide +kernel
theorem dX1_move_46 : decode cX1_move 46 = .ok (.iconst 2, 1) := by decide +kernel
theorem dX1_move_47 : decode cX1_move 47 = .ok (.goto 4, 3) := by decide +kernel
theorem dX1_move_50 : decode cX1_move 50 = .ok (.iconst 0, 1) := by decide +kernel
theorem dX1_move_51 : decode cX1_move 51 = .ok (.putfield 29, 3) := by decide +kernel
theorem dX1_move_54 : decode cX1_move 54 = .ok (.aload_n 0, 1) := by decide +kernel
theorem dX1_move_55 : decode cX1_move 55 = .ok (.getfield 29, 3) := by decide +kernel
theorem dX1_move_58 : decode cX1_move 58 = .ok (.ifCond .le 5, 3) := by decide +kernel
theorem dX1_move_61 : decode cX1_move 61 = .ok (.iconst 0, 1) := by decide +kernel
theorem dX1_move_62 : decode cX1_move 62 = .ok (.ireturn, 1) := by decide +kernel
theorem dX1_move_63 : decode cX1_move 63 = .ok (.aload_n 0, 1) := by decide +kernel
theorem dX1_move_64 : decode cX1_move 64 = .ok (.getfield 20, 3) := by decide +kernel
theorem dX1_move_67 : decode cX1_move 67 = .ok (.bipush 6, 2) := by decide +kernel
theorem dX1_move_69 : decode cX1_move 69 = .ok (.iload_n 1, 1) := by decide +kernel
theorem dX1_move_70 : decode cX1_move 70 = .ok (.imul, 1) := by decide +kernel
theorem dX1_move_71 : decode cX1_move 71 = .ok (.aload_n 0, 1) := by decide +kernel
theorem dX1_move_72 : decode cX1_move 72 = .ok (.getfield 17, 3) := by decide +kernel
theorem dX1_move_75 : decode cX1_move 75 = .ok (.iload_n 1, 1) := by decide +kernel
theorem dX1_move_76 : decode cX1_move 76 = .ok (.iaload, 1) := by decide +kernel
theorem dX1_move_77 : decode cX1_move 77 = .ok (.iadd, 1) := by decide +kernel
theorem dX1_move_78 : decode cX1_move 78 = .ok (.iload_n 2, 1) := by decide +kernel
theorem dX1_move_79 : decode cX1_move 79 = .ok (.iastore, 1) := by decide +kernel
theorem dX1_move_80 : decode cX1_move 80 = .ok (.aload_n 0, 1) := by decide +kernel
theorem dX1_move_81 : decode cX1_move 81 = .ok (.getfield 17, 3) := by decide +kernel
theorem dX1_move_84 : decode cX1_move 84 = .ok (.iload_n 1, 1) := by decide +kernel
theorem dX1_move_85 : decode cX1_move 85 = .ok (.dup2, 1) := by decide +kernel
theorem dX1_move_86 : decode cX1_move 86 = .ok (.iaload, 1) := by decide +kernel
theorem dX1_move_87 : decode cX1_move 87 = .ok (.iconst 1, 1) := by decide +kernel
theorem dX1_move_88 : decode cX1_move 88 = .ok (.iadd, 1) := by decide +kernel
theorem dX1_move_89 : decode cX1_move 89 = .ok (.iastore, 1) := by decide +kernel
theorem dX1_move_90 : decode cX1_move 90 = .ok (.aload_n 0, 1) := by decide +kernel
theorem dX1_move_91 : decode cX1_move 91 = .ok (.getfield 17, 3) := by decide +kernel
theorem dX1_move_94 : decode cX1_move 94 = .ok (.iload_n 1, 1) := by decide +kernel
theorem dX1_move_95 : decode cX1_move 95 = .ok (.iaload, 1) := by decide +kernel
theorem dX1_move_96 : decode cX1_move 96 = .ok (.iconst 1, 1) := by decide +kernel
theorem dX1_move_97 : decode cX1_move 97 = .ok (.isub, 1) := by decide +kernel
theorem dX1_move_98 : decode cX1_move 98 = .ok (.ireturn, 1) := by decide +kernel
theorem dX1_drop_0 : decode cX1_drop 0 = .ok (.aload_n 0, 1) := by decide +kernel
theorem dX1_drop_1 : decode cX1_drop 1 = .ok (.iconst 0, 1) := by decide +kernel
theorem dX1_drop_2 : decode cX1_drop 2 = .ok (.putfield 29, 3) := by decide +kernel
theorem dX1_drop_5 : decode cX1_drop 5 = .ok (.aload_n 0, 1) := by decide +kernel
theorem dX1_drop_6 : decode cX1_drop 6 = .ok (.iload_n 1, 1) := by decide +kernel
theorem dX1_drop_7 : decode cX1_drop 7 = .ok (.invokevirtual 40, 3) := by decide +kernel
theorem dX1_drop_10 : decode cX1_drop 10 = .ok (.ifCond .eq 24, 3) := by decide +kernel
theorem dX1_drop_13 : decode cX1_drop 13 = .ok (.aload_n 0, 1) := by decide +kernel
theorem dX1_drop_14 : decode cX1_drop 14 = .ok (.getfield 17, 3) := by decide +kernel
theorem dX1_drop_17 : decode cX1_drop 17 = .ok (.aload_n 0, 1) := by decide +kernel
theorem dX1_drop_18 : decode cX1_drop 18 = .ok (.iload_n 1, 1) := by decide +kernel
theorem dX1_drop_19 : decode cX1_drop 19 = .ok (.invokevirtual 40, 3) := by decide +kernel
theorem dX1_drop_22 : decode cX1_drop 22 = .ok (.ifCond .eq 7, 3) := by decide +kernel
theorem dX1_drop_25 : decode cX1_drop 25 = .ok (.iload_n 1, 1) := by decide +kernel
theorem dX1_drop_26 : decode cX1_drop 26 = .ok (.goto 4, 3) := by decide +kernel
theorem dX1_drop_29 : decode cX1_drop 29 = .ok (.iconst 0, 1) := by decide +kernel
theorem dX1_drop_30 : decode cX1_drop 30 = .ok (.iaload, 1) := by decide +kernel
theorem dX1_drop_31 : decode cX1_drop 31 = .ok (.ifCond .ne 5, 3) := by decide +kernel
theorem dX1_drop_34 : decode cX1_drop 34 = .ok (.iconst 0, 1) := by decide +kernel
theorem dX1_drop_35 : decode cX1_drop 35 = .ok (.ireturn, 1) := by decide +kernel
theorem dX1_drop_36 : decode cX1_drop 36 = .ok (.aload_n 0, 1) := by decide +kernel
theorem dX1_drop_37 : decode cX1_drop 37 = .ok (.getfield 17, 3) := by decide +kernel
theorem dX1_drop_40 : decode cX1_drop 40 = .ok (.iload_n 1, 1) := by decide +kernel
theorem dX1_drop_41 : decode cX1_drop 41 = .ok (.dup2, 1) := by decide +kernel
theorem dX1_drop_42 : decode cX1_drop 42 = .ok (.iaload, 1) := by decide +kernel
theorem dX1_drop_43 : decode cX1_drop 43 = .ok (.iconst 1, 1) := by decide +kernel
theorem dX1_drop_44 : decode cX1_drop 44 = .ok (.isub, 1) := by decide +kernel
theorem dX1_drop_45 : decode cX1_drop 45 = .ok (.iastore, 1) := by decide +kernel
theorem dX1_drop_46 : decode cX1_drop 46 = .ok (.iconst 1, 1) := by decide +kernel
theorem dX1_drop_47 : decode cX1_drop 47 = .ok (.ireturn, 1) := by decide +kernel
theorem dX1_change_0 : decode cX1_change 0 = .ok (.aload_n 0, 1) := by decide +kernel
theorem dX1_change_1 : decode cX1_change 1 = .ok (.iconst 0, 1) := by decide +kernel
theorem dX1_change_2 : decode cX1_change 2 = .ok (.putfield 29, 3) := by decide +kernel
theorem dX1_change_5 : decode cX1_change 5 = .ok (.aload_n 0, 1) := by decide +kernel
theorem dX1_change_6 : decode cX1_change 6 = .ok (.iload_n 1, 1) := by decide +kernel
theorem dX1_change_7 : decode cX1_change 7 = .ok (.invokevirtual 40, 3) := by decide +kernel
theorem dX1_change_10 : decode cX1_change 10 = .ok (.ifCond .eq 10, 3) := by decide +kernel
theorem dX1_change_13 : decode cX1_change 13 = .ok (.iload_n 2, 1) := by decide +kernel
theorem dX1_change_14 : decode cX1_change 14 = .ok (.invokestatic 36, 3) := by decide +kernel
theorem dX1_change_17 : decode cX1_change 17 = .ok (.ifCond .ne 5, 3) := by decide +kernel
theorem dX1_change_20 : decode cX1_change 20 = .ok (.iconst 0, 1) := by decide +kernel
theorem dX1_change_21 : decode cX1_change 21 = .ok (.ireturn, 1) := by decide +kernel
theorem dX1_change_22 : decode cX1_change 22 = .ok (.aload_n 0, 1) := by decide +kernel
theorem dX1_change_23 : decode cX1_change 23 = .ok (.getfield 7, 3) := by decide +kernel
theorem dX1_change_26 : decode cX1_change 26 = .ok (.iload_n 1, 1) := by decide +kernel
theorem dX1_change_27 : decode cX1_change 27 = .ok (.iload_n 2, 1) := by decide +kernel
theorem dX1_change_28 : decode cX1_change 28 = .ok (.iastore, 1) := by decide +kernel
theorem dX1_change_29 : decode cX1_change 29 = .ok (.aload_n 0, 1) := by decide +kernel
theorem dX1_change_30 : decode cX1_change 30 = .ok (.getfield 13, 3) := by decide +kernel
theorem dX1_change_33 : decode cX1_change 33 = .ok (.iload_n 1, 1) := by decide +kernel
theorem dX1_change_34 : decode cX1_change 34 = .ok (.iload_n 3, 1) := by decide +kernel
theorem dX1_change_35 : decode cX1_change 35 = .ok (.bastore, 1) := by decide +kernel
theorem dX1_change_36 : decode cX1_change 36 = .ok (.iconst 1, 1) := by decide +kernel
theorem dX1_change_37 : decode cX1_change 37 = .ok (.ireturn, 1) := by decide +kernel
theorem dX1_behind_0 : decode cX1_behind 0 = .ok (.iload_n 0, 1) := by decide +kernel
theorem dX1_behind_1 : decode cX1_behind 1 = .ok (.ineg, 1) := by decide +kernel
theorem dX1_behind_2 : decode cX1_behind 2 = .ok (.sipush (-900), 3) := by decide +kernel
theorem dX1_behind_5 : decode cX1_behind 5 = .ok (.if_icmp .ge 10, 3) := by decide +kernel
theorem dX1_behind_8 : decode cX1_behind 8 = .ok (.iload_n 0, 1) := by decide +kernel
theorem dX1_behind_9 : decode cX1_behind 9 = .ok (.ineg, 1) := by decide +kernel
theorem dX1_behind_10 : decode cX1_behind 10 = .ok (.iconst 1, 1) := by decide +kernel
theorem dX1_behind_11 : decode cX1_behind 11 = .ok (.iadd, 1) := by decide +kernel
theorem dX1_behind_12 : decode cX1_behind 12 = .ok (.goto 20, 3) := by decide +kernel
theorem dX1_behind_15 : decode cX1_behind 15 = .ok (.iload_n 0, 1) := by decide +kernel
theorem dX1_behind_16 : decode cX1_behind 16 = .ok (.ineg, 1) := by decide +kernel
theorem dX1_behind_17 : decode cX1_behind 17 = .ok (.sipush 900, 3) := by decide +kernel
theorem dX1_behind_20 : decode cX1_behind 20 = .ok (.if_icmp .le 10, 3) := by decide +kernel
theorem dX1_behind_23 : decode cX1_behind 23 = .ok (.iload_n 0, 1) := by decide +kernel
theorem dX1_behind_24 : decode cX1_behind 24 = .ok (.ineg, 1) := by decide +kernel
theorem dX1_behind_25 : decode cX1_behind 25 = .ok (.iconst 1, 1) := by decide +kernel
theorem dX1_behind_26 : decode cX1_behind 26 = .ok (.isub, 1) := by decide +kernel
theorem dX1_behind_27 : decode cX1_behind 27 = .ok (.goto 5, 3) := by decide +kernel
theorem dX1_behind_30 : decode cX1_behind 30 = .ok (.iload_n 0, 1) := by decide +kernel
theorem dX1_behind_31 : decode cX1_behind 31 = .ok (.ineg, 1) := by decide +kernel
theorem dX1_behind_32 : decode cX1_behind 32 = .ok (.ireturn, 1) := by decide +kernel
theorem dX1_given_0 : decode cX1_given 0 = .ok (.aload_n 0, 1) := by decide +kernel
theorem dX1_given_1 : decode cX1_given 1 = .ok (.getfield 23, 3) := by decide +kernel
theorem dX1_given_4 : decode cX1_given 4 = .ok (.sipush 400, 3) := by decide +kernel
theorem dX1_given_7 : decode cX1_given 7 = .ok (.iload_n 3, 1) := by decide +kernel
theorem dX1_given_8 : decode cX1_given 8 = .ok (.iconst 1, 1) := by decide +kernel
theorem dX1_given_9 : decode cX1_given 9 = .ok (.isub, 1) := by decide +kernel
theorem dX1_given_10 : decode cX1_given 10 = .ok (.imul, 1) := by decide +kernel
theorem dX1_given_11 : decode cX1_given 11 = .ok (.aload_n 0, 1) := by decide +kernel
theorem dX1_given_12 : decode cX1_given 12 = .ok (.getfield 20, 3) := by decide +kernel
theorem dX1_given_15 : decode cX1_given 15 = .ok (.bipush 6, 2) := by decide +kernel
theorem dX1_given_17 : decode cX1_given 17 = .ok (.iload_n 1, 1) := by decide +kernel
theorem dX1_given_18 : decode cX1_given 18 = .ok (.imul, 1) := by decide +kernel
theorem dX1_given_19 : decode cX1_given 19 = .ok (.iload_n 2, 1) := by decide +kernel
theorem dX1_given_20 : decode cX1_given 20 = .ok (.iadd, 1) := by decide +kernel
theorem dX1_given_21 : decode cX1_given 21 = .ok (.iaload, 1) := by decide +kernel
theorem dX1_given_22 : decode cX1_given 22 = .ok (.iadd, 1) := by decide +kernel
theorem dX1_given_23 : decode cX1_given 23 = .ok (.iaload, 1) := by decide +kernel
theorem dX1_given_24 : decode cX1_given 24 = .ok (.invokestatic 43, 3) := by decide +kernel
theorem dX1_given_27 : decode cX1_given 27 = .ok (.ireturn, 1) := by decide +kernel
theorem dX1_greatest_0 : decode cX1_greatest 0 = .ok (.aload_n 0, 1) := by decide +kernel
theorem dX1_greatest_1 : decode cX1_greatest 1 = .ok (.iload_n 1, 1) := by decide +kernel
theorem dX1_greatest_2 : decode cX1_greatest 2 = .ok (.iconst 0, 1) := by decide +kernel
theorem dX1_greatest_3 : decode cX1_greatest 3 = .ok (.iload_n 2, 1) := by decide +kernel
theorem dX1_greatest_4 : decode cX1_greatest 4 = .ok (.invokevirtual 47, 3) := by decide +kernel
theorem dX1_greatest_7 : decode cX1_greatest 7 = .ok (.istore_n 3, 1) := by decide +kernel
theorem dX1_greatest_8 : decode cX1_greatest 8 = .ok (.iconst 1, 1) := by decide +kernel
theorem dX1_greatest_9 : decode cX1_greatest 9 = .ok (.istore 4, 2) := by decide +kernel
theorem dX1_greatest_11 : decode cX1_greatest 11 = .ok (.iload 4, 2) := by decide +kernel
theorem dX1_greatest_13 : decode cX1_greatest 13 = .ok (.aload_n 0, 1) := by decide +kernel
theorem dX1_greatest_14 : decode cX1_greatest 14 = .ok (.getfield 17, 3) := by decide +kernel
theorem dX1_greatest_17 : decode cX1_greatest 17 = .ok (.iload_n 1, 1) := by decide +kernel
theorem dX1_greatest_18 : decode cX1_greatest 18 = .ok (.iaload, 1) := by decide +kernel
theorem dX1_greatest_19 : decode cX1_greatest 19 = .ok (.if_icmp .ge 34, 3) := by decide +kernel
theorem dX1_greatest_22 : decode cX1_greatest 22 = .ok (.aload_n 0, 1) := by decide +kernel
theorem dX1_greatest_23 : decode cX1_greatest 23 = .ok (.iload_n 1, 1) := by decide +kernel
theorem dX1_greatest_24 : decode cX1_greatest 24 = .ok (.iload 4, 2) := by decide +kernel
theorem dX1_greatest_26 : decode cX1_greatest 26 = .ok (.iload_n 2, 1) := by decide +kernel
theorem dX1_greatest_27 : decode cX1_greatest 27 = .ok (.invokevirtual 47, 3) := by decide +kernel
theorem dX1_greatest_30 : decode cX1_greatest 30 = .ok (.iload_n 3, 1) := by decide +kernel
theorem dX1_greatest_31 : decode cX1_greatest 31 = .ok (.if_icmp .le 14, 3) := by decide +kernel
theorem dX1_greatest_34 : decode cX1_greatest 34 = .ok (.aload_n 0, 1) := by decide +kernel
theorem dX1_greatest_35 : decode cX1_greatest 35 = .ok (.iload_n 1, 1) := by decide +kernel
theorem dX1_greatest_36 : decode cX1_greatest 36 = .ok (.iload 4, 2) := by decide +kernel
theorem dX1_greatest_38 : decode cX1_greatest 38 = .ok (.iload_n 2, 1) := by decide +kernel
theorem dX1_greatest_39 : decode cX1_greatest 39 = .ok (.invokevirtual 47, 3) := by decide +kernel
theorem dX1_greatest_42 : decode cX1_greatest 42 = .ok (.goto 4, 3) := by decide +kernel
theorem dX1_greatest_45 : decode cX1_greatest 45 = .ok (.iload_n 3, 1) := by decide +kernel
theorem dX1_greatest_46 : decode cX1_greatest 46 = .ok (.istore_n 3, 1) := by decide +kernel
theorem dX1_greatest_47 : decode cX1_greatest 47 = .ok (.iinc 4 1, 3) := by decide +kernel
theorem dX1_greatest_50 : decode cX1_greatest 50 = .ok (.goto (-39), 3) := by decide +kernel
theorem dX1_greatest_53 : decode cX1_greatest 53 = .ok (.iload_n 3, 1) := by decide +kernel
theorem dX1_greatest_54 : decode cX1_greatest 54 = .ok (.ireturn, 1) := by decide +kernel
theorem dX1_work_0 : decode cX1_work 0 = .ok (.iconst 0, 1) := by decide +kernel
theorem dX1_work_1 : decode cX1_work 1 = .ok (.istore_n 2, 1) := by decide +kernel
theorem dX1_work_2 : decode cX1_work 2 = .ok (.iload_n 2, 1) := by decide +kernel
theorem dX1_work_3 : decode cX1_work 3 = .ok (.iload_n 1, 1) := by decide +kernel
theorem dX1_work_4 : decode cX1_work 4 = .ok (.if_icmp .gt 88, 3) := by decide +kernel
theorem dX1_work_7 : decode cX1_work 7 = .ok (.iconst 0, 1) := by decide +kernel
theorem dX1_work_8 : decode cX1_work 8 = .ok (.istore_n 3, 1) := by decide +kernel
theorem dX1_work_9 : decode cX1_work 9 = .ok (.iload_n 3, 1) := by decide +kernel
theorem dX1_work_10 : decode cX1_work 10 = .ok (.aload_n 0, 1) := by decide +kernel
theorem dX1_work_11 : decode cX1_work 11 = .ok (.getfield 33, 3) := by decide +kernel
theorem dX1_work_14 : decode cX1_work 14 = .ok (.if_icmp .ge 72, 3) := by decide +kernel
theorem dX1_work_17 : decode cX1_work 17 = .ok (.aload_n 0, 1) := by decide +kernel
theorem dX1_work_18 : decode cX1_work 18 = .ok (.getfield 13, 3) := by decide +kernel
theorem dX1_work_21 : decode cX1_work 21 = .ok (.iload_n 3, 1) := by decide +kernel
theorem dX1_work_22 : decode cX1_work 22 = .ok (.baload, 1) := by decide +kernel
theorem dX1_work_23 : decode cX1_work 23 = .ok (.ifCond .eq 9, 3) := by decide +kernel
theorem dX1_work_26 : decode cX1_work 26 = .ok (.sipush (-1000), 3) := by decide +kernel
theorem dX1_work_29 : decode cX1_work 29 = .ok (.goto 4, 3) := by decide +kernel
theorem dX1_work_32 : decode cX1_work 32 = .ok (.iconst 0, 1) := by decide +kernel
theorem dX1_work_33 : decode cX1_work 33 = .ok (.istore 4, 2) := by decide +kernel
theorem dX1_work_35 : decode cX1_work 35 = .ok (.aload_n 0, 1) := by decide +kernel
theorem dX1_work_36 : decode cX1_work 36 = .ok (.getfield 23, 3) := by decide +kernel
theorem dX1_work_39 : decode cX1_work 39 = .ok (.sipush 400, 3) := by decide +kernel
theorem dX1_work_42 : decode cX1_work 42 = .ok (.iload_n 2, 1) := by decide +kernel
theorem dX1_work_43 : decode cX1_work 43 = .ok (.imul, 1) := by decide +kernel
theorem dX1_work_44 : decode cX1_work 44 = .ok (.iload_n 3, 1) := by decide +kernel
theorem dX1_work_45 : decode cX1_work 45 = .ok (.iadd, 1) := by decide +kernel
theorem dX1_work_46 : decode cX1_work 46 = .ok (.aload_n 0, 1) := by decide +kernel
theorem dX1_work_47 : decode cX1_work 47 = .ok (.getfield 17, 3) := by decide +kernel
theorem dX1_work_50 : decode cX1_work 50 = .ok (.iload_n 3, 1) := by decide +kernel
theorem dX1_work_51 : decode cX1_work 51 = .ok (.iaload, 1) := by decide +kernel
theorem dX1_work_52 : decode cX1_work 52 = .ok (.ifCond .ne 8, 3) := by decide +kernel
theorem dX1_work_55 : decode cX1_work 55 = .ok (.iload 4, 2) := by decide +kernel
theorem dX1_work_57 : decode cX1_work 57 = .ok (.goto 22, 3) := by decide +kernel
theorem dX1_work_60 : decode cX1_work 60 = .ok (.iload_n 2, 1) := by decide +kernel
theorem dX1_work_61 : decode cX1_work 61 = .ok (.ifCond .ne 12, 3) := by decide +kernel
theorem dX1_work_64 : decode cX1_work 64 = .ok (.aload_n 0, 1) := by decide +kernel
theorem dX1_work_65 : decode cX1_work 65 = .ok (.getfield 7, 3) := by decide +kernel
theorem dX1_work_68 : decode cX1_work 68 = .ok (.iload_n 3, 1) := by decide +kernel
theorem dX1_work_69 : decode cX1_work 69 = .ok (.iaload, 1) := by decide +kernel
theorem dX1_work_70 : decode cX1_work 70 = .ok (.goto 9, 3) := by decide +kernel
theorem dX1_work_73 : decode cX1_work 73 = .ok (.aload_n 0, 1) := by decide +kernel
theorem dX1_work_74 : decode cX1_work 74 = .ok (.iload_n 3, 1) := by decide +kernel
theorem dX1_work_75 : decode cX1_work 75 = .ok (.iload_n 2, 1) := by decide +kernel
theorem dX1_work_76 : decode cX1_work 76 = .ok (.invokevirtual 51, 3) := by decide +kernel
theorem dX1_work_79 : decode cX1_work 79 = .ok (.iastore, 1) := by decide +kernel
theorem dX1_work_80 : decode cX1_work 80 = .ok (.iinc 3 1, 3) := by decide +kernel
theorem dX1_work_83 : decode cX1_work 83 = .ok (.goto (-74), 3) := by decide +kernel
theorem dX1_work_86 : decode cX1_work 86 = .ok (.iinc 2 1, 3) := by decide +kernel
theorem dX1_work_89 : decode cX1_work 89 = .ok (.goto (-87), 3) := by decide +kernel
theorem dX1_work_92 : decode cX1_work 92 = .ok (.return_, 1) := by decide +kernel
theorem dX1_asked_0 : decode cX1_asked 0 = .ok (.aload_n 0, 1) := by decide +kernel
theorem dX1_asked_1 : decode cX1_asked 1 = .ok (.aload_n 0, 1) := by decide +kernel
theorem dX1_asked_2 : decode cX1_asked 2 = .ok (.iload_n 1, 1) := by decide +kernel
theorem dX1_asked_3 : decode cX1_asked 3 = .ok (.invokevirtual 40, 3) := by decide +kernel
theorem dX1_asked_6 : decode cX1_asked 6 = .ok (.ifCond .eq 17, 3) := by decide +kernel
theorem dX1_asked_9 : decode cX1_asked 9 = .ok (.iload_n 2, 1) := by decide +kernel
theorem dX1_asked_10 : decode cX1_asked 10 = .ok (.ifCond .lt 13, 3) := by decide +kernel
theorem dX1_asked_13 : decode cX1_asked 13 = .ok (.iload_n 2, 1) := by decide +kernel
theorem dX1_asked_14 : decode cX1_asked 14 = .ok (.bipush 7, 2) := by decide +kernel
theorem dX1_asked_16 : decode cX1_asked 16 = .ok (.if_icmp .gt 7, 3) := by decide +kernel
theorem dX1_asked_19 : decode cX1_asked 19 = .ok (.iconst 0, 1) := by decide +kernel
theorem dX1_asked_20 : decode cX1_asked 20 = .ok (.goto 4, 3) := by decide +kernel
theorem dX1_asked_23 : decode cX1_asked 23 = .ok (.iconst 1, 1) := by decide +kernel
theorem dX1_asked_24 : decode cX1_asked 24 = .ok (.putfield 29, 3) := by decide +kernel
theorem dX1_asked_27 : decode cX1_asked 27 = .ok (.aload_n 0, 1) := by decide +kernel
theorem dX1_asked_28 : decode cX1_asked 28 = .ok (.getfield 29, 3) := by decide +kernel
theorem dX1_asked_31 : decode cX1_asked 31 = .ok (.ifCond .ne 8, 3) := by decide +kernel
theorem dX1_asked_34 : decode cX1_asked 34 = .ok (.aload_n 0, 1) := by decide +kernel
theorem dX1_asked_35 : decode cX1_asked 35 = .ok (.iload_n 2, 1) := by decide +kernel
theorem dX1_asked_36 : decode cX1_asked 36 = .ok (.invokevirtual 55, 3) := by decide +kernel
theorem dX1_asked_39 : decode cX1_asked 39 = .ok (.aload_n 0, 1) := by decide +kernel
theorem dX1_asked_40 : decode cX1_asked 40 = .ok (.getfield 29, 3) := by decide +kernel
theorem dX1_asked_43 : decode cX1_asked 43 = .ok (.ifCond .ne 7, 3) := by decide +kernel
theorem dX1_asked_46 : decode cX1_asked 46 = .ok (.iconst 1, 1) := by decide +kernel
theorem dX1_asked_47 : decode cX1_asked 47 = .ok (.goto 4, 3) := by decide +kernel
theorem dX1_asked_50 : decode cX1_asked 50 = .ok (.iconst 0, 1) := by decide +kernel
theorem dX1_asked_51 : decode cX1_asked 51 = .ok (.ireturn, 1) := by decide +kernel
theorem dX1_valueOf_0 : decode cX1_valueOf 0 = .ok (.aload_n 0, 1) := by decide +kernel
theorem dX1_valueOf_1 : decode cX1_valueOf 1 = .ok (.getfield 23, 3) := by decide +kernel
theorem dX1_valueOf_4 : decode cX1_valueOf 4 = .ok (.sipush 400, 3) := by decide +kernel
theorem dX1_valueOf_7 : decode cX1_valueOf 7 = .ok (.iload_n 2, 1) := by decide +kernel
theorem dX1_valueOf_8 : decode cX1_valueOf 8 = .ok (.imul, 1) := by decide +kernel
theorem dX1_valueOf_9 : decode cX1_valueOf 9 = .ok (.iload_n 1, 1) := by decide +kernel
theorem dX1_valueOf_10 : decode cX1_valueOf 10 = .ok (.iadd, 1) := by decide +kernel
theorem dX1_valueOf_11 : decode cX1_valueOf 11 = .ok (.iaload, 1) := by decide +kernel
theorem dX1_valueOf_12 : decode cX1_valueOf 12 = .ok (.ireturn, 1) := by decide +kernel
theorem dX1_value_0 : decode cX1_value 0 = .ok (.aload_n 0, 1) := by decide +kernel
theorem dX1_value_1 : decode cX1_value 1 = .ok (.iload_n 1, 1) := by decide +kernel
theorem dX1_value_2 : decode cX1_value 2 = .ok (.iload_n 2, 1) := by decide +kernel
theorem dX1_value_3 : decode cX1_value 3 = .ok (.invokevirtual 59, 3) := by decide +kernel
theorem dX1_value_6 : decode cX1_value 6 = .ok (.ifCond .eq 12, 3) := by decide +kernel
theorem dX1_value_9 : decode cX1_value 9 = .ok (.aload_n 0, 1) := by decide +kernel
theorem dX1_value_10 : decode cX1_value 10 = .ok (.iload_n 1, 1) := by decide +kernel
theorem dX1_value_11 : decode cX1_value 11 = .ok (.iload_n 2, 1) := by decide +kernel
theorem dX1_value_12 : decode cX1_value 12 = .ok (.invokevirtual 63, 3) := by decide +kernel
theorem dX1_value_15 : decode cX1_value 15 = .ok (.goto 4, 3) := by decide +kernel
theorem dX1_value_18 : decode cX1_value 18 = .ok (.iconst 0, 1) := by decide +kernel
theorem dX1_value_19 : decode cX1_value 19 = .ok (.ireturn, 1) := by decide +kernel
theorem dX1_bestOf_0 : decode cX1_bestOf 0 = .ok (.iconst 0, 1) := by decide +kernel
theorem dX1_bestOf_1 : decode cX1_bestOf 1 = .ok (.istore_n 3, 1) := by decide +kernel
theorem dX1_bestOf_2 : decode cX1_bestOf 2 = .ok (.iload_n 3, 1) := by decide +kernel
theorem dX1_bestOf_3 : decode cX1_bestOf 3 = .ok (.aload_n 0, 1) := by decide +kernel
theorem dX1_bestOf_4 : decode cX1_bestOf 4 = .ok (.getfield 17, 3) := by decide +kernel
theorem dX1_bestOf_7 : decode cX1_bestOf 7 = .ok (.iload_n 1, 1) := by decide +kernel
theorem dX1_bestOf_8 : decode cX1_bestOf 8 = .ok (.iaload, 1) := by decide +kernel
theorem dX1_bestOf_9 : decode cX1_bestOf 9 = .ok (.if_icmp .ge 31, 3) := by decide +kernel
theorem dX1_bestOf_12 : decode cX1_bestOf 12 = .ok (.iload_n 2, 1) := by decide +kernel
theorem dX1_bestOf_13 : decode cX1_bestOf 13 = .ok (.ifCond .le 27, 3) := by decide +kernel
theorem dX1_bestOf_16 : decode cX1_bestOf 16 = .ok (.aload_n 0, 1) := by decide +kernel
theorem dX1_bestOf_17 : decode cX1_bestOf 17 = .ok (.iload_n 1, 1) := by decide +kernel
theorem dX1_bestOf_18 : decode cX1_bestOf 18 = .ok (.iload_n 3, 1) := by decide +kernel
theorem dX1_bestOf_19 : decode cX1_bestOf 19 = .ok (.iload_n 2, 1) := by decide +kernel
theorem dX1_bestOf_20 : decode cX1_bestOf 20 = .ok (.invokevirtual 47, 3) := by decide +kernel
theorem dX1_bestOf_23 : decode cX1_bestOf 23 = .ok (.aload_n 0, 1) := by decide +kernel
theorem dX1_bestOf_24 : decode cX1_bestOf 24 = .ok (.iload_n 1, 1) := by decide +kernel
theorem dX1_bestOf_25 : decode cX1_bestOf 25 = .ok (.iload_n 2, 1) := by decide +kernel
theorem dX1_bestOf_26 : decode cX1_bestOf 26 = .ok (.invokevirtual 63, 3) := by decide +kernel
theorem dX1_bestOf_29 : decode cX1_bestOf 29 = .ok (.if_icmp .ne 5, 3) := by decide +kernel
theorem dX1_bestOf_32 : decode cX1_bestOf 32 = .ok (.iload_n 3, 1) := by decide +kernel
theorem dX1_bestOf_33 : decode cX1_bestOf 33 = .ok (.ireturn, 1) := by decide +kernel
theorem dX1_bestOf_34 : decode cX1_bestOf 34 = .ok (.iinc 3 1, 3) := by decide +kernel
theorem dX1_bestOf_37 : decode cX1_bestOf 37 = .ok (.goto (-35), 3) := by decide +kernel
theorem dX1_bestOf_40 : decode cX1_bestOf 40 = .ok (.iconst (-1), 1) := by decide +kernel
theorem dX1_bestOf_41 : decode cX1_bestOf 41 = .ok (.ireturn, 1) := by decide +kernel
theorem dX1_best_0 : decode cX1_best 0 = .ok (.aload_n 0, 1) := by decide +kernel
theorem dX1_best_1 : decode cX1_best 1 = .ok (.iload_n 1, 1) := by decide +kernel
theorem dX1_best_2 : decode cX1_best 2 = .ok (.iload_n 2, 1) := by decide +kernel
theorem dX1_best_3 : decode cX1_best 3 = .ok (.invokevirtual 59, 3) := by decide +kernel
theorem dX1_best_6 : decode cX1_best 6 = .ok (.ifCond .eq 12, 3) := by decide +kernel
theorem dX1_best_9 : decode cX1_best 9 = .ok (.aload_n 0, 1) := by decide +kernel
theorem dX1_best_10 : decode cX1_best 10 = .ok (.iload_n 1, 1) := by decide +kernel
theorem dX1_best_11 : decode cX1_best 11 = .ok (.iload_n 2, 1) := by decide +kernel
theorem dX1_best_12 : decode cX1_best 12 = .ok (.invokevirtual 66, 3) := by decide +kernel
theorem dX1_best_15 : decode cX1_best 15 = .ok (.goto 4, 3) := by decide +kernel
theorem dX1_best_18 : decode cX1_best 18 = .ok (.iconst 0, 1) := by decide +kernel
theorem dX1_best_19 : decode cX1_best 19 = .ok (.ireturn, 1) := by decide +kernel
theorem dX1_reaches_0 : decode cX1_reaches 0 = .ok (.aload_n 0, 1) := by decide +kernel
theorem dX1_reaches_1 : decode cX1_reaches 1 = .ok (.iload_n 1, 1) := by decide +kernel
theorem dX1_reaches_2 : decode cX1_reaches 2 = .ok (.iload_n 2, 1) := by decide +kernel
theorem dX1_reaches_3 : decode cX1_reaches 3 = .ok (.invokevirtual 59, 3) := by decide +kernel
theorem dX1_reaches_6 : decode cX1_reaches 6 = .ok (.ifCond .eq 17, 3) := by decide +kernel
theorem dX1_reaches_9 : decode cX1_reaches 9 = .ok (.aload_n 0, 1) := by decide +kernel
theorem dX1_reaches_10 : decode cX1_reaches 10 = .ok (.iload_n 1, 1) := by decide +kernel
theorem dX1_reaches_11 : decode cX1_reaches 11 = .ok (.iload_n 2, 1) := by decide +kernel
theorem dX1_reaches_12 : decode cX1_reaches 12 = .ok (.invokevirtual 63, 3) := by decide +kernel
theorem dX1_reaches_15 : decode cX1_reaches 15 = .ok (.iload_n 3, 1) := by decide +kernel
theorem dX1_reaches_16 : decode cX1_reaches 16 = .ok (.if_icmp .lt 7, 3) := by decide +kernel
theorem dX1_reaches_19 : decode cX1_reaches 19 = .ok (.iconst 1, 1) := by decide +kernel
theorem dX1_reaches_20 : decode cX1_reaches 20 = .ok (.goto 4, 3) := by decide +kernel
theorem dX1_reaches_23 : decode cX1_reaches 23 = .ok (.iconst 0, 1) := by decide +kernel
theorem dX1_reaches_24 : decode cX1_reaches 24 = .ok (.ireturn, 1) := by decide +kernel
theorem dX1_line_0 : decode cX1_line 0 = .ok (.aload_n 0, 1) := by decide +kernel
theorem dX1_line_1 : decode cX1_line 1 = .ok (.iload_n 1, 1) := by decide +kernel
theorem dX1_line_2 : decode cX1_line 2 = .ok (.iload_n 2, 1) := by decide +kernel
theorem dX1_line_3 : decode cX1_line 3 = .ok (.invokevirtual 59, 3) := by decide +kernel
theorem dX1_line_6 : decode cX1_line 6 = .ok (.ifCond .ne 5, 3) := by decide +kernel
theorem dX1_line_9 : decode cX1_line 9 = .ok (.iconst 0, 1) := by decide +kernel
theorem dX1_line_10 : decode cX1_line 10 = .ok (.ireturn, 1) := by decide +kernel
theorem dX1_line_11 : decode cX1_line 11 = .ok (.iload_n 3, 1) := by decide +kernel
theorem dX1_line_12 : decode cX1_line 12 = .ok (.ifCond .ge 7, 3) := by decide +kernel
theorem dX1_line_15 : decode cX1_line 15 = .ok (.iconst (-1), 1) := by decide +kernel
theorem dX1_line_16 : decode cX1_line 16 = .ok (.goto 4, 3) := by decide +kernel
theorem dX1_line_19 : decode cX1_line 19 = .ok (.iload_n 1, 1) := by decide +kernel
theorem dX1_line_20 : decode cX1_line 20 = .ok (.istore 4, 2) := by decide +kernel
theorem dX1_line_22 : decode cX1_line 22 = .ok (.iconst 0, 1) := by decide +kernel
theorem dX1_line_23 : decode cX1_line 23 = .ok (.istore 5, 2) := by decide +kernel
theorem dX1_line_25 : decode cX1_line 25 = .ok (.iload 5, 2) := by decide +kernel
theorem dX1_line_27 : decode cX1_line 27 = .ok (.iload_n 3, 1) := by decide +kernel
theorem dX1_line_28 : decode cX1_line 28 = .ok (.if_icmp .ge 60, 3) := by decide +kernel
theorem dX1_line_31 : decode cX1_line 31 = .ok (.iload 4, 2) := by decide +kernel
theorem dX1_line_33 : decode cX1_line 33 = .ok (.ifCond .lt 55, 3) := by decide +kernel
theorem dX1_line_36 : decode cX1_line 36 = .ok (.iload 5, 2) := by decide +kernel
theorem dX1_line_38 : decode cX1_line 38 = .ok (.iload_n 2, 1) := by decide +kernel
theorem dX1_line_39 : decode cX1_line 39 = .ok (.if_icmp .ge 16, 3) := by decide +kernel
theorem dX1_line_42 : decode cX1_line 42 = .ok (.aload_n 0, 1) := by decide +kernel
theorem dX1_line_43 : decode cX1_line 43 = .ok (.iload 4, 2) := by decide +kernel
theorem dX1_line_45 : decode cX1_line 45 = .ok (.iload_n 2, 1) := by decide +kernel
theorem dX1_line_46 : decode cX1_line 46 = .ok (.iload 5, 2) := by decide +kernel
theorem dX1_line_48 : decode cX1_line 48 = .ok (.isub, 1) := by decide +kernel
theorem dX1_line_49 : decode cX1_line 49 = .ok (.invokevirtual 66, 3) := by decide +kernel
theorem dX1_line_52 : decode cX1_line 52 = .ok (.goto 4, 3) := by decide +kernel
theorem dX1_line_55 : decode cX1_line 55 = .ok (.iconst (-1), 1) := by decide +kernel
theorem dX1_line_56 : decode cX1_line 56 = .ok (.istore 6, 2) := by decide +kernel
theorem dX1_line_58 : decode cX1_line 58 = .ok (.iload 6, 2) := by decide +kernel
theorem dX1_line_60 : decode cX1_line 60 = .ok (.ifCond .ge 7, 3) := by decide +kernel
theorem dX1_line_63 : decode cX1_line 63 = .ok (.iconst (-1), 1) := by decide +kernel
theorem dX1_line_64 : decode cX1_line 64 = .ok (.goto 16, 3) := by decide +kernel
theorem dX1_line_67 : decode cX1_line 67 = .ok (.aload_n 0, 1) := by decide +kernel
theorem dX1_line_68 : decode cX1_line 68 = .ok (.getfield 20, 3) := by decide +kernel
theorem dX1_line_71 : decode cX1_line 71 = .ok (.bipush 6, 2) := by decide +kernel
theorem dX1_line_73 : decode cX1_line 73 = .ok (.iload 4, 2) := by decide +kernel
theorem dX1_line_75 : decode cX1_line 75 = .ok (.imul, 1) := by decide +kernel
theorem dX1_line_76 : decode cX1_line 76 = .ok (.iload 6, 2) := by decide +kernel
theorem dX1_line_78 : decode cX1_line 78 = .ok (.iadd, 1) := by decide +kernel
theorem dX1_line_79 : decode cX1_line 79 = .ok (.iaload, 1) := by decide +kernel
theorem dX1_line_80 : decode cX1_line 80 = .ok (.istore 4, 2) := by decide +kernel
theorem dX1_line_82 : decode cX1_line 82 = .ok (.iinc 5 1, 3) := by decide +kernel
theorem dX1_line_85 : decode cX1_line 85 = .ok (.goto (-60), 3) := by decide +kernel
theorem dX1_line_88 : decode cX1_line 88 = .ok (.iload 4, 2) := by decide +kernel
theorem dX1_line_90 : decode cX1_line 90 = .ok (.ireturn, 1) := by decide +kernel
theorem dX1_ties_0 : decode cX1_ties 0 = .ok (.aload_n 0, 1) := by decide +kernel
theorem dX1_ties_1 : decode cX1_ties 1 = .ok (.iload_n 1, 1) := by decide +kernel
theorem dX1_ties_2 : decode cX1_ties 2 = .ok (.iload_n 2, 1) := by decide +kernel
theorem dX1_ties_3 : decode cX1_ties 3 = .ok (.invokevirtual 59, 3) := by decide +kernel
theorem dX1_ties_6 : decode cX1_ties 6 = .ok (.ifCond .eq 7, 3) := by decide +kernel
theorem dX1_ties_9 : decode cX1_ties 9 = .ok (.iload_n 2, 1) := by decide +kernel
theorem dX1_ties_10 : decode cX1_ties 10 = .ok (.ifCond .ne 5, 3) := by decide +kernel
theorem dX1_ties_13 : decode cX1_ties 13 = .ok (.iconst 0, 1) := by decide +kernel
theorem dX1_ties_14 : decode cX1_ties 14 = .ok (.ireturn, 1) := by decide +kernel
theorem dX1_ties_15 : decode cX1_ties 15 = .ok (.iconst 0, 1) := by decide +kernel
theorem dX1_ties_16 : decode cX1_ties 16 = .ok (.istore_n 3, 1) := by decide +kernel
theorem dX1_ties_17 : decode cX1_ties 17 = .ok (.iconst 0, 1) := by decide +kernel
theorem dX1_ties_18 : decode cX1_ties 18 = .ok (.istore 4, 2) := by decide +kernel
theorem dX1_ties_20 : decode cX1_ties 20 = .ok (.iload 4, 2) := by decide +kernel
theorem dX1_ties_22 : decode cX1_ties 22 = .ok (.aload_n 0, 1) := by decide +kernel
theorem dX1_ties_23 : decode cX1_ties 23 = .ok (.getfield 17, 3) := by decide +kernel
theorem dX1_ties_26 : decode cX1_ties 26 = .ok (.iload_n 1, 1) := by decide +kernel
theorem dX1_ties_27 : decode cX1_ties 27 = .ok (.iaload, 1) := by decide +kernel
theorem dX1_ties_28 : decode cX1_ties 28 = .ok (.if_icmp .ge 34, 3) := by decide +kernel
theorem dX1_ties_31 : decode cX1_ties 31 = .ok (.iload_n 3, 1) := by decide +kernel
theorem dX1_ties_32 : decode cX1_ties 32 = .ok (.aload_n 0, 1) := by decide +kernel
theorem dX1_ties_33 : decode cX1_ties 33 = .ok (.iload_n 1, 1) := by decide +kernel
theorem dX1_ties_34 : decode cX1_ties 34 = .ok (.iload 4, 2) := by decide +kernel
theorem dX1_ties_36 : decode cX1_ties 36 = .ok (.iload_n 2, 1) := by decide +kernel
theorem dX1_ties_37 : decode cX1_ties 37 = .ok (.invokevirtual 47, 3) := by decide +kernel
theorem dX1_ties_40 : decode cX1_ties 40 = .ok (.aload_n 0, 1) := by decide +kernel
theorem dX1_ties_41 : decode cX1_ties 41 = .ok (.iload_n 1, 1) := by decide +kernel
theorem dX1_ties_42 : decode cX1_ties 42 = .ok (.iload_n 2, 1) := by decide +kernel
theorem dX1_ties_43 : decode cX1_ties 43 = .ok (.invokevirtual 63, 3) := by decide +kernel
theorem dX1_ties_46 : decode cX1_ties 46 = .ok (.if_icmp .ne 7, 3) := by decide +kernel
theorem dX1_ties_49 : decode cX1_ties 49 = .ok (.iconst 1, 1) := by decide +kernel
theorem dX1_ties_50 : decode cX1_ties 50 = .ok (.goto 4, 3) := by decide +kernel
theorem dX1_ties_53 : decode cX1_ties 53 = .ok (.iconst 0, 1) := by decide +kernel
theorem dX1_ties_54 : decode cX1_ties 54 = .ok (.iadd, 1) := by decide +kernel
theorem dX1_ties_55 : decode cX1_ties 55 = .ok (.istore_n 3, 1) := by decide +kernel
theorem dX1_ties_56 : decode cX1_ties 56 = .ok (.iinc 4 1, 3) := by decide +kernel
theorem dX1_ties_59 : decode cX1_ties 59 = .ok (.goto (-39), 3) := by decide +kernel
theorem dX1_ties_62 : decode cX1_ties 62 = .ok (.iload_n 3, 1) := by decide +kernel
theorem dX1_ties_63 : decode cX1_ties 63 = .ok (.ireturn, 1) := by decide +kernel
theorem dX1_settled_0 : decode cX1_settled 0 = .ok (.aload_n 0, 1) := by decide +kernel
theorem dX1_settled_1 : decode cX1_settled 1 = .ok (.iload_n 1, 1) := by decide +kernel
theorem dX1_settled_2 : decode cX1_settled 2 = .ok (.iload_n 2, 1) := by decide +kernel
theorem dX1_settled_3 : decode cX1_settled 3 = .ok (.invokevirtual 59, 3) := by decide +kernel
theorem dX1_settled_6 : decode cX1_settled 6 = .ok (.ifCond .ne 5, 3) := by decide +kernel
theorem dX1_settled_9 : decode cX1_settled 9 = .ok (.iconst 0, 1) := by decide +kernel
theorem dX1_settled_10 : decode cX1_settled 10 = .ok (.ireturn, 1) := by decide +kernel
theorem dX1_settled_11 : decode cX1_settled 11 = .ok (.iload_n 2, 1) := by decide +kernel
theorem dX1_settled_12 : decode cX1_settled 12 = .ok (.istore_n 3, 1) := by decide +kernel
theorem dX1_settled_13 : decode cX1_settled 13 = .ok (.iload_n 2, 1) := by decide +kernel
theorem dX1_settled_14 : decode cX1_settled 14 = .ok (.istore 4, 2) := by decide +kernel
theorem dX1_settled_16 : decode cX1_settled 16 = .ok (.iload 4, 2) := by decide +kernel
theorem dX1_settled_18 : decode cX1_settled 18 = .ok (.ifCond .lt 28, 3) := by decide +kernel
theorem dX1_settled_21 : decode cX1_settled 21 = .ok (.aload_n 0, 1) := by decide +kernel
theorem dX1_settled_22 : decode cX1_settled 22 = .ok (.iload_n 1, 1) := by decide +kernel
theorem dX1_settled_23 : decode cX1_settled 23 = .ok (.iload 4, 2) := by decide +kernel
theorem dX1_settled_25 : decode cX1_settled 25 = .ok (.invokevirtual 63, 3) := by decide +kernel
theorem dX1_settled_28 : decode cX1_settled 28 = .ok (.aload_n 0, 1) := by decide +kernel
theorem dX1_settled_29 : decode cX1_settled 29 = .ok (.iload_n 1, 1) := by decide +kernel
theorem dX1_settled_30 : decode cX1_settled 30 = .ok (.iload_n 2, 1) := by decide +kernel
theorem dX1_settled_31 : decode cX1_settled 31 = .ok (.invokevirtual 63, 3) := by decide +kernel
theorem dX1_settled_34 : decode cX1_settled 34 = .ok (.if_icmp .ne 12, 3) := by decide +kernel
theorem dX1_settled_37 : decode cX1_settled 37 = .ok (.iload 4, 2) := by decide +kernel
theorem dX1_settled_39 : decode cX1_settled 39 = .ok (.istore_n 3, 1) := by decide +kernel
theorem dX1_settled_40 : decode cX1_settled 40 = .ok (.iinc 4 (-1), 3) := by decide +kernel
theorem dX1_settled_43 : decode cX1_settled 43 = .ok (.goto (-27), 3) := by decide +kernel
theorem dX1_settled_46 : decode cX1_settled 46 = .ok (.iload_n 3, 1) := by decide +kernel
theorem dX1_settled_47 : decode cX1_settled 47 = .ok (.ireturn, 1) := by decide +kernel
theorem dX1_of_0 : decode cX1_of 0 = .ok (.aload_n 0, 1) := by decide +kernel
theorem dX1_of_1 : decode cX1_of 1 = .ok (.iconst 0, 1) := by decide +kernel
theorem dX1_of_2 : decode cX1_of 2 = .ok (.putfield 29, 3) := by decide +kernel
theorem dX1_of_5 : decode cX1_of 5 = .ok (.aload_n 0, 1) := by decide +kernel
theorem dX1_of_6 : decode cX1_of 6 = .ok (.iload_n 1, 1) := by decide +kernel
theorem dX1_of_7 : decode cX1_of 7 = .ok (.invokevirtual 40, 3) := by decide +kernel
theorem dX1_of_10 : decode cX1_of 10 = .ok (.ifCond .eq 13, 3) := by decide +kernel
theorem dX1_of_13 : decode cX1_of 13 = .ok (.iload_n 2, 1) := by decide +kernel
theorem dX1_of_14 : decode cX1_of 14 = .ok (.ifCond .lt 9, 3) := by decide +kernel
theorem dX1_of_17 : decode cX1_of 17 = .ok (.iload_n 2, 1) := by decide +kernel
theorem dX1_of_18 : decode cX1_of 18 = .ok (.bipush 8, 2) := by decide +kernel
theorem dX1_of_20 : decode cX1_of 20 = .ok (.if_icmp .le 5, 3) := by decide +kernel
theorem dX1_of_23 : decode cX1_of 23 = .ok (.iconst (-1), 1) := by decide +kernel
theorem dX1_of_24 : decode cX1_of 24 = .ok (.ireturn, 1) := by decide +kernel
theorem dX1_of_25 : decode cX1_of 25 = .ok (.iload_n 2, 1) := by decide +kernel
theorem dX1_of_26 : decode cX1_of 26 = .ok (.iconst 3, 1) := by decide +kernel
theorem dX1_of_27 : decode cX1_of 27 = .ok (.if_icmp .ge 45, 3) := by decide +kernel
theorem dX1_of_30 : decode cX1_of 30 = .ok (.iload_n 2, 1) := by decide +kernel
theorem dX1_of_31 : decode cX1_of 31 = .ok (.ifCond .ne 12, 3) := by decide +kernel
theorem dX1_of_34 : decode cX1_of 34 = .ok (.aload_n 0, 1) := by decide +kernel
theorem dX1_of_35 : decode cX1_of 35 = .ok (.getfield 7, 3) := by decide +kernel
theorem dX1_of_38 : decode cX1_of 38 = .ok (.iload_n 1, 1) := by decide +kernel
theorem dX1_of_39 : decode cX1_of 39 = .ok (.iaload, 1) := by decide +kernel
theorem dX1_of_40 : decode cX1_of 40 = .ok (.goto 31, 3) := by decide +kernel
theorem dX1_of_43 : decode cX1_of 43 = .ok (.iload_n 2, 1) := by decide +kernel
theorem dX1_of_44 : decode cX1_of 44 = .ok (.iconst 1, 1) := by decide +kernel
theorem dX1_of_45 : decode cX1_of 45 = .ok (.if_icmp .ne 20, 3) := by decide +kernel
theorem dX1_of_48 : decode cX1_of 48 = .ok (.aload_n 0, 1) := by decide +kernel
theorem dX1_of_49 : decode cX1_of 49 = .ok (.getfield 13, 3) := by decide +kernel
theorem dX1_of_52 : decode cX1_of 52 = .ok (.iload_n 1, 1) := by decide +kernel
theorem dX1_of_53 : decode cX1_of 53 = .ok (.baload, 1) := by decide +kernel
theorem dX1_of_54 : decode cX1_of 54 = .ok (.ifCond .eq 7, 3) := by decide +kernel
theorem dX1_of_57 : decode cX1_of 57 = .ok (.iconst 1, 1) := by decide +kernel
theorem dX1_of_58 : decode cX1_of 58 = .ok (.goto 13, 3) := by decide +kernel
theorem dX1_of_61 : decode cX1_of 61 = .ok (.iconst 0, 1) := by decide +kernel
theorem dX1_of_62 : decode cX1_of 62 = .ok (.goto 9, 3) := by decide +kernel
theorem dX1_of_65 : decode cX1_of 65 = .ok (.aload_n 0, 1) := by decide +kernel
theorem dX1_of_66 : decode cX1_of 66 = .ok (.getfield 17, 3) := by decide +kernel
theorem dX1_of_69 : decode cX1_of 69 = .ok (.iload_n 1, 1) := by decide +kernel
theorem dX1_of_70 : decode cX1_of 70 = .ok (.iaload, 1) := by decide +kernel
theorem dX1_of_71 : decode cX1_of 71 = .ok (.ireturn, 1) := by decide +kernel
theorem dX1_of_72 : decode cX1_of 72 = .ok (.iload_n 2, 1) := by decide +kernel
theorem dX1_of_73 : decode cX1_of 73 = .ok (.iconst 3, 1) := by decide +kernel
theorem dX1_of_74 : decode cX1_of 74 = .ok (.isub, 1) := by decide +kernel
theorem dX1_of_75 : decode cX1_of 75 = .ok (.aload_n 0, 1) := by decide +kernel
theorem dX1_of_76 : decode cX1_of 76 = .ok (.getfield 17, 3) := by decide +kernel
theorem dX1_of_79 : decode cX1_of 79 = .ok (.iload_n 1, 1) := by decide +kernel
theorem dX1_of_80 : decode cX1_of 80 = .ok (.iaload, 1) := by decide +kernel
theorem dX1_of_81 : decode cX1_of 81 = .ok (.if_icmp .ge 19, 3) := by decide +kernel
theorem dX1_of_84 : decode cX1_of 84 = .ok (.aload_n 0, 1) := by decide +kernel
theorem dX1_of_85 : decode cX1_of 85 = .ok (.getfield 20, 3) := by decide +kernel
theorem dX1_of_88 : decode cX1_of 88 = .ok (.bipush 6, 2) := by decide +kernel
theorem dX1_of_90 : decode cX1_of 90 = .ok (.iload_n 1, 1) := by decide +kernel
theorem dX1_of_91 : decode cX1_of 91 = .ok (.imul, 1) := by decide +kernel
theorem dX1_of_92 : decode cX1_of 92 = .ok (.iload_n 2, 1) := by decide +kernel
theorem dX1_of_93 : decode cX1_of 93 = .ok (.iadd, 1) := by decide +kernel
theorem dX1_of_94 : decode cX1_of 94 = .ok (.iconst 3, 1) := by decide +kernel
theorem dX1_of_95 : decode cX1_of 95 = .ok (.isub, 1) := by decide +kernel
theorem dX1_of_96 : decode cX1_of 96 = .ok (.iaload, 1) := by decide +kernel
theorem dX1_of_97 : decode cX1_of 97 = .ok (.goto 4, 3) := by decide +kernel
theorem dX1_of_100 : decode cX1_of 100 = .ok (.iconst (-1), 1) := by decide +kernel
theorem dX1_of_101 : decode cX1_of 101 = .ok (.ireturn, 1) := by decide +kernel
theorem dX1_around_0 : decode cX1_around 0 = .ok (.aload_n 0, 1) := by decide +kernel
theorem dX1_around_1 : decode cX1_around 1 = .ok (.aload_n 0, 1) := by decide +kernel
theorem dX1_around_2 : decode cX1_around 2 = .ok (.iload_n 1, 1) := by decide +kernel
theorem dX1_around_3 : decode cX1_around 3 = .ok (.invokevirtual 40, 3) := by decide +kernel
theorem dX1_around_6 : decode cX1_around 6 = .ok (.ifCond .eq 17, 3) := by decide +kernel
theorem dX1_around_9 : decode cX1_around 9 = .ok (.iload_n 2, 1) := by decide +kernel
theorem dX1_around_10 : decode cX1_around 10 = .ok (.ifCond .lt 13, 3) := by decide +kernel
theorem dX1_around_13 : decode cX1_around 13 = .ok (.iload_n 2, 1) := by decide +kernel
theorem dX1_around_14 : decode cX1_around 14 = .ok (.bipush 7, 2) := by decide +kernel
theorem dX1_around_16 : decode cX1_around 16 = .ok (.if_icmp .gt 7, 3) := by decide +kernel
theorem dX1_around_19 : decode cX1_around 19 = .ok (.iconst 0, 1) := by decide +kernel
theorem dX1_around_20 : decode cX1_around 20 = .ok (.goto 4, 3) := by decide +kernel
theorem dX1_around_23 : decode cX1_around 23 = .ok (.iconst 1, 1) := by decide +kernel
theorem dX1_around_24 : decode cX1_around 24 = .ok (.putfield 29, 3) := by decide +kernel
theorem dX1_around_27 : decode cX1_around 27 = .ok (.aload_n 0, 1) := by decide +kernel
theorem dX1_around_28 : decode cX1_around 28 = .ok (.getfield 29, 3) := by decide +kernel
theorem dX1_around_31 : decode cX1_around 31 = .ok (.ifCond .le 5, 3) := by decide +kernel
theorem dX1_around_34 : decode cX1_around 34 = .ok (.iconst 0, 1) := by decide +kernel
theorem dX1_around_35 : decode cX1_around 35 = .ok (.ireturn, 1) := by decide +kernel
theorem dX1_around_36 : decode cX1_around 36 = .ok (.iconst 0, 1) := by decide +kernel
theorem dX1_around_37 : decode cX1_around 37 = .ok (.istore_n 3, 1) := by decide +kernel
theorem dX1_around_38 : decode cX1_around 38 = .ok (.iload_n 3, 1) := by decide +kernel
theorem dX1_around_39 : decode cX1_around 39 = .ok (.aload_n 0, 1) := by decide +kernel
theorem dX1_around_40 : decode cX1_around 40 = .ok (.getfield 33, 3) := by decide +kernel
theorem dX1_around_43 : decode cX1_around 43 = .ok (.if_icmp .ge 26, 3) := by decide +kernel
theorem dX1_around_46 : decode cX1_around 46 = .ok (.aload_n 0, 1) := by decide +kernel
theorem dX1_around_47 : decode cX1_around 47 = .ok (.getfield 26, 3) := by decide +kernel
theorem dX1_around_50 : decode cX1_around 50 = .ok (.iload_n 3, 1) := by decide +kernel
theorem dX1_around_51 : decode cX1_around 51 = .ok (.iload_n 3, 1) := by decide +kernel
theorem dX1_around_52 : decode cX1_around 52 = .ok (.iload_n 1, 1) := by decide +kernel
theorem dX1_around_53 : decode cX1_around 53 = .ok (.if_icmp .ne 7, 3) := by decide +kernel
theorem dX1_around_56 : decode cX1_around 56 = .ok (.iconst 0, 1) := by decide +kernel
theorem dX1_around_57 : decode cX1_around 57 = .ok (.goto 5, 3) := by decide +kernel
theorem dX1_around_60 : decode cX1_around 60 = .ok (.bipush 100, 2) := by decide +kernel
theorem dX1_around_62 : decode cX1_around 62 = .ok (.iastore, 1) := by decide +kernel
theorem dX1_around_63 : decode cX1_around 63 = .ok (.iinc 3 1, 3) := by decide +kernel
theorem dX1_around_66 : decode cX1_around 66 = .ok (.goto (-28), 3) := by decide +kernel
theorem dX1_around_69 : decode cX1_around 69 = .ok (.iconst 0, 1) := by decide +kernel
theorem dX1_around_70 : decode cX1_around 70 = .ok (.istore_n 3, 1) := by decide +kernel
theorem dX1_around_71 : decode cX1_around 71 = .ok (.iload_n 3, 1) := by decide +kernel
theorem dX1_around_72 : decode cX1_around 72 = .ok (.iload_n 2, 1) := by decide +kernel
theorem dX1_around_73 : decode cX1_around 73 = .ok (.if_icmp .ge 105, 3) := by decide +kernel
theorem dX1_around_76 : decode cX1_around 76 = .ok (.iconst 0, 1) := by decide +kernel
theorem dX1_around_77 : decode cX1_around 77 = .ok (.istore 4, 2) := by decide +kernel
theorem dX1_around_79 : decode cX1_around 79 = .ok (.iload 4, 2) := by decide +kernel
theorem dX1_around_81 : decode cX1_around 81 = .ok (.aload_n 0, 1) := by decide +kernel
theorem dX1_around_82 : decode cX1_around 82 = .ok (.getfield 33, 3) := by decide +kernel
theorem dX1_around_85 : decode cX1_around 85 = .ok (.if_icmp .ge 87, 3) := by decide +kernel
theorem dX1_around_88 : decode cX1_around 88 = .ok (.iconst 0, 1) := by decide +kernel
theorem dX1_around_89 : decode cX1_around 89 = .ok (.istore 5, 2) := by decide +kernel
theorem dX1_around_91 : decode cX1_around 91 = .ok (.iload 5, 2) := by decide +kernel
theorem dX1_around_93 : decode cX1_around 93 = .ok (.aload_n 0, 1) := by decide +kernel
theorem dX1_around_94 : decode cX1_around 94 = .ok (.getfield 17, 3) := by decide +kernel
theorem dX1_around_97 : decode cX1_around 97 = .ok (.iload 4, 2) := by decide +kernel
theorem dX1_around_99 : decode cX1_around 99 = .ok (.iaload, 1) := by decide +kernel
theorem dX1_around_100 : decode cX1_around 100 = .ok (.if_icmp .ge 66, 3) := by decide +kernel
theorem dX1_around_103 : decode cX1_around 103 = .ok (.aload_n 0, 1) := by decide +kernel
theorem dX1_around_104 : decode cX1_around 104 = .ok (.getfield 26, 3) := by decide +kernel
theorem dX1_around_107 : decode cX1_around 107 = .ok (.iload 4, 2) := by decide +kernel
theorem dX1_around_109 : decode cX1_around 109 = .ok (.iaload, 1) := by decide +kernel
theorem dX1_around_110 : decode cX1_around 110 = .ok (.iload_n 3, 1) := by decide +kernel
theorem dX1_around_111 : decode cX1_around 111 = .ok (.if_icmp .ne 55, 3) := by decide +kernel
theorem dX1_around_114 : decode cX1_around 114 = .ok (.aload_n 0, 1) := by decide +kernel
theorem dX1_around_115 : decode cX1_around 115 = .ok (.getfield 20, 3) := by decide +kernel
theorem dX1_around_118 : decode cX1_around 118 = .ok (.bipush 6, 2) := by decide +kernel
theorem dX1_around_120 : decode cX1_around 120 = .ok (.iload 4, 2) := by decide +kernel
theorem dX1_around_122 : decode cX1_around 122 = .ok (.imul, 1) := by decide +kernel
theorem dX1_around_123 : decode cX1_around 123 = .ok (.iload 5, 2) := by decide +kernel
theorem dX1_around_125 : decode cX1_around 125 = .ok (.iadd, 1) := by decide +kernel
theorem dX1_around_126 : decode cX1_around 126 = .ok (.iaload, 1) := by decide +kernel
theorem dX1_around_127 : decode cX1_around 127 = .ok (.istore 6, 2) := by decide +kernel
theorem dX1_around_129 : decode cX1_around 129 = .ok (.aload_n 0, 1) := by decide +kernel
theorem dX1_around_130 : decode cX1_around 130 = .ok (.getfield 26, 3) := by decide +kernel
theorem dX1_around_133 : decode cX1_around 133 = .ok (.iload 6, 2) := by decide +kernel
theorem dX1_around_135 : decode cX1_around 135 = .ok (.aload_n 0, 1) := by decide +kernel
theorem dX1_around_136 : decode cX1_around 136 = .ok (.getfield 26, 3) := by decide +kernel
theorem dX1_around_139 : decode cX1_around 139 = .ok (.iload 6, 2) := by decide +kernel
theorem dX1_around_141 : decode cX1_around 141 = .ok (.iaload, 1) := by decide +kernel
theorem dX1_around_142 : decode cX1_around 142 = .ok (.iload_n 3, 1) := by decide +kernel
theorem dX1_around_143 : decode cX1_around 143 = .ok (.if_icmp .le 9, 3) := by decide +kernel
theorem dX1_around_146 : decode cX1_around 146 = .ok (.iload_n 3, 1) := by decide +kernel
theorem dX1_around_147 : decode cX1_around 147 = .ok (.iconst 1, 1) := by decide +kernel
theorem dX1_around_148 : decode cX1_around 148 = .ok (.iadd, 1) := by decide +kernel
theorem dX1_around_149 : decode cX1_around 149 = .ok (.goto 10, 3) := by decide +kernel
theorem dX1_around_152 : decode cX1_around 152 = .ok (.aload_n 0, 1) := by decide +kernel
theorem dX1_around_153 : decode cX1_around 153 = .ok (.getfield 26, 3) := by decide +kernel
theorem dX1_around_156 : decode cX1_around 156 = .ok (.iload 6, 2) := by decide +kernel
theorem dX1_around_158 : decode cX1_around 158 = .ok (.iaload, 1) := by decide +kernel
theorem dX1_around_159 : decode cX1_around 159 = .ok (.iastore, 1) := by decide +kernel
theorem dX1_around_160 : decode cX1_around 160 = .ok (.iinc 5 1, 3) := by decide +kernel
theorem dX1_around_163 : decode cX1_around 163 = .ok (.goto (-72), 3) := by decide +kernel
theorem dX1_around_166 : decode cX1_around 166 = .ok (.iinc 4 1, 3) := by decide +kernel
theorem dX1_around_169 : decode cX1_around 169 = .ok (.goto (-90), 3) := by decide +kernel
theorem dX1_around_172 : decode cX1_around 172 = .ok (.iinc 3 1, 3) := by decide +kernel
theorem dX1_around_175 : decode cX1_around 175 = .ok (.goto (-104), 3) := by decide +kernel
theorem dX1_around_178 : decode cX1_around 178 = .ok (.iconst 0, 1) := by decide +kernel
theorem dX1_around_179 : decode cX1_around 179 = .ok (.istore_n 3, 1) := by decide +kernel
theorem dX1_around_180 : decode cX1_around 180 = .ok (.iconst 0, 1) := by decide +kernel
theorem dX1_around_181 : decode cX1_around 181 = .ok (.istore 4, 2) := by decide +kernel
theorem dX1_around_183 : decode cX1_around 183 = .ok (.iload 4, 2) := by decide +kernel
theorem dX1_around_185 : decode cX1_around 185 = .ok (.aload_n 0, 1) := by decide +kernel
theorem dX1_around_186 : decode cX1_around 186 = .ok (.getfield 33, 3) := by decide +kernel
theorem dX1_around_189 : decode cX1_around 189 = .ok (.if_icmp .ge 29, 3) := by decide +kernel
theorem dX1_around_192 : decode cX1_around 192 = .ok (.iload_n 3, 1) := by decide +kernel
theorem dX1_around_193 : decode cX1_around 193 = .ok (.aload_n 0, 1) := by decide +kernel
theorem dX1_around_194 : decode cX1_around 194 = .ok (.getfield 26, 3) := by decide +kernel
theorem dX1_around_197 : decode cX1_around 197 = .ok (.iload 4, 2) := by decide +kernel
theorem dX1_around_199 : decode cX1_around 199 = .ok (.iaload, 1) := by decide +kernel
theorem dX1_around_200 : decode cX1_around 200 = .ok (.bipush 100, 2) := by decide +kernel
theorem dX1_around_202 : decode cX1_around 202 = .ok (.if_icmp .ge 7, 3) := by decide +kernel
theorem dX1_around_205 : decode cX1_around 205 = .ok (.iconst 1, 1) := by decide +kernel
theorem dX1_around_206 : decode cX1_around 206 = .ok (.goto 4, 3) := by decide +kernel
theorem dX1_around_209 : decode cX1_around 209 = .ok (.iconst 0, 1) := by decide +kernel
theorem dX1_around_210 : decode cX1_around 210 = .ok (.iadd, 1) := by decide +kernel
theorem dX1_around_211 : decode cX1_around 211 = .ok (.istore_n 3, 1) := by decide +kernel
theorem dX1_around_212 : decode cX1_around 212 = .ok (.iinc 4 1, 3) := by decide +kernel
theorem dX1_around_215 : decode cX1_around 215 = .ok (.goto (-32), 3) := by decide +kernel
theorem dX1_around_218 : decode cX1_around 218 = .ok (.iload_n 3, 1) := by decide +kernel
theorem dX1_around_219 : decode cX1_around 219 = .ok (.ireturn, 1) := by decide +kernel
theorem dX1_look_0 : decode cX1_look 0 = .ok (.aload_n 0, 1) := by decide +kernel
theorem dX1_look_1 : decode cX1_look 1 = .ok (.iconst 0, 1) := by decide +kernel
theorem dX1_look_2 : decode cX1_look 2 = .ok (.putfield 29, 3) := by decide +kernel
theorem dX1_look_5 : decode cX1_look 5 = .ok (.iconst 0, 1) := by decide +kernel
theorem dX1_look_6 : decode cX1_look 6 = .ok (.istore_n 2, 1) := by decide +kernel
theorem dX1_look_7 : decode cX1_look 7 = .ok (.iconst 0, 1) := by decide +kernel
theorem dX1_look_8 : decode cX1_look 8 = .ok (.istore_n 3, 1) := by decide +kernel
theorem dX1_look_9 : decode cX1_look 9 = .ok (.iload_n 3, 1) := by decide +kernel
theorem dX1_look_10 : decode cX1_look 10 = .ok (.aload_n 0, 1) := by decide +kernel
theorem dX1_look_11 : decode cX1_look 11 = .ok (.getfield 33, 3) := by decide +kernel
theorem dX1_look_14 : decode cX1_look 14 = .ok (.if_icmp .ge 18, 3) := by decide +kernel
theorem dX1_look_17 : decode cX1_look 17 = .ok (.iload_n 2, 1) := by decide +kernel
theorem dX1_look_18 : decode cX1_look 18 = .ok (.aload_n 0, 1) := by decide +kernel
theorem dX1_look_19 : decode cX1_look 19 = .ok (.getfield 17, 3) := by decide +kernel
theorem dX1_look_22 : decode cX1_look 22 = .ok (.iload_n 3, 1) := by decide +kernel
theorem dX1_look_23 : decode cX1_look 23 = .ok (.iaload, 1) := by decide +kernel
theorem dX1_look_24 : decode cX1_look 24 = .ok (.iadd, 1) := by decide +kernel
theorem dX1_look_25 : decode cX1_look 25 = .ok (.istore_n 2, 1) := by decide +kernel
theorem dX1_look_26 : decode cX1_look 26 = .ok (.iinc 3 1, 3) := by decide +kernel
theorem dX1_look_29 : decode cX1_look 29 = .ok (.goto (-20), 3) := by decide +kernel
theorem dX1_look_32 : decode cX1_look 32 = .ok (.iload_n 1, 1) := by decide +kernel
theorem dX1_look_33 : decode cX1_look 33 = .ok (.ifCond .ne 10, 3) := by decide +kernel
theorem dX1_look_36 : decode cX1_look 36 = .ok (.aload_n 0, 1) := by decide +kernel
theorem dX1_look_37 : decode cX1_look 37 = .ok (.getfield 33, 3) := by decide +kernel
theorem dX1_look_40 : decode cX1_look 40 = .ok (.goto 13, 3) := by decide +kernel
theorem dX1_look_43 : decode cX1_look 43 = .ok (.iload_n 1, 1) := by decide +kernel
theorem dX1_look_44 : decode cX1_look 44 = .ok (.iconst 1, 1) := by decide +kernel
theorem dX1_look_45 : decode cX1_look 45 = .ok (.if_icmp .ne 7, 3) := by decide +kernel
theorem dX1_look_48 : decode cX1_look 48 = .ok (.iload_n 2, 1) := by decide +kernel
theorem dX1_look_49 : decode cX1_look 49 = .ok (.goto 4, 3) := by decide +kernel
theorem dX1_look_52 : decode cX1_look 52 = .ok (.iconst (-1), 1) := by decide +kernel
theorem dX1_look_53 : decode cX1_look 53 = .ok (.ireturn, 1) := by decide +kernel
theorem dJ9_max_7cf53_0 : decode cJ9_max_7cf53 0 = .ok (.iload_n 0, 1) := by decide +kernel
theorem dJ9_max_7cf53_1 : decode cJ9_max_7cf53 1 = .ok (.iload_n 1, 1) := by decide +kernel
theorem dJ9_max_7cf53_2 : decode cJ9_max_7cf53 2 = .ok (.if_icmp .lt 7, 3) := by decide +kernel
theorem dJ9_max_7cf53_5 : decode cJ9_max_7cf53 5 = .ok (.iload_n 0, 1) := by decide +kernel
theorem dJ9_max_7cf53_6 : decode cJ9_max_7cf53 6 = .ok (.goto 4, 3) := by decide +kernel
theorem dJ9_max_7cf53_9 : decode cJ9_max_7cf53 9 = .ok (.iload_n 1, 1) := by decide +kernel
theorem dJ9_max_7cf53_10 : decode cJ9_max_7cf53 10 = .ok (.ireturn, 1) := by decide +kernel
end
section
theorem dL_cell_0 : decode cL_cell 0 = .ok (.iload_n 1, 1) := by decide +kernel
theorem dL_cell_1 : decode cL_cell 1 = .ok (.aload_n 0, 1) := by decide +kernel
theorem dL_cell_2 : decode cL_cell 2 = .ok (.arraylength, 1) := by decide +kernel
theorem dL_cell_3 : decode cL_cell 3 = .ok (.if_icmp .ge 9, 3) := by decide +kernel
theorem dL_cell_6 : decode cL_cell 6 = .ok (.aload_n 0, 1) := by decide +kernel
theorem dL_cell_7 : decode cL_cell 7 = .ok (.iload_n 1, 1) := by decide +kernel
theorem dL_cell_8 : decode cL_cell 8 = .ok (.iaload, 1) := by decide +kernel
theorem dL_cell_9 : decode cL_cell 9 = .ok (.goto 4, 3) := by decide +kernel
theorem dL_cell_12 : decode cL_cell 12 = .ok (.iconst 0, 1) := by decide +kernel
theorem dL_cell_13 : decode cL_cell 13 = .ok (.ireturn, 1) := by decide +kernel
theorem dL_node_0 : decode cL_node 0 = .ok (.aload_n 3, 1) := by decide +kernel
theorem dL_node_1 : decode cL_node 1 = .ok (.iconst 0, 1) := by decide +kernel
theorem dL_node_2 : decode cL_node 2 = .ok (.aload_n 0, 1) := by decide +kernel
theorem dL_node_3 : decode cL_node 3 = .ok (.iload_n 1, 1) := by decide +kernel
theorem dL_node_4 : decode cL_node 4 = .ok (.iload_n 2, 1) := by decide +kernel
theorem dL_node_5 : decode cL_node 5 = .ok (.invokevirtual 7, 3) := by decide +kernel
theorem dL_node_8 : decode cL_node 8 = .ok (.i2l, 1) := by decide +kernel
theorem dL_node_9 : decode cL_node 9 = .ok (.lastore, 1) := by decide +kernel
theorem dL_node_10 : decode cL_node 10 = .ok (.goto 11, 3) := by decide +kernel
theorem dL_node_13 : decode cL_node 13 = .ok (.astore 4, 2) := by decide +kernel
theorem dL_node_15 : decode cL_node 15 = .ok (.iconst 1, 1) := by decide +kernel
theorem dL_node_16 : decode cL_node 16 = .ok (.ireturn, 1) := by decide +kernel
theorem dL_node_17 : decode cL_node 17 = .ok (.astore 4, 2) := by decide +kernel
theorem dL_node_19 : decode cL_node 19 = .ok (.iconst 2, 1) := by decide +kernel
theorem dL_node_20 : decode cL_node 20 = .ok (.ireturn, 1) := by decide +kernel
theorem dL_node_21 : decode cL_node 21 = .ok (.iconst 0, 1) := by decide +kernel
theorem dL_node_22 : decode cL_node 22 = .ok (.ireturn, 1) := by decide +kernel
theorem dL_move_0 : decode cL_move 0 = .ok (.aload_n 3, 1) := by decide +kernel
theorem dL_move_1 : decode cL_move 1 = .ok (.iconst 0, 1) := by decide +kernel
theorem dL_move_2 : decode cL_move 2 = .ok (.aload_n 0, 1) := by decide +kernel
theorem dL_move_3 : decode cL_move 3 = .ok (.iload_n 1, 1) := by decide +kernel
theorem dL_move_4 : decode cL_move 4 = .ok (.iload_n 2, 1) := by decide +kernel
theorem dL_move_5 : decode cL_move 5 = .ok (.invokevirtual 17, 3) := by decide +kernel
theorem dL_move_8 : decode cL_move 8 = .ok (.i2l, 1) := by decide +kernel
theorem dL_move_9 : decode cL_move 9 = .ok (.lastore, 1) := by decide +kernel
theorem dL_move_10 : decode cL_move 10 = .ok (.goto 11, 3) := by decide +kernel
theorem dL_move_13 : decode cL_move 13 = .ok (.astore 4, 2) := by decide +kernel
theorem dL_move_15 : decode cL_move 15 = .ok (.iconst 1, 1) := by decide +kernel
theorem dL_move_16 : decode cL_move 16 = .ok (.ireturn, 1) := by decide +kernel
theorem dL_move_17 : decode cL_move 17 = .ok (.astore 4, 2) := by decide +kernel
theorem dL_move_19 : decode cL_move 19 = .ok (.iconst 2, 1) := by decide +kernel
theorem dL_move_20 : decode cL_move 20 = .ok (.ireturn, 1) := by decide +kernel
theorem dL_move_21 : decode cL_move 21 = .ok (.iconst 0, 1) := by decide +kernel
theorem dL_move_22 : decode cL_move 22 = .ok (.ireturn, 1) := by decide +kernel
theorem dL_value_0 : decode cL_value 0 = .ok (.aload_n 3, 1) := by decide +kernel
theorem dL_value_1 : decode cL_value 1 = .ok (.iconst 0, 1) := by decide +kernel
theorem dL_value_2 : decode cL_value 2 = .ok (.aload_n 0, 1) := by decide +kernel
theorem dL_value_3 : decode cL_value 3 = .ok (.iload_n 1, 1) := by decide +kernel
theorem dL_value_4 : decode cL_value 4 = .ok (.iload_n 2, 1) := by decide +kernel
theorem dL_value_5 : decode cL_value 5 = .ok (.invokevirtual 21, 3) := by decide +kernel
theorem dL_value_8 : decode cL_value 8 = .ok (.i2l, 1) := by decide +kernel
theorem dL_value_9 : decode cL_value 9 = .ok (.lastore, 1) := by decide +kernel
theorem dL_value_10 : decode cL_value 10 = .ok (.goto 7, 3) := by decide +kernel
theorem dL_value_13 : decode cL_value 13 = .ok (.astore 4, 2) := by decide +kernel
theorem dL_value_15 : decode cL_value 15 = .ok (.iconst 1, 1) := by decide +kernel
theorem dL_value_16 : decode cL_value 16 = .ok (.ireturn, 1) := by decide +kernel
theorem dL_value_17 : decode cL_value 17 = .ok (.iconst 0, 1) := by decide +kernel
theorem dL_value_18 : decode cL_value 18 = .ok (.ireturn, 1) := by decide +kernel
theorem dL_best_0 : decode cL_best 0 = .ok (.aload_n 3, 1) := by decide +kernel
theorem dL_best_1 : decode cL_best 1 = .ok (.iconst 0, 1) := by decide +kernel
theorem dL_best_2 : decode cL_best 2 = .ok (.aload_n 0, 1) := by decide +kernel
theorem dL_best_3 : decode cL_best 3 = .ok (.iload_n 1, 1) := by decide +kernel
theorem dL_best_4 : decode cL_best 4 = .ok (.iload_n 2, 1) := by decide +kernel
theorem dL_best_5 : decode cL_best 5 = .ok (.invokevirtual 24, 3) := by decide +kernel
theorem dL_best_8 : decode cL_best 8 = .ok (.i2l, 1) := by decide +kernel
theorem dL_best_9 : decode cL_best 9 = .ok (.lastore, 1) := by decide +kernel
theorem dL_best_10 : decode cL_best 10 = .ok (.goto 7, 3) := by decide +kernel
theorem dL_best_13 : decode cL_best 13 = .ok (.astore 4, 2) := by decide +kernel
theorem dL_best_15 : decode cL_best 15 = .ok (.iconst 1, 1) := by decide +kernel
theorem dL_best_16 : decode cL_best 16 = .ok (.ireturn, 1) := by decide +kernel
theorem dL_best_17 : decode cL_best 17 = .ok (.iconst 0, 1) := by decide +kernel
theorem dL_best_18 : decode cL_best 18 = .ok (.ireturn, 1) := by decide +kernel
theorem dL_reaches_0 : decode cL_reaches 0 = .ok (.aload 4, 2) := by decide +kernel
theorem dL_reaches_2 : decode cL_reaches 2 = .ok (.iconst 0, 1) := by decide +kernel
theorem dL_reaches_3 : decode cL_reaches 3 = .ok (.aload_n 0, 1) := by decide +kernel
theorem dL_reaches_4 : decode cL_reaches 4 = .ok (.iload_n 1, 1) := by decide +kernel
theorem dL_reaches_5 : decode cL_reaches 5 = .ok (.iload_n 2, 1) := by decide +kernel
theorem dL_reaches_6 : decode cL_reaches 6 = .ok (.iload_n 3, 1) := by decide +kernel
theorem dL_reaches_7 : decode cL_reaches 7 = .ok (.invokevirtual 27, 3) := by decide +kernel
theorem dL_reaches_10 : decode cL_reaches 10 = .ok (.ifCond .eq 7, 3) := by decide +kernel
theorem dL_reaches_13 : decode cL_reaches 13 = .ok (.lconst 1, 1) := by decide +kernel
theorem dL_reaches_14 : decode cL_reaches 14 = .ok (.goto 4, 3) := by decide +kernel
theorem dL_reaches_17 : decode cL_reaches 17 = .ok (.lconst 0, 1) := by decide +kernel
theorem dL_reaches_18 : decode cL_reaches 18 = .ok (.lastore, 1) := by decide +kernel
theorem dL_reaches_19 : decode cL_reaches 19 = .ok (.goto 7, 3) := by decide +kernel
theorem dL_reaches_22 : decode cL_reaches 22 = .ok (.astore 5, 2) := by decide +kernel
theorem dL_reaches_24 : decode cL_reaches 24 = .ok (.iconst 1, 1) := by decide +kernel
theorem dL_reaches_25 : decode cL_reaches 25 = .ok (.ireturn, 1) := by decide +kernel
theorem dL_reaches_26 : decode cL_reaches 26 = .ok (.iconst 0, 1) := by decide +kernel
theorem dL_reaches_27 : decode cL_reaches 27 = .ok (.ireturn, 1) := by decide +kernel
theorem dL_line_0 : decode cL_line 0 = .ok (.aload 4, 2) := by decide +kernel
theorem dL_line_2 : decode cL_line 2 = .ok (.iconst 0, 1) := by decide +kernel
theorem dL_line_3 : decode cL_line 3 = .ok (.aload_n 0, 1) := by decide +kernel
theorem dL_line_4 : decode cL_line 4 = .ok (.iload_n 1, 1) := by decide +kernel
theorem dL_line_5 : decode cL_line 5 = .ok (.iload_n 2, 1) := by decide +kernel
theorem dL_line_6 : decode cL_line 6 = .ok (.iload_n 3, 1) := by decide +kernel
theorem dL_line_7 : decode cL_line 7 = .ok (.invokevirtual 31, 3) := by decide +kernel
theorem dL_line_10 : decode cL_line 10 = .ok (.i2l, 1) := by decide +kernel
theorem dL_line_11 : decode cL_line 11 = .ok (.lastore, 1) := by decide +kernel
theorem dL_line_12 : decode cL_line 12 = .ok (.goto 7, 3) := by decide +kernel
theorem dL_line_15 : decode cL_line 15 = .ok (.astore 5, 2) := by decide +kernel
theorem dL_line_17 : decode cL_line 17 = .ok (.iconst 1, 1) := by decide +kernel
theorem dL_line_18 : decode cL_line 18 = .ok (.ireturn, 1) := by decide +kernel
theorem dL_line_19 : decode cL_line 19 = .ok (.iconst 0, 1) := by decide +kernel
theorem dL_line_20 : decode cL_line 20 = .ok (.ireturn, 1) := by decide +kernel
theorem dL_ties_0 : decode cL_ties 0 = .ok (.aload_n 3, 1) := by decide +kernel
theorem dL_ties_1 : decode cL_ties 1 = .ok (.iconst 0, 1) := by decide +kernel
theorem dL_ties_2 : decode cL_ties 2 = .ok (.aload_n 0, 1) := by decide +kernel
theorem dL_ties_3 : decode cL_ties 3 = .ok (.iload_n 1, 1) := by decide +kernel
theorem dL_ties_4 : decode cL_ties 4 = .ok (.iload_n 2, 1) := by decide +kernel
theorem dL_ties_5 : decode cL_ties 5 = .ok (.invokevirtual 35, 3) := by decide +kernel
theorem dL_ties_8 : decode cL_ties 8 = .ok (.i2l, 1) := by decide +kernel
theorem dL_ties_9 : decode cL_ties 9 = .ok (.lastore, 1) := by decide +kernel
theorem dL_ties_10 : decode cL_ties 10 = .ok (.goto 7, 3) := by decide +kernel
theorem dL_ties_13 : decode cL_ties 13 = .ok (.astore 4, 2) := by decide +kernel
theorem dL_ties_15 : decode cL_ties 15 = .ok (.iconst 1, 1) := by decide +kernel
theorem dL_ties_16 : decode cL_ties 16 = .ok (.ireturn, 1) := by decide +kernel
theorem dL_ties_17 : decode cL_ties 17 = .ok (.iconst 0, 1) := by decide +kernel
theorem dL_ties_18 : decode cL_ties 18 = .ok (.ireturn, 1) := by decide +kernel
theorem dL_settled_0 : decode cL_settled 0 = .ok (.aload_n 3, 1) := by decide +kernel
theorem dL_settled_1 : decode cL_settled 1 = .ok (.iconst 0, 1) := by decide +kernel
theorem dL_settled_2 : decode cL_settled 2 = .ok (.aload_n 0, 1) := by decide +kernel
theorem dL_settled_3 : decode cL_settled 3 = .ok (.iload_n 1, 1) := by decide +kernel
theorem dL_settled_4 : decode cL_settled 4 = .ok (.iload_n 2, 1) := by decide +kernel
theorem dL_settled_5 : decode cL_settled 5 = .ok (.invokevirtual 38, 3) := by decide +kernel
theorem dL_settled_8 : decode cL_settled 8 = .ok (.i2l, 1) := by decide +kernel
theorem dL_settled_9 : decode cL_settled 9 = .ok (.lastore, 1) := by decide +kernel
theorem dL_settled_10 : decode cL_settled 10 = .ok (.goto 7, 3) := by decide +kernel
theorem dL_settled_13 : decode cL_settled 13 = .ok (.astore 4, 2) := by decide +kernel
theorem dL_settled_15 : decode cL_settled 15 = .ok (.iconst 1, 1) := by decide +kernel
theorem dL_settled_16 : decode cL_settled 16 = .ok (.ireturn, 1) := by decide +kernel
theorem dL_settled_17 : decode cL_settled 17 = .ok (.iconst 0, 1) := by decide +kernel
theorem dL_settled_18 : decode cL_settled 18 = .ok (.ireturn, 1) := by decide +kernel
theorem dL_around_0 : decode cL_around 0 = .ok (.aload_n 3, 1) := by decide +kernel
theorem dL_around_1 : decode cL_around 1 = .ok (.iconst 0, 1) := by decide +kernel
theorem dL_around_2 : decode cL_around 2 = .ok (.aload_n 0, 1) := by decide +kernel
theorem dL_around_3 : decode cL_around 3 = .ok (.iload_n 1, 1) := by decide +kernel
theorem dL_around_4 : decode cL_around 4 = .ok (.iload_n 2, 1) := by decide +kernel
theorem dL_around_5 : decode cL_around 5 = .ok (.invokevirtual 41, 3) := by decide +kernel
theorem dL_around_8 : decode cL_around 8 = .ok (.i2l, 1) := by decide +kernel
theorem dL_around_9 : decode cL_around 9 = .ok (.lastore, 1) := by decide +kernel
theorem dL_around_10 : decode cL_around 10 = .ok (.goto 7, 3) := by decide +kernel
theorem dL_around_13 : decode cL_around 13 = .ok (.astore 4, 2) := by decide +kernel
theorem dL_around_15 : decode cL_around 15 = .ok (.iconst 1, 1) := by decide +kernel
theorem dL_around_16 : decode cL_around 16 = .ok (.ireturn, 1) := by decide +kernel
theorem dL_around_17 : decode cL_around 17 = .ok (.iconst 0, 1) := by decide +kernel
theorem dL_around_18 : decode cL_around 18 = .ok (.ireturn, 1) := by decide +kernel
end
section
theorem dL_law_0 : decode cL_law 0 = .ok (.new 8, 3) := by decide +kernel
theorem dL_law_3 : decode cL_law 3 = .ok (.dup, 1) := by decide +kernel
theorem dL_law_4 : decode cL_law 4 = .ok (.aload_n 0, 1) := by decide +kernel
theorem dL_law_5 : decode cL_law 5 = .ok (.iconst 0, 1) := by decide +kernel
theorem dL_law_6 : decode cL_law 6 = .ok (.invokestatic 44, 3) := by decide +kernel
theorem dL_law_9 : decode cL_law 9 = .ok (.invokespecial 50, 3) := by decide +kernel
theorem dL_law_12 : decode cL_law 12 = .ok (.astore_n 1, 1) := by decide +kernel
theorem dL_law_13 : decode cL_law 13 = .ok (.new 53, 3) := by decide +kernel
theorem dL_law_16 : decode cL_law 16 = .ok (.dup, 1) := by decide +kernel
theorem dL_law_17 : decode cL_law 17 = .ok (.aload_n 0, 1) := by decide +kernel
theorem dL_law_18 : decode cL_law 18 = .ok (.iconst 0, 1) := by decide +kernel
theorem dL_law_19 : decode cL_law 19 = .ok (.invokestatic 44, 3) := by decide +kernel
theorem dL_law_22 : decode cL_law 22 = .ok (.invokespecial 55, 3) := by decide +kernel
theorem dL_law_25 : decode cL_law 25 = .ok (.astore_n 2, 1) := by decide +kernel
theorem dL_law_26 : decode cL_law 26 = .ok (.iconst 1, 1) := by decide +kernel
theorem dL_law_27 : decode cL_law 27 = .ok (.newarray .long, 2) := by decide +kernel
theorem dL_law_29 : decode cL_law 29 = .ok (.astore_n 3, 1) := by decide +kernel
theorem dL_law_30 : decode cL_law 30 = .ok (.iconst 1, 1) := by decide +kernel
theorem dL_law_31 : decode cL_law 31 = .ok (.istore 4, 2) := by decide +kernel
theorem dL_law_33 : decode cL_law 33 = .ok (.iload 4, 2) := by decide +kernel
theorem dL_law_35 : decode cL_law 35 = .ok (.aload_n 0, 1) := by decide +kernel
theorem dL_law_36 : decode cL_law 36 = .ok (.arraylength, 1) := by decide +kernel
theorem dL_law_37 : decode cL_law 37 = .ok (.iconst 4, 1) := by decide +kernel
theorem dL_law_38 : decode cL_law 38 = .ok (.isub, 1) := by decide +kernel
theorem dL_law_39 : decode cL_law 39 = .ok (.if_icmp .gt 894, 3) := by decide +kernel
theorem dL_law_42 : decode cL_law 42 = .ok (.aload_n 0, 1) := by decide +kernel
theorem dL_law_43 : decode cL_law 43 = .ok (.iload 4, 2) := by decide +kernel
theorem dL_law_45 : decode cL_law 45 = .ok (.iaload, 1) := by decide +kernel
theorem dL_law_46 : decode cL_law 46 = .ok (.bipush 15, 2) := by decide +kernel
theorem dL_law_48 : decode cL_law 48 = .ok (.iand, 1) := by decide +kernel
theorem dL_law_49 : decode cL_law 49 = .ok (.tableswitch 878 0 12 #[67, 151, 219, 244, 309, 377, 445, 532, 612, 680, 748, 785, 853], 67) := by decide +kernel
theorem dL_law_116 : decode cL_law 116 = .ok (.aload_n 1, 1) := by decide +kernel
theorem dL_law_117 : decode cL_law 117 = .ok (.aload_n 0, 1) := by decide +kernel
theorem dL_law_118 : decode cL_law 118 = .ok (.iload 4, 2) := by decide +kernel
theorem dL_law_120 : decode cL_law 120 = .ok (.iconst 1, 1) := by decide +kernel
theorem dL_law_121 : decode cL_law 121 = .ok (.iadd, 1) := by decide +kernel
theorem dL_law_122 : decode cL_law 122 = .ok (.iaload, 1) := by decide +kernel
theorem dL_law_123 : decode cL_law 123 = .ok (.aload_n 0, 1) := by decide +kernel
theorem dL_law_124 : decode cL_law 124 = .ok (.iload 4, 2) := by decide +kernel
theorem dL_law_126 : decode cL_law 126 = .ok (.iconst 2, 1) := by decide +kernel
theorem dL_law_127 : decode cL_law 127 = .ok (.iadd, 1) := by decide +kernel
theorem dL_law_128 : decode cL_law 128 = .ok (.iaload, 1) := by decide +kernel
theorem dL_law_129 : decode cL_law 129 = .ok (.ifCond .eq 7, 3) := by decide +kernel
theorem dL_law_132 : decode cL_law 132 = .ok (.iconst 1, 1) := by decide +kernel
theorem dL_law_133 : decode cL_law 133 = .ok (.goto 4, 3) := by decide +kernel
theorem dL_law_136 : decode cL_law 136 = .ok (.iconst 0, 1) := by decide +kernel
theorem dL_law_137 : decode cL_law 137 = .ok (.aload_n 3, 1) := by decide +kernel
theorem dL_law_138 : decode cL_law 138 = .ok (.invokestatic 56, 3) := by decide +kernel
theorem dL_law_141 : decode cL_law 141 = .ok (.istore 5, 2) := by decide +kernel
theorem dL_law_143 : decode cL_law 143 = .ok (.aload_n 2, 1) := by decide +kernel
theorem dL_law_144 : decode cL_law 144 = .ok (.aload_n 0, 1) := by decide +kernel
theorem dL_law_145 : decode cL_law 145 = .ok (.iload 4, 2) := by decide +kernel
theorem dL_law_147 : decode cL_law 147 = .ok (.iconst 1, 1) := by decide +kernel
theorem dL_law_148 : decode cL_law 148 = .ok (.iadd, 1) := by decide +kernel
theorem dL_law_149 : decode cL_law 149 = .ok (.iaload, 1) := by decide +kernel
theorem dL_law_150 : decode cL_law 150 = .ok (.aload_n 0, 1) := by decide +kernel
theorem dL_law_151 : decode cL_law 151 = .ok (.iload 4, 2) := by decide +kernel
theorem dL_law_153 : decode cL_law 153 = .ok (.iconst 2, 1) := by decide +kernel
theorem dL_law_154 : decode cL_law 154 = .ok (.iadd, 1) := by decide +kernel
theorem dL_law_155 : decode cL_law 155 = .ok (.iaload, 1) := by decide +kernel
theorem dL_law_156 : decode cL_law 156 = .ok (.ifCond .eq 7, 3) := by decide +kernel
theorem dL_law_159 : decode cL_law 159 = .ok (.iconst 1, 1) := by decide +kernel
theorem dL_law_160 : decode cL_law 160 = .ok (.goto 4, 3) := by decide +kernel
theorem dL_law_163 : decode cL_law 163 = .ok (.iconst 0, 1) := by decide +kernel
theorem dL_law_164 : decode cL_law 164 = .ok (.invokevirtual 59, 3) := by decide +kernel
theorem dL_law_167 : decode cL_law 167 = .ok (.istore 6, 2) := by decide +kernel
theorem dL_law_169 : decode cL_law 169 = .ok (.aload_n 2, 1) := by decide +kernel
theorem dL_law_170 : decode cL_law 170 = .ok (.invokevirtual 60, 3) := by decide +kernel
theorem dL_law_173 : decode cL_law 173 = .ok (.iload 5, 2) := by decide +kernel
theorem dL_law_175 : decode cL_law 175 = .ok (.if_icmp .eq 5, 3) := by decide +kernel
theorem dL_law_178 : decode cL_law 178 = .ok (.iconst 0, 1) := by decide +kernel
theorem dL_law_179 : decode cL_law 179 = .ok (.ireturn, 1) := by decide +kernel
theorem dL_law_180 : decode cL_law 180 = .ok (.iload 5, 2) := by decide +kernel
theorem dL_law_182 : decode cL_law 182 = .ok (.ifCond .ne 15, 3) := by decide +kernel
theorem dL_law_185 : decode cL_law 185 = .ok (.aload_n 3, 1) := by decide +kernel
theorem dL_law_186 : decode cL_law 186 = .ok (.iconst 0, 1) := by decide +kernel
theorem dL_law_187 : decode cL_law 187 = .ok (.laload, 1) := by decide +kernel
theorem dL_law_188 : decode cL_law 188 = .ok (.iload 6, 2) := by decide +kernel
theorem dL_law_190 : decode cL_law 190 = .ok (.i2l, 1) := by decide +kernel
theorem dL_law_191 : decode cL_law 191 = .ok (.lcmp, 1) := by decide +kernel
theorem dL_law_192 : decode cL_law 192 = .ok (.ifCond .eq 5, 3) := by decide +kernel
theorem dL_law_195 : decode cL_law 195 = .ok (.iconst 0, 1) := by decide +kernel
theorem dL_law_196 : decode cL_law 196 = .ok (.ireturn, 1) := by decide +kernel
theorem dL_law_197 : decode cL_law 197 = .ok (.goto 730, 3) := by decide +kernel
theorem dL_law_200 : decode cL_law 200 = .ok (.aload_n 1, 1) := by decide +kernel
theorem dL_law_201 : decode cL_law 201 = .ok (.aload_n 0, 1) := by decide +kernel
theorem dL_law_202 : decode cL_law 202 = .ok (.iload 4, 2) := by decide +kernel
theorem dL_law_204 : decode cL_law 204 = .ok (.iconst 1, 1) := by decide +kernel
theorem dL_law_205 : decode cL_law 205 = .ok (.iadd, 1) := by decide +kernel
theorem dL_law_206 : decode cL_law 206 = .ok (.iaload, 1) := by decide +kernel
theorem dL_law_207 : decode cL_law 207 = .ok (.aload_n 0, 1) := by decide +kernel
theorem dL_law_208 : decode cL_law 208 = .ok (.iload 4, 2) := by decide +kernel
theorem dL_law_210 : decode cL_law 210 = .ok (.iconst 2, 1) := by decide +kernel
theorem dL_law_211 : decode cL_law 211 = .ok (.iadd, 1) := by decide +kernel
theorem dL_law_212 : decode cL_law 212 = .ok (.iaload, 1) := by decide +kernel
theorem dL_law_213 : decode cL_law 213 = .ok (.aload_n 3, 1) := by decide +kernel
theorem dL_law_214 : decode cL_law 214 = .ok (.invokestatic 64, 3) := by decide +kernel
theorem dL_law_217 : decode cL_law 217 = .ok (.istore 5, 2) := by decide +kernel
theorem dL_law_219 : decode cL_law 219 = .ok (.aload_n 2, 1) := by decide +kernel
theorem dL_law_220 : decode cL_law 220 = .ok (.aload_n 0, 1) := by decide +kernel
theorem dL_law_221 : decode cL_law 221 = .ok (.iload 4, 2) := by decide +kernel
theorem dL_law_223 : decode cL_law 223 = .ok (.iconst 1, 1) := by decide +kernel
theorem dL_law_224 : decode cL_law 224 = .ok (.iadd, 1) := by decide +kernel
theorem dL_law_225 : decode cL_law 225 = .ok (.iaload, 1) := by decide +kernel
theorem dL_law_226 : decode cL_law 226 = .ok (.aload_n 0, 1) := by decide +kernel
theorem dL_law_227 : decode cL_law 227 = .ok (.iload 4, 2) := by decide +kernel
theorem dL_law_229 : decode cL_law 229 = .ok (.iconst 2, 1) := by decide +kernel
theorem dL_law_230 : decode cL_law 230 = .ok (.iadd, 1) := by decide +kernel
theorem dL_law_231 : decode cL_law 231 = .ok (.iaload, 1) := by decide +kernel
theorem dL_law_232 : decode cL_law 232 = .ok (.invokevirtual 67, 3) := by decide +kernel
theorem dL_law_235 : decode cL_law 235 = .ok (.istore 6, 2) := by decide +kernel
theorem dL_law_237 : decode cL_law 237 = .ok (.aload_n 2, 1) := by decide +kernel
theorem dL_law_238 : decode cL_law 238 = .ok (.invokevirtual 60, 3) := by decide +kernel
theorem dL_law_241 : decode cL_law 241 = .ok (.iload 5, 2) := by decide +kernel
theorem dL_law_243 : decode cL_law 243 = .ok (.if_icmp .eq 5, 3) := by decide +kernel
theorem dL_law_246 : decode cL_law 246 = .ok (.iconst 0, 1) := by decide +kernel
theorem dL_law_247 : decode cL_law 247 = .ok (.ireturn, 1) := by decide +kernel
theorem dL_law_248 : decode cL_law 248 = .ok (.iload 5, 2) := by decide +kernel
theorem dL_law_250 : decode cL_law 250 = .ok (.ifCond .ne 15, 3) := by decide +kernel
theorem dL_law_253 : decode cL_law 253 = .ok (.aload_n 3, 1) := by decide +kernel
theorem dL_law_254 : decode cL_law 254 = .ok (.iconst 0, 1) := by decide +kernel
theorem dL_law_255 : decode cL_law 255 = .ok (.laload, 1) := by decide +kernel
theorem dL_law_256 : decode cL_law 256 = .ok (.iload 6, 2) := by decide +kernel
theorem dL_law_258 : decode cL_law 258 = .ok (.i2l, 1) := by decide +kernel
theorem dL_law_259 : decode cL_law 259 = .ok (.lcmp, 1) := by decide +kernel
theorem dL_law_260 : decode cL_law 260 = .ok (.ifCond .eq 5, 3) := by decide +kernel
theorem dL_law_263 : decode cL_law 263 = .ok (.iconst 0, 1) := by decide +kernel
theorem dL_law_264 : decode cL_law 264 = .ok (.ireturn, 1) := by decide +kernel
theorem dL_law_265 : decode cL_law 265 = .ok (.goto 662, 3) := by decide +kernel
theorem dL_law_268 : decode cL_law 268 = .ok (.aload_n 1, 1) := by decide +kernel
theorem dL_law_269 : decode cL_law 269 = .ok (.aload_n 0, 1) := by decide +kernel
theorem dL_law_270 : decode cL_law 270 = .ok (.iload 4, 2) := by decide +kernel
theorem dL_law_272 : decode cL_law 272 = .ok (.iconst 1, 1) := by decide +kernel
theorem dL_law_273 : decode cL_law 273 = .ok (.iadd, 1) := by decide +kernel
theorem dL_law_274 : decode cL_law 274 = .ok (.iaload, 1) := by decide +kernel
theorem dL_law_275 : decode cL_law 275 = .ok (.invokevirtual 68, 3) := by decide +kernel
theorem dL_law_278 : decode cL_law 278 = .ok (.aload_n 2, 1) := by decide +kernel
theorem dL_law_279 : decode cL_law 279 = .ok (.aload_n 0, 1) := by decide +kernel
theorem dL_law_280 : decode cL_law 280 = .ok (.iload 4, 2) := by decide +kernel
theorem dL_law_282 : decode cL_law 282 = .ok (.iconst 1, 1) := by decide +kernel
theorem dL_law_283 : decode cL_law 283 = .ok (.iadd, 1) := by decide +kernel
theorem dL_law_284 : decode cL_law 284 = .ok (.iaload, 1) := by decide +kernel
theorem dL_law_285 : decode cL_law 285 = .ok (.invokevirtual 72, 3) := by decide +kernel
theorem dL_law_288 : decode cL_law 288 = .ok (.if_icmp .eq 639, 3) := by decide +kernel
theorem dL_law_291 : decode cL_law 291 = .ok (.iconst 0, 1) := by decide +kernel
theorem dL_law_292 : decode cL_law 292 = .ok (.ireturn, 1) := by decide +kernel
theorem dL_law_293 : decode cL_law 293 = .ok (.aload_n 1, 1) := by decide +kernel
theorem dL_law_294 : decode cL_law 294 = .ok (.aload_n 0, 1) := by decide +kernel
theorem dL_law_295 : decode cL_law 295 = .ok (.iload 4, 2) := by decide +kernel
theorem dL_law_297 : decode cL_law 297 = .ok (.iconst 1, 1) := by decide +kernel
end
section
theorem dL_law_298 : decode cL_law 298 = .ok (.iadd, 1) := by decide +kernel
theorem dL_law_299 : decode cL_law 299 = .ok (.iaload, 1) := by decide +kernel
theorem dL_law_300 : decode cL_law 300 = .ok (.aload_n 0, 1) := by decide +kernel
theorem dL_law_301 : decode cL_law 301 = .ok (.iload 4, 2) := by decide +kernel
theorem dL_law_303 : decode cL_law 303 = .ok (.iconst 2, 1) := by decide +kernel
theorem dL_law_304 : decode cL_law 304 = .ok (.iadd, 1) := by decide +kernel
theorem dL_law_305 : decode cL_law 305 = .ok (.iaload, 1) := by decide +kernel
theorem dL_law_306 : decode cL_law 306 = .ok (.aload_n 0, 1) := by decide +kernel
theorem dL_law_307 : decode cL_law 307 = .ok (.iload 4, 2) := by decide +kernel
theorem dL_law_309 : decode cL_law 309 = .ok (.iconst 3, 1) := by decide +kernel
theorem dL_law_310 : decode cL_law 310 = .ok (.iadd, 1) := by decide +kernel
theorem dL_law_311 : decode cL_law 311 = .ok (.iaload, 1) := by decide +kernel
theorem dL_law_312 : decode cL_law 312 = .ok (.ifCond .eq 7, 3) := by decide +kernel
theorem dL_law_315 : decode cL_law 315 = .ok (.iconst 1, 1) := by decide +kernel
theorem dL_law_316 : decode cL_law 316 = .ok (.goto 4, 3) := by decide +kernel
theorem dL_law_319 : decode cL_law 319 = .ok (.iconst 0, 1) := by decide +kernel
theorem dL_law_320 : decode cL_law 320 = .ok (.invokevirtual 73, 3) := by decide +kernel
theorem dL_law_323 : decode cL_law 323 = .ok (.aload_n 2, 1) := by decide +kernel
theorem dL_law_324 : decode cL_law 324 = .ok (.aload_n 0, 1) := by decide +kernel
theorem dL_law_325 : decode cL_law 325 = .ok (.iload 4, 2) := by decide +kernel
theorem dL_law_327 : decode cL_law 327 = .ok (.iconst 1, 1) := by decide +kernel
theorem dL_law_328 : decode cL_law 328 = .ok (.iadd, 1) := by decide +kernel
theorem dL_law_329 : decode cL_law 329 = .ok (.iaload, 1) := by decide +kernel
theorem dL_law_330 : decode cL_law 330 = .ok (.aload_n 0, 1) := by decide +kernel
theorem dL_law_331 : decode cL_law 331 = .ok (.iload 4, 2) := by decide +kernel
theorem dL_law_333 : decode cL_law 333 = .ok (.iconst 2, 1) := by decide +kernel
theorem dL_law_334 : decode cL_law 334 = .ok (.iadd, 1) := by decide +kernel
theorem dL_law_335 : decode cL_law 335 = .ok (.iaload, 1) := by decide +kernel
theorem dL_law_336 : decode cL_law 336 = .ok (.aload_n 0, 1) := by decide +kernel
theorem dL_law_337 : decode cL_law 337 = .ok (.iload 4, 2) := by decide +kernel
theorem dL_law_339 : decode cL_law 339 = .ok (.iconst 3, 1) := by decide +kernel
theorem dL_law_340 : decode cL_law 340 = .ok (.iadd, 1) := by decide +kernel
theorem dL_law_341 : decode cL_law 341 = .ok (.iaload, 1) := by decide +kernel
theorem dL_law_342 : decode cL_law 342 = .ok (.ifCond .eq 7, 3) := by decide +kernel
theorem dL_law_345 : decode cL_law 345 = .ok (.iconst 1, 1) := by decide +kernel
theorem dL_law_346 : decode cL_law 346 = .ok (.goto 4, 3) := by decide +kernel
theorem dL_law_349 : decode cL_law 349 = .ok (.iconst 0, 1) := by decide +kernel
theorem dL_law_350 : decode cL_law 350 = .ok (.invokevirtual 77, 3) := by decide +kernel
theorem dL_law_353 : decode cL_law 353 = .ok (.if_icmp .eq 574, 3) := by decide +kernel
theorem dL_law_356 : decode cL_law 356 = .ok (.iconst 0, 1) := by decide +kernel
theorem dL_law_357 : decode cL_law 357 = .ok (.ireturn, 1) := by decide +kernel
theorem dL_law_358 : decode cL_law 358 = .ok (.aload_n 1, 1) := by decide +kernel
theorem dL_law_359 : decode cL_law 359 = .ok (.aload_n 0, 1) := by decide +kernel
theorem dL_law_360 : decode cL_law 360 = .ok (.iload 4, 2) := by decide +kernel
theorem dL_law_362 : decode cL_law 362 = .ok (.iconst 1, 1) := by decide +kernel
theorem dL_law_363 : decode cL_law 363 = .ok (.iadd, 1) := by decide +kernel
theorem dL_law_364 : decode cL_law 364 = .ok (.iaload, 1) := by decide +kernel
theorem dL_law_365 : decode cL_law 365 = .ok (.aload_n 0, 1) := by decide +kernel
theorem dL_law_366 : decode cL_law 366 = .ok (.iload 4, 2) := by decide +kernel
theorem dL_law_368 : decode cL_law 368 = .ok (.iconst 2, 1) := by decide +kernel
theorem dL_law_369 : decode cL_law 369 = .ok (.iadd, 1) := by decide +kernel
theorem dL_law_370 : decode cL_law 370 = .ok (.iaload, 1) := by decide +kernel
theorem dL_law_371 : decode cL_law 371 = .ok (.aload_n 3, 1) := by decide +kernel
theorem dL_law_372 : decode cL_law 372 = .ok (.invokestatic 78, 3) := by decide +kernel
theorem dL_law_375 : decode cL_law 375 = .ok (.istore 5, 2) := by decide +kernel
theorem dL_law_377 : decode cL_law 377 = .ok (.aload_n 2, 1) := by decide +kernel
theorem dL_law_378 : decode cL_law 378 = .ok (.aload_n 0, 1) := by decide +kernel
theorem dL_law_379 : decode cL_law 379 = .ok (.iload 4, 2) := by decide +kernel
theorem dL_law_381 : decode cL_law 381 = .ok (.iconst 1, 1) := by decide +kernel
theorem dL_law_382 : decode cL_law 382 = .ok (.iadd, 1) := by decide +kernel
theorem dL_law_383 : decode cL_law 383 = .ok (.iaload, 1) := by decide +kernel
theorem dL_law_384 : decode cL_law 384 = .ok (.aload_n 0, 1) := by decide +kernel
theorem dL_law_385 : decode cL_law 385 = .ok (.iload 4, 2) := by decide +kernel
theorem dL_law_387 : decode cL_law 387 = .ok (.iconst 2, 1) := by decide +kernel
theorem dL_law_388 : decode cL_law 388 = .ok (.iadd, 1) := by decide +kernel
theorem dL_law_389 : decode cL_law 389 = .ok (.iaload, 1) := by decide +kernel
theorem dL_law_390 : decode cL_law 390 = .ok (.invokevirtual 80, 3) := by decide +kernel
theorem dL_law_393 : decode cL_law 393 = .ok (.istore 6, 2) := by decide +kernel
theorem dL_law_395 : decode cL_law 395 = .ok (.aload_n 2, 1) := by decide +kernel
theorem dL_law_396 : decode cL_law 396 = .ok (.invokevirtual 60, 3) := by decide +kernel
theorem dL_law_399 : decode cL_law 399 = .ok (.iload 5, 2) := by decide +kernel
theorem dL_law_401 : decode cL_law 401 = .ok (.if_icmp .eq 5, 3) := by decide +kernel
theorem dL_law_404 : decode cL_law 404 = .ok (.iconst 0, 1) := by decide +kernel
theorem dL_law_405 : decode cL_law 405 = .ok (.ireturn, 1) := by decide +kernel
theorem dL_law_406 : decode cL_law 406 = .ok (.iload 5, 2) := by decide +kernel
theorem dL_law_408 : decode cL_law 408 = .ok (.ifCond .ne 15, 3) := by decide +kernel
theorem dL_law_411 : decode cL_law 411 = .ok (.aload_n 3, 1) := by decide +kernel
theorem dL_law_412 : decode cL_law 412 = .ok (.iconst 0, 1) := by decide +kernel
theorem dL_law_413 : decode cL_law 413 = .ok (.laload, 1) := by decide +kernel
theorem dL_law_414 : decode cL_law 414 = .ok (.iload 6, 2) := by decide +kernel
theorem dL_law_416 : decode cL_law 416 = .ok (.i2l, 1) := by decide +kernel
theorem dL_law_417 : decode cL_law 417 = .ok (.lcmp, 1) := by decide +kernel
theorem dL_law_418 : decode cL_law 418 = .ok (.ifCond .eq 5, 3) := by decide +kernel
theorem dL_law_421 : decode cL_law 421 = .ok (.iconst 0, 1) := by decide +kernel
theorem dL_law_422 : decode cL_law 422 = .ok (.ireturn, 1) := by decide +kernel
theorem dL_law_423 : decode cL_law 423 = .ok (.goto 504, 3) := by decide +kernel
theorem dL_law_426 : decode cL_law 426 = .ok (.aload_n 1, 1) := by decide +kernel
theorem dL_law_427 : decode cL_law 427 = .ok (.aload_n 0, 1) := by decide +kernel
theorem dL_law_428 : decode cL_law 428 = .ok (.iload 4, 2) := by decide +kernel
theorem dL_law_430 : decode cL_law 430 = .ok (.iconst 1, 1) := by decide +kernel
theorem dL_law_431 : decode cL_law 431 = .ok (.iadd, 1) := by decide +kernel
theorem dL_law_432 : decode cL_law 432 = .ok (.iaload, 1) := by decide +kernel
theorem dL_law_433 : decode cL_law 433 = .ok (.aload_n 0, 1) := by decide +kernel
theorem dL_law_434 : decode cL_law 434 = .ok (.iload 4, 2) := by decide +kernel
theorem dL_law_436 : decode cL_law 436 = .ok (.iconst 2, 1) := by decide +kernel
theorem dL_law_437 : decode cL_law 437 = .ok (.iadd, 1) := by decide +kernel
theorem dL_law_438 : decode cL_law 438 = .ok (.iaload, 1) := by decide +kernel
theorem dL_law_439 : decode cL_law 439 = .ok (.aload_n 3, 1) := by decide +kernel
theorem dL_law_440 : decode cL_law 440 = .ok (.invokestatic 81, 3) := by decide +kernel
theorem dL_law_443 : decode cL_law 443 = .ok (.istore 5, 2) := by decide +kernel
theorem dL_law_445 : decode cL_law 445 = .ok (.aload_n 2, 1) := by decide +kernel
theorem dL_law_446 : decode cL_law 446 = .ok (.aload_n 0, 1) := by decide +kernel
theorem dL_law_447 : decode cL_law 447 = .ok (.iload 4, 2) := by decide +kernel
theorem dL_law_449 : decode cL_law 449 = .ok (.iconst 1, 1) := by decide +kernel
theorem dL_law_450 : decode cL_law 450 = .ok (.iadd, 1) := by decide +kernel
theorem dL_law_451 : decode cL_law 451 = .ok (.iaload, 1) := by decide +kernel
theorem dL_law_452 : decode cL_law 452 = .ok (.aload_n 0, 1) := by decide +kernel
theorem dL_law_453 : decode cL_law 453 = .ok (.iload 4, 2) := by decide +kernel
theorem dL_law_455 : decode cL_law 455 = .ok (.iconst 2, 1) := by decide +kernel
theorem dL_law_456 : decode cL_law 456 = .ok (.iadd, 1) := by decide +kernel
theorem dL_law_457 : decode cL_law 457 = .ok (.iaload, 1) := by decide +kernel
theorem dL_law_458 : decode cL_law 458 = .ok (.invokevirtual 83, 3) := by decide +kernel
theorem dL_law_461 : decode cL_law 461 = .ok (.istore 6, 2) := by decide +kernel
theorem dL_law_463 : decode cL_law 463 = .ok (.aload_n 2, 1) := by decide +kernel
theorem dL_law_464 : decode cL_law 464 = .ok (.invokevirtual 60, 3) := by decide +kernel
theorem dL_law_467 : decode cL_law 467 = .ok (.iload 5, 2) := by decide +kernel
theorem dL_law_469 : decode cL_law 469 = .ok (.if_icmp .eq 5, 3) := by decide +kernel
theorem dL_law_472 : decode cL_law 472 = .ok (.iconst 0, 1) := by decide +kernel
theorem dL_law_473 : decode cL_law 473 = .ok (.ireturn, 1) := by decide +kernel
theorem dL_law_474 : decode cL_law 474 = .ok (.iload 5, 2) := by decide +kernel
theorem dL_law_476 : decode cL_law 476 = .ok (.ifCond .ne 15, 3) := by decide +kernel
theorem dL_law_479 : decode cL_law 479 = .ok (.aload_n 3, 1) := by decide +kernel
theorem dL_law_480 : decode cL_law 480 = .ok (.iconst 0, 1) := by decide +kernel
theorem dL_law_481 : decode cL_law 481 = .ok (.laload, 1) := by decide +kernel
theorem dL_law_482 : decode cL_law 482 = .ok (.iload 6, 2) := by decide +kernel
theorem dL_law_484 : decode cL_law 484 = .ok (.i2l, 1) := by decide +kernel
theorem dL_law_485 : decode cL_law 485 = .ok (.lcmp, 1) := by decide +kernel
theorem dL_law_486 : decode cL_law 486 = .ok (.ifCond .eq 5, 3) := by decide +kernel
theorem dL_law_489 : decode cL_law 489 = .ok (.iconst 0, 1) := by decide +kernel
theorem dL_law_490 : decode cL_law 490 = .ok (.ireturn, 1) := by decide +kernel
theorem dL_law_491 : decode cL_law 491 = .ok (.goto 436, 3) := by decide +kernel
theorem dL_law_494 : decode cL_law 494 = .ok (.aload_n 1, 1) := by decide +kernel
theorem dL_law_495 : decode cL_law 495 = .ok (.aload_n 0, 1) := by decide +kernel
theorem dL_law_496 : decode cL_law 496 = .ok (.iload 4, 2) := by decide +kernel
theorem dL_law_498 : decode cL_law 498 = .ok (.iconst 1, 1) := by decide +kernel
theorem dL_law_499 : decode cL_law 499 = .ok (.iadd, 1) := by decide +kernel
theorem dL_law_500 : decode cL_law 500 = .ok (.iaload, 1) := by decide +kernel
theorem dL_law_501 : decode cL_law 501 = .ok (.aload_n 0, 1) := by decide +kernel
theorem dL_law_502 : decode cL_law 502 = .ok (.iload 4, 2) := by decide +kernel
theorem dL_law_504 : decode cL_law 504 = .ok (.iconst 2, 1) := by decide +kernel
theorem dL_law_505 : decode cL_law 505 = .ok (.iadd, 1) := by decide +kernel
theorem dL_law_506 : decode cL_law 506 = .ok (.iaload, 1) := by decide +kernel
theorem dL_law_507 : decode cL_law 507 = .ok (.aload_n 0, 1) := by decide +kernel
theorem dL_law_508 : decode cL_law 508 = .ok (.iload 4, 2) := by decide +kernel
theorem dL_law_510 : decode cL_law 510 = .ok (.iconst 3, 1) := by decide +kernel
theorem dL_law_511 : decode cL_law 511 = .ok (.iadd, 1) := by decide +kernel
theorem dL_law_512 : decode cL_law 512 = .ok (.iaload, 1) := by decide +kernel
theorem dL_law_513 : decode cL_law 513 = .ok (.aload_n 3, 1) := by decide +kernel
theorem dL_law_514 : decode cL_law 514 = .ok (.invokestatic 84, 3) := by decide +kernel
theorem dL_law_517 : decode cL_law 517 = .ok (.istore 5, 2) := by decide +kernel
end
section
theorem dL_law_519 : decode cL_law 519 = .ok (.aload_n 2, 1) := by decide +kernel
theorem dL_law_520 : decode cL_law 520 = .ok (.aload_n 0, 1) := by decide +kernel
theorem dL_law_521 : decode cL_law 521 = .ok (.iload 4, 2) := by decide +kernel
theorem dL_law_523 : decode cL_law 523 = .ok (.iconst 1, 1) := by decide +kernel
theorem dL_law_524 : decode cL_law 524 = .ok (.iadd, 1) := by decide +kernel
theorem dL_law_525 : decode cL_law 525 = .ok (.iaload, 1) := by decide +kernel
theorem dL_law_526 : decode cL_law 526 = .ok (.aload_n 0, 1) := by decide +kernel
theorem dL_law_527 : decode cL_law 527 = .ok (.iload 4, 2) := by decide +kernel
theorem dL_law_529 : decode cL_law 529 = .ok (.iconst 2, 1) := by decide +kernel
theorem dL_law_530 : decode cL_law 530 = .ok (.iadd, 1) := by decide +kernel
theorem dL_law_531 : decode cL_law 531 = .ok (.iaload, 1) := by decide +kernel
theorem dL_law_532 : decode cL_law 532 = .ok (.aload_n 0, 1) := by decide +kernel
theorem dL_law_533 : decode cL_law 533 = .ok (.iload 4, 2) := by decide +kernel
theorem dL_law_535 : decode cL_law 535 = .ok (.iconst 3, 1) := by decide +kernel
theorem dL_law_536 : decode cL_law 536 = .ok (.iadd, 1) := by decide +kernel
theorem dL_law_537 : decode cL_law 537 = .ok (.iaload, 1) := by decide +kernel
theorem dL_law_538 : decode cL_law 538 = .ok (.invokevirtual 87, 3) := by decide +kernel
theorem dL_law_541 : decode cL_law 541 = .ok (.istore 6, 2) := by decide +kernel
theorem dL_law_543 : decode cL_law 543 = .ok (.aload_n 2, 1) := by decide +kernel
theorem dL_law_544 : decode cL_law 544 = .ok (.invokevirtual 60, 3) := by decide +kernel
theorem dL_law_547 : decode cL_law 547 = .ok (.iload 5, 2) := by decide +kernel
theorem dL_law_549 : decode cL_law 549 = .ok (.if_icmp .eq 5, 3) := by decide +kernel
theorem dL_law_552 : decode cL_law 552 = .ok (.iconst 0, 1) := by decide +kernel
theorem dL_law_553 : decode cL_law 553 = .ok (.ireturn, 1) := by decide +kernel
theorem dL_law_554 : decode cL_law 554 = .ok (.iload 5, 2) := by decide +kernel
theorem dL_law_556 : decode cL_law 556 = .ok (.ifCond .ne 22, 3) := by decide +kernel
theorem dL_law_559 : decode cL_law 559 = .ok (.aload_n 3, 1) := by decide +kernel
theorem dL_law_560 : decode cL_law 560 = .ok (.iconst 0, 1) := by decide +kernel
theorem dL_law_561 : decode cL_law 561 = .ok (.laload, 1) := by decide +kernel
theorem dL_law_562 : decode cL_law 562 = .ok (.iload 6, 2) := by decide +kernel
theorem dL_law_564 : decode cL_law 564 = .ok (.ifCond .eq 7, 3) := by decide +kernel
theorem dL_law_567 : decode cL_law 567 = .ok (.lconst 1, 1) := by decide +kernel
theorem dL_law_568 : decode cL_law 568 = .ok (.goto 4, 3) := by decide +kernel
theorem dL_law_571 : decode cL_law 571 = .ok (.lconst 0, 1) := by decide +kernel
theorem dL_law_572 : decode cL_law 572 = .ok (.lcmp, 1) := by decide +kernel
theorem dL_law_573 : decode cL_law 573 = .ok (.ifCond .eq 5, 3) := by decide +kernel
theorem dL_law_576 : decode cL_law 576 = .ok (.iconst 0, 1) := by decide +kernel
theorem dL_law_577 : decode cL_law 577 = .ok (.ireturn, 1) := by decide +kernel
theorem dL_law_578 : decode cL_law 578 = .ok (.goto 349, 3) := by decide +kernel
theorem dL_law_581 : decode cL_law 581 = .ok (.aload_n 1, 1) := by decide +kernel
theorem dL_law_582 : decode cL_law 582 = .ok (.aload_n 0, 1) := by decide +kernel
theorem dL_law_583 : decode cL_law 583 = .ok (.iload 4, 2) := by decide +kernel
theorem dL_law_585 : decode cL_law 585 = .ok (.iconst 1, 1) := by decide +kernel
theorem dL_law_586 : decode cL_law 586 = .ok (.iadd, 1) := by decide +kernel
theorem dL_law_587 : decode cL_law 587 = .ok (.iaload, 1) := by decide +kernel
theorem dL_law_588 : decode cL_law 588 = .ok (.aload_n 0, 1) := by decide +kernel
theorem dL_law_589 : decode cL_law 589 = .ok (.iload 4, 2) := by decide +kernel
theorem dL_law_591 : decode cL_law 591 = .ok (.iconst 2, 1) := by decide +kernel
theorem dL_law_592 : decode cL_law 592 = .ok (.iadd, 1) := by decide +kernel
theorem dL_law_593 : decode cL_law 593 = .ok (.iaload, 1) := by decide +kernel
theorem dL_law_594 : decode cL_law 594 = .ok (.aload_n 0, 1) := by decide +kernel
theorem dL_law_595 : decode cL_law 595 = .ok (.iload 4, 2) := by decide +kernel
theorem dL_law_597 : decode cL_law 597 = .ok (.iconst 3, 1) := by decide +kernel
theorem dL_law_598 : decode cL_law 598 = .ok (.iadd, 1) := by decide +kernel
theorem dL_law_599 : decode cL_law 599 = .ok (.iaload, 1) := by decide +kernel
theorem dL_law_600 : decode cL_law 600 = .ok (.aload_n 3, 1) := by decide +kernel
theorem dL_law_601 : decode cL_law 601 = .ok (.invokestatic 88, 3) := by decide +kernel
theorem dL_law_604 : decode cL_law 604 = .ok (.istore 5, 2) := by decide +kernel
theorem dL_law_606 : decode cL_law 606 = .ok (.aload_n 2, 1) := by decide +kernel
theorem dL_law_607 : decode cL_law 607 = .ok (.aload_n 0, 1) := by decide +kernel
theorem dL_law_608 : decode cL_law 608 = .ok (.iload 4, 2) := by decide +kernel
theorem dL_law_610 : decode cL_law 610 = .ok (.iconst 1, 1) := by decide +kernel
theorem dL_law_611 : decode cL_law 611 = .ok (.iadd, 1) := by decide +kernel
theorem dL_law_612 : decode cL_law 612 = .ok (.iaload, 1) := by decide +kernel
theorem dL_law_613 : decode cL_law 613 = .ok (.aload_n 0, 1) := by decide +kernel
theorem dL_law_614 : decode cL_law 614 = .ok (.iload 4, 2) := by decide +kernel
theorem dL_law_616 : decode cL_law 616 = .ok (.iconst 2, 1) := by decide +kernel
theorem dL_law_617 : decode cL_law 617 = .ok (.iadd, 1) := by decide +kernel
theorem dL_law_618 : decode cL_law 618 = .ok (.iaload, 1) := by decide +kernel
theorem dL_law_619 : decode cL_law 619 = .ok (.aload_n 0, 1) := by decide +kernel
theorem dL_law_620 : decode cL_law 620 = .ok (.iload 4, 2) := by decide +kernel
theorem dL_law_622 : decode cL_law 622 = .ok (.iconst 3, 1) := by decide +kernel
theorem dL_law_623 : decode cL_law 623 = .ok (.iadd, 1) := by decide +kernel
theorem dL_law_624 : decode cL_law 624 = .ok (.iaload, 1) := by decide +kernel
theorem dL_law_625 : decode cL_law 625 = .ok (.invokevirtual 90, 3) := by decide +kernel
theorem dL_law_628 : decode cL_law 628 = .ok (.istore 6, 2) := by decide +kernel
theorem dL_law_630 : decode cL_law 630 = .ok (.aload_n 2, 1) := by decide +kernel
theorem dL_law_631 : decode cL_law 631 = .ok (.invokevirtual 60, 3) := by decide +kernel
theorem dL_law_634 : decode cL_law 634 = .ok (.iload 5, 2) := by decide +kernel
theorem dL_law_636 : decode cL_law 636 = .ok (.if_icmp .eq 5, 3) := by decide +kernel
theorem dL_law_639 : decode cL_law 639 = .ok (.iconst 0, 1) := by decide +kernel
theorem dL_law_640 : decode cL_law 640 = .ok (.ireturn, 1) := by decide +kernel
theorem dL_law_641 : decode cL_law 641 = .ok (.iload 5, 2) := by decide +kernel
theorem dL_law_643 : decode cL_law 643 = .ok (.ifCond .ne 15, 3) := by decide +kernel
theorem dL_law_646 : decode cL_law 646 = .ok (.aload_n 3, 1) := by decide +kernel
theorem dL_law_647 : decode cL_law 647 = .ok (.iconst 0, 1) := by decide +kernel
theorem dL_law_648 : decode cL_law 648 = .ok (.laload, 1) := by decide +kernel
theorem dL_law_649 : decode cL_law 649 = .ok (.iload 6, 2) := by decide +kernel
theorem dL_law_651 : decode cL_law 651 = .ok (.i2l, 1) := by decide +kernel
theorem dL_law_652 : decode cL_law 652 = .ok (.lcmp, 1) := by decide +kernel
theorem dL_law_653 : decode cL_law 653 = .ok (.ifCond .eq 5, 3) := by decide +kernel
theorem dL_law_656 : decode cL_law 656 = .ok (.iconst 0, 1) := by decide +kernel
theorem dL_law_657 : decode cL_law 657 = .ok (.ireturn, 1) := by decide +kernel
theorem dL_law_658 : decode cL_law 658 = .ok (.goto 269, 3) := by decide +kernel
theorem dL_law_661 : decode cL_law 661 = .ok (.aload_n 1, 1) := by decide +kernel
theorem dL_law_662 : decode cL_law 662 = .ok (.aload_n 0, 1) := by decide +kernel
theorem dL_law_663 : decode cL_law 663 = .ok (.iload 4, 2) := by decide +kernel
theorem dL_law_665 : decode cL_law 665 = .ok (.iconst 1, 1) := by decide +kernel
theorem dL_law_666 : decode cL_law 666 = .ok (.iadd, 1) := by decide +kernel
theorem dL_law_667 : decode cL_law 667 = .ok (.iaload, 1) := by decide +kernel
theorem dL_law_668 : decode cL_law 668 = .ok (.aload_n 0, 1) := by decide +kernel
theorem dL_law_669 : decode cL_law 669 = .ok (.iload 4, 2) := by decide +kernel
theorem dL_law_671 : decode cL_law 671 = .ok (.iconst 2, 1) := by decide +kernel
theorem dL_law_672 : decode cL_law 672 = .ok (.iadd, 1) := by decide +kernel
theorem dL_law_673 : decode cL_law 673 = .ok (.iaload, 1) := by decide +kernel
theorem dL_law_674 : decode cL_law 674 = .ok (.aload_n 3, 1) := by decide +kernel
theorem dL_law_675 : decode cL_law 675 = .ok (.invokestatic 91, 3) := by decide +kernel
theorem dL_law_678 : decode cL_law 678 = .ok (.istore 5, 2) := by decide +kernel
theorem dL_law_680 : decode cL_law 680 = .ok (.aload_n 2, 1) := by decide +kernel
theorem dL_law_681 : decode cL_law 681 = .ok (.aload_n 0, 1) := by decide +kernel
theorem dL_law_682 : decode cL_law 682 = .ok (.iload 4, 2) := by decide +kernel
theorem dL_law_684 : decode cL_law 684 = .ok (.iconst 1, 1) := by decide +kernel
theorem dL_law_685 : decode cL_law 685 = .ok (.iadd, 1) := by decide +kernel
theorem dL_law_686 : decode cL_law 686 = .ok (.iaload, 1) := by decide +kernel
theorem dL_law_687 : decode cL_law 687 = .ok (.aload_n 0, 1) := by decide +kernel
theorem dL_law_688 : decode cL_law 688 = .ok (.iload 4, 2) := by decide +kernel
theorem dL_law_690 : decode cL_law 690 = .ok (.iconst 2, 1) := by decide +kernel
theorem dL_law_691 : decode cL_law 691 = .ok (.iadd, 1) := by decide +kernel
theorem dL_law_692 : decode cL_law 692 = .ok (.iaload, 1) := by decide +kernel
theorem dL_law_693 : decode cL_law 693 = .ok (.invokevirtual 93, 3) := by decide +kernel
theorem dL_law_696 : decode cL_law 696 = .ok (.istore 6, 2) := by decide +kernel
theorem dL_law_698 : decode cL_law 698 = .ok (.aload_n 2, 1) := by decide +kernel
theorem dL_law_699 : decode cL_law 699 = .ok (.invokevirtual 60, 3) := by decide +kernel
theorem dL_law_702 : decode cL_law 702 = .ok (.iload 5, 2) := by decide +kernel
theorem dL_law_704 : decode cL_law 704 = .ok (.if_icmp .eq 5, 3) := by decide +kernel
theorem dL_law_707 : decode cL_law 707 = .ok (.iconst 0, 1) := by decide +kernel
theorem dL_law_708 : decode cL_law 708 = .ok (.ireturn, 1) := by decide +kernel
theorem dL_law_709 : decode cL_law 709 = .ok (.iload 5, 2) := by decide +kernel
theorem dL_law_711 : decode cL_law 711 = .ok (.ifCond .ne 15, 3) := by decide +kernel
theorem dL_law_714 : decode cL_law 714 = .ok (.aload_n 3, 1) := by decide +kernel
theorem dL_law_715 : decode cL_law 715 = .ok (.iconst 0, 1) := by decide +kernel
theorem dL_law_716 : decode cL_law 716 = .ok (.laload, 1) := by decide +kernel
theorem dL_law_717 : decode cL_law 717 = .ok (.iload 6, 2) := by decide +kernel
theorem dL_law_719 : decode cL_law 719 = .ok (.i2l, 1) := by decide +kernel
theorem dL_law_720 : decode cL_law 720 = .ok (.lcmp, 1) := by decide +kernel
theorem dL_law_721 : decode cL_law 721 = .ok (.ifCond .eq 5, 3) := by decide +kernel
theorem dL_law_724 : decode cL_law 724 = .ok (.iconst 0, 1) := by decide +kernel
theorem dL_law_725 : decode cL_law 725 = .ok (.ireturn, 1) := by decide +kernel
theorem dL_law_726 : decode cL_law 726 = .ok (.goto 201, 3) := by decide +kernel
theorem dL_law_729 : decode cL_law 729 = .ok (.aload_n 1, 1) := by decide +kernel
theorem dL_law_730 : decode cL_law 730 = .ok (.aload_n 0, 1) := by decide +kernel
theorem dL_law_731 : decode cL_law 731 = .ok (.iload 4, 2) := by decide +kernel
theorem dL_law_733 : decode cL_law 733 = .ok (.iconst 1, 1) := by decide +kernel
theorem dL_law_734 : decode cL_law 734 = .ok (.iadd, 1) := by decide +kernel
theorem dL_law_735 : decode cL_law 735 = .ok (.iaload, 1) := by decide +kernel
theorem dL_law_736 : decode cL_law 736 = .ok (.aload_n 0, 1) := by decide +kernel
theorem dL_law_737 : decode cL_law 737 = .ok (.iload 4, 2) := by decide +kernel
theorem dL_law_739 : decode cL_law 739 = .ok (.iconst 2, 1) := by decide +kernel
theorem dL_law_740 : decode cL_law 740 = .ok (.iadd, 1) := by decide +kernel
theorem dL_law_741 : decode cL_law 741 = .ok (.iaload, 1) := by decide +kernel
end
section
theorem dL_law_742 : decode cL_law 742 = .ok (.aload_n 3, 1) := by decide +kernel
theorem dL_law_743 : decode cL_law 743 = .ok (.invokestatic 94, 3) := by decide +kernel
theorem dL_law_746 : decode cL_law 746 = .ok (.istore 5, 2) := by decide +kernel
theorem dL_law_748 : decode cL_law 748 = .ok (.aload_n 2, 1) := by decide +kernel
theorem dL_law_749 : decode cL_law 749 = .ok (.aload_n 0, 1) := by decide +kernel
theorem dL_law_750 : decode cL_law 750 = .ok (.iload 4, 2) := by decide +kernel
theorem dL_law_752 : decode cL_law 752 = .ok (.iconst 1, 1) := by decide +kernel
theorem dL_law_753 : decode cL_law 753 = .ok (.iadd, 1) := by decide +kernel
theorem dL_law_754 : decode cL_law 754 = .ok (.iaload, 1) := by decide +kernel
theorem dL_law_755 : decode cL_law 755 = .ok (.aload_n 0, 1) := by decide +kernel
theorem dL_law_756 : decode cL_law 756 = .ok (.iload 4, 2) := by decide +kernel
theorem dL_law_758 : decode cL_law 758 = .ok (.iconst 2, 1) := by decide +kernel
theorem dL_law_759 : decode cL_law 759 = .ok (.iadd, 1) := by decide +kernel
theorem dL_law_760 : decode cL_law 760 = .ok (.iaload, 1) := by decide +kernel
theorem dL_law_761 : decode cL_law 761 = .ok (.invokevirtual 96, 3) := by decide +kernel
theorem dL_law_764 : decode cL_law 764 = .ok (.istore 6, 2) := by decide +kernel
theorem dL_law_766 : decode cL_law 766 = .ok (.aload_n 2, 1) := by decide +kernel
theorem dL_law_767 : decode cL_law 767 = .ok (.invokevirtual 60, 3) := by decide +kernel
theorem dL_law_770 : decode cL_law 770 = .ok (.iload 5, 2) := by decide +kernel
theorem dL_law_772 : decode cL_law 772 = .ok (.if_icmp .eq 5, 3) := by decide +kernel
theorem dL_law_775 : decode cL_law 775 = .ok (.iconst 0, 1) := by decide +kernel
theorem dL_law_776 : decode cL_law 776 = .ok (.ireturn, 1) := by decide +kernel
theorem dL_law_777 : decode cL_law 777 = .ok (.iload 5, 2) := by decide +kernel
theorem dL_law_779 : decode cL_law 779 = .ok (.ifCond .ne 15, 3) := by decide +kernel
theorem dL_law_782 : decode cL_law 782 = .ok (.aload_n 3, 1) := by decide +kernel
theorem dL_law_783 : decode cL_law 783 = .ok (.iconst 0, 1) := by decide +kernel
theorem dL_law_784 : decode cL_law 784 = .ok (.laload, 1) := by decide +kernel
theorem dL_law_785 : decode cL_law 785 = .ok (.iload 6, 2) := by decide +kernel
theorem dL_law_787 : decode cL_law 787 = .ok (.i2l, 1) := by decide +kernel
theorem dL_law_788 : decode cL_law 788 = .ok (.lcmp, 1) := by decide +kernel
theorem dL_law_789 : decode cL_law 789 = .ok (.ifCond .eq 5, 3) := by decide +kernel
theorem dL_law_792 : decode cL_law 792 = .ok (.iconst 0, 1) := by decide +kernel
theorem dL_law_793 : decode cL_law 793 = .ok (.ireturn, 1) := by decide +kernel
theorem dL_law_794 : decode cL_law 794 = .ok (.goto 133, 3) := by decide +kernel
theorem dL_law_797 : decode cL_law 797 = .ok (.aload_n 1, 1) := by decide +kernel
theorem dL_law_798 : decode cL_law 798 = .ok (.aload_n 0, 1) := by decide +kernel
theorem dL_law_799 : decode cL_law 799 = .ok (.iload 4, 2) := by decide +kernel
theorem dL_law_801 : decode cL_law 801 = .ok (.iconst 1, 1) := by decide +kernel
theorem dL_law_802 : decode cL_law 802 = .ok (.iadd, 1) := by decide +kernel
theorem dL_law_803 : decode cL_law 803 = .ok (.iaload, 1) := by decide +kernel
theorem dL_law_804 : decode cL_law 804 = .ok (.aload_n 0, 1) := by decide +kernel
theorem dL_law_805 : decode cL_law 805 = .ok (.iload 4, 2) := by decide +kernel
theorem dL_law_807 : decode cL_law 807 = .ok (.iconst 2, 1) := by decide +kernel
theorem dL_law_808 : decode cL_law 808 = .ok (.iadd, 1) := by decide +kernel
theorem dL_law_809 : decode cL_law 809 = .ok (.iaload, 1) := by decide +kernel
theorem dL_law_810 : decode cL_law 810 = .ok (.invokevirtual 97, 3) := by decide +kernel
theorem dL_law_813 : decode cL_law 813 = .ok (.aload_n 2, 1) := by decide +kernel
theorem dL_law_814 : decode cL_law 814 = .ok (.aload_n 0, 1) := by decide +kernel
theorem dL_law_815 : decode cL_law 815 = .ok (.iload 4, 2) := by decide +kernel
theorem dL_law_817 : decode cL_law 817 = .ok (.iconst 1, 1) := by decide +kernel
theorem dL_law_818 : decode cL_law 818 = .ok (.iadd, 1) := by decide +kernel
theorem dL_law_819 : decode cL_law 819 = .ok (.iaload, 1) := by decide +kernel
theorem dL_law_820 : decode cL_law 820 = .ok (.aload_n 0, 1) := by decide +kernel
theorem dL_law_821 : decode cL_law 821 = .ok (.iload 4, 2) := by decide +kernel
theorem dL_law_823 : decode cL_law 823 = .ok (.iconst 2, 1) := by decide +kernel
theorem dL_law_824 : decode cL_law 824 = .ok (.iadd, 1) := by decide +kernel
theorem dL_law_825 : decode cL_law 825 = .ok (.iaload, 1) := by decide +kernel
theorem dL_law_826 : decode cL_law 826 = .ok (.invokevirtual 100, 3) := by decide +kernel
theorem dL_law_829 : decode cL_law 829 = .ok (.if_icmp .eq 98, 3) := by decide +kernel
theorem dL_law_832 : decode cL_law 832 = .ok (.iconst 0, 1) := by decide +kernel
theorem dL_law_833 : decode cL_law 833 = .ok (.ireturn, 1) := by decide +kernel
theorem dL_law_834 : decode cL_law 834 = .ok (.aload_n 1, 1) := by decide +kernel
theorem dL_law_835 : decode cL_law 835 = .ok (.aload_n 0, 1) := by decide +kernel
theorem dL_law_836 : decode cL_law 836 = .ok (.iload 4, 2) := by decide +kernel
theorem dL_law_838 : decode cL_law 838 = .ok (.iconst 1, 1) := by decide +kernel
theorem dL_law_839 : decode cL_law 839 = .ok (.iadd, 1) := by decide +kernel
theorem dL_law_840 : decode cL_law 840 = .ok (.iaload, 1) := by decide +kernel
theorem dL_law_841 : decode cL_law 841 = .ok (.aload_n 0, 1) := by decide +kernel
theorem dL_law_842 : decode cL_law 842 = .ok (.iload 4, 2) := by decide +kernel
theorem dL_law_844 : decode cL_law 844 = .ok (.iconst 2, 1) := by decide +kernel
theorem dL_law_845 : decode cL_law 845 = .ok (.iadd, 1) := by decide +kernel
theorem dL_law_846 : decode cL_law 846 = .ok (.iaload, 1) := by decide +kernel
theorem dL_law_847 : decode cL_law 847 = .ok (.aload_n 3, 1) := by decide +kernel
theorem dL_law_848 : decode cL_law 848 = .ok (.invokestatic 101, 3) := by decide +kernel
theorem dL_law_851 : decode cL_law 851 = .ok (.istore 5, 2) := by decide +kernel
theorem dL_law_853 : decode cL_law 853 = .ok (.aload_n 2, 1) := by decide +kernel
theorem dL_law_854 : decode cL_law 854 = .ok (.aload_n 0, 1) := by decide +kernel
theorem dL_law_855 : decode cL_law 855 = .ok (.iload 4, 2) := by decide +kernel
theorem dL_law_857 : decode cL_law 857 = .ok (.iconst 1, 1) := by decide +kernel
theorem dL_law_858 : decode cL_law 858 = .ok (.iadd, 1) := by decide +kernel
theorem dL_law_859 : decode cL_law 859 = .ok (.iaload, 1) := by decide +kernel
theorem dL_law_860 : decode cL_law 860 = .ok (.aload_n 0, 1) := by decide +kernel
theorem dL_law_861 : decode cL_law 861 = .ok (.iload 4, 2) := by decide +kernel
theorem dL_law_863 : decode cL_law 863 = .ok (.iconst 2, 1) := by decide +kernel
theorem dL_law_864 : decode cL_law 864 = .ok (.iadd, 1) := by decide +kernel
theorem dL_law_865 : decode cL_law 865 = .ok (.iaload, 1) := by decide +kernel
theorem dL_law_866 : decode cL_law 866 = .ok (.invokevirtual 103, 3) := by decide +kernel
theorem dL_law_869 : decode cL_law 869 = .ok (.istore 6, 2) := by decide +kernel
theorem dL_law_871 : decode cL_law 871 = .ok (.aload_n 2, 1) := by decide +kernel
theorem dL_law_872 : decode cL_law 872 = .ok (.invokevirtual 60, 3) := by decide +kernel
theorem dL_law_875 : decode cL_law 875 = .ok (.iload 5, 2) := by decide +kernel
theorem dL_law_877 : decode cL_law 877 = .ok (.if_icmp .eq 5, 3) := by decide +kernel
theorem dL_law_880 : decode cL_law 880 = .ok (.iconst 0, 1) := by decide +kernel
theorem dL_law_881 : decode cL_law 881 = .ok (.ireturn, 1) := by decide +kernel
theorem dL_law_882 : decode cL_law 882 = .ok (.iload 5, 2) := by decide +kernel
theorem dL_law_884 : decode cL_law 884 = .ok (.ifCond .ne 15, 3) := by decide +kernel
theorem dL_law_887 : decode cL_law 887 = .ok (.aload_n 3, 1) := by decide +kernel
theorem dL_law_888 : decode cL_law 888 = .ok (.iconst 0, 1) := by decide +kernel
theorem dL_law_889 : decode cL_law 889 = .ok (.laload, 1) := by decide +kernel
theorem dL_law_890 : decode cL_law 890 = .ok (.iload 6, 2) := by decide +kernel
theorem dL_law_892 : decode cL_law 892 = .ok (.i2l, 1) := by decide +kernel
theorem dL_law_893 : decode cL_law 893 = .ok (.lcmp, 1) := by decide +kernel
theorem dL_law_894 : decode cL_law 894 = .ok (.ifCond .eq 5, 3) := by decide +kernel
theorem dL_law_897 : decode cL_law 897 = .ok (.iconst 0, 1) := by decide +kernel
theorem dL_law_898 : decode cL_law 898 = .ok (.ireturn, 1) := by decide +kernel
theorem dL_law_899 : decode cL_law 899 = .ok (.goto 28, 3) := by decide +kernel
theorem dL_law_902 : decode cL_law 902 = .ok (.aload_n 1, 1) := by decide +kernel
theorem dL_law_903 : decode cL_law 903 = .ok (.aload_n 0, 1) := by decide +kernel
theorem dL_law_904 : decode cL_law 904 = .ok (.iload 4, 2) := by decide +kernel
theorem dL_law_906 : decode cL_law 906 = .ok (.iconst 1, 1) := by decide +kernel
theorem dL_law_907 : decode cL_law 907 = .ok (.iadd, 1) := by decide +kernel
theorem dL_law_908 : decode cL_law 908 = .ok (.iaload, 1) := by decide +kernel
theorem dL_law_909 : decode cL_law 909 = .ok (.invokevirtual 104, 3) := by decide +kernel
theorem dL_law_912 : decode cL_law 912 = .ok (.aload_n 2, 1) := by decide +kernel
theorem dL_law_913 : decode cL_law 913 = .ok (.aload_n 0, 1) := by decide +kernel
theorem dL_law_914 : decode cL_law 914 = .ok (.iload 4, 2) := by decide +kernel
theorem dL_law_916 : decode cL_law 916 = .ok (.iconst 1, 1) := by decide +kernel
theorem dL_law_917 : decode cL_law 917 = .ok (.iadd, 1) := by decide +kernel
theorem dL_law_918 : decode cL_law 918 = .ok (.iaload, 1) := by decide +kernel
theorem dL_law_919 : decode cL_law 919 = .ok (.invokevirtual 108, 3) := by decide +kernel
theorem dL_law_922 : decode cL_law 922 = .ok (.if_icmp .eq 5, 3) := by decide +kernel
theorem dL_law_925 : decode cL_law 925 = .ok (.iconst 0, 1) := by decide +kernel
theorem dL_law_926 : decode cL_law 926 = .ok (.ireturn, 1) := by decide +kernel
theorem dL_law_927 : decode cL_law 927 = .ok (.iinc 4 4, 3) := by decide +kernel
theorem dL_law_930 : decode cL_law 930 = .ok (.goto (-897), 3) := by decide +kernel
theorem dL_law_933 : decode cL_law 933 = .ok (.iconst 1, 1) := by decide +kernel
theorem dL_law_934 : decode cL_law 934 = .ok (.ireturn, 1) := by decide +kernel
end
section
/-! the world of a GraphSearch (XW) and of a GraphSearchModel (MW); rows over Nat places -/
abbrev GT (cI cZ cA : ClassId) : List (ClassId × FieldType) := [(cI, .int), (cZ, .boolean), (cA, .array .int)]
abbrev XR (cI : ClassId) (a : Nat → Nat) (T : Nat → Nat → Int32) : va_W := (List.range 8).map (fun d => (a (8 + d), .inl (cI, 400, .inl (T d))))
abbrev XW (cI cZ cA : ClassId) (a : Nat → Nat) (n am rf mk : Nat) (wv lo : Nat → Int32) (cf tf : Nat → Nat) (T : Nat → Nat → Int32) (mt : Nat → Nat) (im : Nat → Int32) : va_W :=
  [(a 0, .inr (0, [.ref (a 1), .ref (a 2), .ref (a 3), .ref (a 4), .int (nI n), .int (nI am), .ref (a 5), .int (nI rf), .ref (a 6), .ref (a 7), .int (nI mk)])),
   (a 1, .inl (cI, 400, .inl wv)), (a 2, .inl (cZ, 400, .inl lo)), (a 3, .inl (cI, 400, .inl (fun i => nI (cf i)))), (a 4, .inl (cI, 2400, .inl (fun i => nI (tf i)))),
   (a 5, .inl (cA, 8, .inr (.inr (.inr (.inr (fun i => if i < 8 then some (a (8 + i)) else none)))))), (a 6, .inl (cI, 400, .inl (fun i => nI (mt i)))), (a 7, .inl (cZ, 400, .inl im))] ++ XR cI a T
abbrev MW (cI cZ : ClassId) (a : Nat → Nat) (th n : Nat) (wv lo : Nat → Int32) (cf tf : Nat → Nat) (vs : Nat → Int32) (nr : Nat → Nat) : va_W :=
  [(a 0, .inr (1, [.int (nI th), .int (nI n), .ref (a 1), .ref (a 2), .ref (a 3), .ref (a 4), .ref (a 5), .ref (a 6)])),
   (a 1, .inl (cI, 400, .inl wv)), (a 2, .inl (cZ, 400, .inl lo)), (a 3, .inl (cI, 400, .inl (fun i => nI (cf i)))), (a 4, .inl (cI, 2400, .inl (fun i => nI (tf i)))),
   (a 5, .inl (cI, 3200, .inl vs)), (a 6, .inl (cI, 400, .inl (fun i => nI (nr i))))]
abbrev RP (dC : Nat → ClassId) (dI : Nat → Nat → Nat) (tys : List (ClassId × FieldType)) (ws : va_W) : State → Prop := fun U => va_P (dC, dI) vwCl ws U.heap ∧ va_K (dC, dI) vwCl tys U
abbrev WP (dC : Nat → ClassId) (dI : Nat → Nat → Nat) (tys : List (ClassId × FieldType)) (ws : va_W) (sz : Nat) : State → Prop := fun U => U.heap.size = sz ∧ va_P (dC, dI) vwCl ws U.heap ∧ va_K (dC, dI) vwCl tys U ∧ va_D (fun _ => True) ws
abbrev WQ (dC : Nat → ClassId) (dI : Nat → Nat → Nat) (tys : List (ClassId × FieldType)) (A : Nat → Prop) (ws : va_W) : State → Prop := fun t => va_P (dC, dI) vwCl ws t.heap ∧ va_K (dC, dI) vwCl tys t ∧ va_D A ws
theorem blindT {av : List Value} : FrameBlind (va_Pc av (fun _ => True)) := fun _ _ _ _ q => q
theorem blindR {dC : Nat → ClassId} {dI : Nat → Nat → Nat} {tys : List (ClassId × FieldType)} {ws : va_W} {av : List Value} : FrameBlind (va_Pc av (RP dC dI tys ws)) := fun a U g mk q => by
  obtain ⟨q0, qP, qK⟩ := q
  exact ⟨q0, qP, va_K.moved (u := U) (U := U.calling g mk a) (Vm.Alike.refl U.vm) qK⟩
theorem blindW {dC : Nat → ClassId} {dI : Nat → Nat → Nat} {tys : List (ClassId × FieldType)} {ws : va_W} {sz : Nat} {av : List Value} : FrameBlind (va_Pc av (WP dC dI tys ws sz)) := fun a U g mk q => by
  obtain ⟨q0, q1, qP, qK, qD⟩ := q
  exact ⟨q0, q1, qP, va_K.moved (u := U) (U := U.calling g mk a) (Vm.Alike.refl U.vm) qK, qD⟩
theorem preR {dC : Nat → ClassId} {dI : Nat → Nat → Nat} {tys : List (ClassId × FieldType)} {ws : va_W} {av : List Value} {s : State} {H : Heap} (hP : va_P (dC, dI) vwCl ws H) (hK : va_K (dC, dI) vwCl tys s) : ∀ U : State, U.heap = H → s.WarmedH U.vm → va_Pc av (RP dC dI tys ws) av.toArray U :=
  fun U hU hW => ⟨rfl, by rw [hU]; exact hP, va_K.moved hW.alike hK⟩
theorem preW {dC : Nat → ClassId} {dI : Nat → Nat → Nat} {tys : List (ClassId × FieldType)} {ws : va_W} {av : List Value} {s : State} {H : Heap} {A : Nat → Prop} (hP : va_P (dC, dI) vwCl ws H) (hK : va_K (dC, dI) vwCl tys s) (hD : va_D A ws) : ∀ U : State, U.heap = H → s.WarmedH U.vm → va_Pc av (WP dC dI tys ws H.size) av.toArray U :=
  fun U hU hW => ⟨rfl, by rw [hU], by rw [hU]; exact hP, va_K.moved hW.alike hK, hD.weaken (fun _ _ _ _ => trivial)⟩
theorem freeAll {A0 : Nat → Prop} {ws : va_W} {H0 H : Heap} {locs : List Loc} (hD : va_D A0 ws) (hS : va_S A0 H0 H locs) (hA : ∀ q, H0.size ≤ q → A0 q) : ∀ q, va_A ws H.size q → A0 q := by
  intro q h
  rcases h with ⟨k, e, h⟩ | h
  · exact hD.2 k (q, e) h
  · exact hA q (Nat.le_trans hS.1 h)
theorem freeL {A0 : Nat → Prop} {wc wr : va_W} {H0 H : Heap} {locs : List Loc} (hD : va_D A0 (wc ++ wr)) (hS : va_S A0 H0 H locs) (hA : ∀ q, H0.size ≤ q → A0 q) : ∀ q, va_A wc H.size q → A0 q := by
  intro q h
  rcases h with ⟨k, e, h⟩ | h
  · exact hD.2 k (q, e) (by rw [List.getElem?_append_left (List.getElem?_eq_some_iff.mp h).1]; exact h)
  · exact hA q (Nat.le_trans hS.1 h)
theorem pL {D : va_G} {cl : List vw_C} {wc wr : va_W} {H : Heap} (h : va_P D cl (wc ++ wr) H) : va_P D cl wc H := fun k q hk => h k q (by rw [List.getElem?_append_left (List.getElem?_eq_some_iff.mp hk).1]; exact hk)
theorem pR {D : va_G} {cl : List vw_C} {wc wr : va_W} {H : Heap} (h : va_P D cl (wc ++ wr) H) : va_P D cl wr H := fun k q hk => h (wc.length + k) q (by rw [List.getElem?_append_right (Nat.le_add_right _ _), Nat.add_sub_cancel_left]; exact hk)
theorem dL {A : Nat → Prop} {wc wr : va_W} (h : va_D A (wc ++ wr)) : va_D A wc := ⟨fun i j p q hi hj e => h.1 i j p q (by rw [List.getElem?_append_left (List.getElem?_eq_some_iff.mp hi).1]; exact hi) (by rw [List.getElem?_append_left (List.getElem?_eq_some_iff.mp hj).1]; exact hj) e, fun k q hk => h.2 k q (by rw [List.getElem?_append_left (List.getElem?_eq_some_iff.mp hk).1]; exact hk)⟩
theorem dR {A : Nat → Prop} {wc wr : va_W} (h : va_D A (wc ++ wr)) : va_D A wr := ⟨fun i j p q hi hj e => by
    have := h.1 (wc.length + i) (wc.length + j) p q (by rw [List.getElem?_append_right (Nat.le_add_right _ _), Nat.add_sub_cancel_left]; exact hi) (by rw [List.getElem?_append_right (Nat.le_add_right _ _), Nat.add_sub_cancel_left]; exact hj) e
    omega, fun k q hk => h.2 (wc.length + k) q (by rw [List.getElem?_append_right (Nat.le_add_right _ _), Nat.add_sub_cancel_left]; exact hk)⟩
/-- behind a call on the left part of a world: the right part is as it was -/
theorem joinL {A0 : Nat → Prop} {D : va_G} {cl : List vw_C} {wc wr w1 : va_W} {H H1 : Heap} (hP : va_P D cl (wc ++ wr) H) (hD : va_D A0 (wc ++ wr)) (hk : ∀ q : Nat, q < H.size → ¬ va_A wc H.size q → H1[q]? = H[q]?) (hF : ∀ q, va_A wc H.size q → A0 q) (hP1 : va_P D cl w1 H1) (hD1 : va_D (va_A wc H.size) w1) : va_P D cl (w1 ++ wr) H1 ∧ va_D A0 (w1 ++ wr) := by
  have hout : ∀ (j : Nat) (q : Nat × va_E), wr[j]? = some q → ¬ va_A wc H.size q.1 := by
    intro j q hj hq
    have hj2 : (wc ++ wr)[wc.length + j]? = some q := by rw [List.getElem?_append_right (Nat.le_add_right _ _), Nat.add_sub_cancel_left]; exact hj
    rcases hq with ⟨k, e, h⟩ | h
    · have hl := (List.getElem?_eq_some_iff.mp h).1
      have := hD.1 k (wc.length + j) (q.1, e) q (by rw [List.getElem?_append_left hl]; exact h) hj2 rfl
      omega
    · have := (hP _ q hj2).lt
      omega
  refine ⟨hP1.app (fun k q hq => (pR hP k q hq).kept (hk q.1 ((pR hP k q hq).lt) (hout k q hq))), (hD1.weaken (fun _ _ _ h => hF _ h)).app (dR hD) ?_⟩
  intro i j p q hp hq e
  exact hout j q hq (by rw [← e]; exact hD1.2 i p hp)
theorem swapP {D : va_G} {cl : List vw_C} {w1 w2 : va_W} {H : Heap} (h : va_P D cl (w1 ++ w2) H) : va_P D cl (w2 ++ w1) H := (pR h).app (pL h)
theorem swapD {A : Nat → Prop} {w1 w2 : va_W} (h : va_D A (w1 ++ w2)) : va_D A (w2 ++ w1) := (dR h).app (dL h) (fun i j p q hp hq e => by
  have hi := (List.getElem?_eq_some_iff.mp hq).1
  have := h.1 (w1.length + i) j p q (by rw [List.getElem?_append_right (Nat.le_add_right _ _), Nat.add_sub_cancel_left]; exact hp) (by rw [List.getElem?_append_left hi]; exact hq) e
  omega)
theorem upd_nI (f : Nat → Nat) (k v : Nat) : upd (fun i => nI (f i)) k (nI v) = fun i => nI (va_up f k v i) := by
  funext i
  unfold upd va_up
  by_cases h : i = k <;> simp [h]
theorem XR_at {cI : ClassId} {a : Nat → Nat} {T : Nat → Nat → Int32} {d : Nat} (hd : d < 8) : (XR cI a T)[d]? = some (a (8 + d), .inl (cI, 400, .inl (T d))) := by
  simp [XR, hd]
theorem XR_set {cI : ClassId} {a : Nat → Nat} {T : Nat → Nat → Int32} {d : Nat} {g : Nat → Int32} : (XR cI a T).set d (a (8 + d), .inl (cI, 400, .inl g)) = XR cI a (va_up T d g) := by
  apply List.ext_getElem?
  intro k
  by_cases hk : k < 8
  · by_cases e : d = k
    · subst e
      rw [List.getElem?_set_self (by simp [XR, hk]), XR_at hk, va_up_self]
    · rw [List.getElem?_set_ne e, XR_at hk, XR_at hk, va_up_ne _ _ (fun h => e h.symm)]
  · rw [List.getElem?_eq_none (by simp [XR]; omega), List.getElem?_eq_none (by simp [XR]; omega)]
theorem XW_row {cI cZ cA : ClassId} {a : Nat → Nat} {n am rf mk : Nat} {wv lo : Nat → Int32} {cf tf : Nat → Nat} {T : Nat → Nat → Int32} {mt : Nat → Nat} {im : Nat → Int32} {d : Nat} (hd : d < 8) : (XW cI cZ cA a n am rf mk wv lo cf tf T mt im)[8 + d]? = some (a (8 + d), .inl (cI, 400, .inl (T d))) := by
  rw [List.getElem?_append_right (by simp)]
  simp only [List.length_cons, List.length_nil]
  rw [show 8 + d - (0 + 1 + 1 + 1 + 1 + 1 + 1 + 1 + 1) = d by omega]
  exact XR_at hd
theorem XW_put {cI cZ cA : ClassId} {a : Nat → Nat} {n am rf mk : Nat} {wv lo : Nat → Int32} {cf tf : Nat → Nat} {T : Nat → Nat → Int32} {mt : Nat → Nat} {im : Nat → Int32} {d : Nat} {g : Nat → Int32} : (XW cI cZ cA a n am rf mk wv lo cf tf T mt im).set (8 + d) (a (8 + d), .inl (cI, 400, .inl g)) = XW cI cZ cA a n am rf mk wv lo cf tf (va_up T d g) mt im := by
  rw [List.set_append_right _ _ (by simp)]
  simp only [List.length_cons, List.length_nil]
  rw [show 8 + d - (0 + 1 + 1 + 1 + 1 + 1 + 1 + 1 + 1) = d by omega, XR_set]
section GA
variable {p : Program} {l : Launch} {e : Env} {R : Room} {s : State} {m : MethodId} {args : Array Value} {below : List Frame} {meth : Method} {c : Code} {H : Heap} {locs : List Loc} {cells slots : Nat} {Q : State → Prop}
variable {cc : ByteArray} {pc : Nat} {ls : Array Slot} {rest : List Value} {D : va_G} {cl : List vw_C} {A : Nat → Prop} {a : Nat} {tys : List (ClassId × FieldType)} {ws : va_W} {H0 : Heap}
theorem ga_is {x y : Int32} (h : x = y) (k : W p l e R s m args below meth c H locs cells slots Q (F0 m pc ls (.int y :: rest))) : W p l e R s m args below meth c H locs cells slots Q (F0 m pc ls (.int x :: rest)) := h ▸ k
theorem ga_iald (hexec : p.tables.exec = Jvm.exec) (hb : c.code = cc) (hK : va_K D cl tys s) (hP : va_P D cl ws H) (q0 t0 : Nat) {cA : ClassId} {n : Nat} {f : Nat → Int32} (ha : ws[q0]? = some (a, .inl (cA, n, .inl f))) (ht : tys[t0]? = some (cA, .int)) (j : Nat) {v : Int32} (hv : f j = v) (hj : j < n) (hn : n < 2 ^ 31) (hdg : decode cc pc = .ok (.iaload, 1))
    (kk : W p l e R s m args below meth c H locs cells slots Q (F0 m (pc + 1) ls (.int v :: rest))) : W p l e R s m args below meth c H locs cells slots Q (F0 m pc ls (.int (nI j) :: .ref a :: rest)) := by
  refine va_iald hexec hb hK hP q0 t0 ha ht (vp_in_nI hj hn) hdg ?_
  rw [nI_clamp (by omega), hv]
  exact kk
theorem ga_zald (hexec : p.tables.exec = Jvm.exec) (hb : c.code = cc) (hK : va_K D cl tys s) (hP : va_P D cl ws H) (q0 t0 : Nat) {cA : ClassId} {n : Nat} {f : Nat → Int32} (ha : ws[q0]? = some (a, .inl (cA, n, .inl f))) (ht : tys[t0]? = some (cA, .boolean)) (j : Nat) {v : Int32} (hv : f j = v) (hj : j < n) (hn : n < 2 ^ 31) (hdg : decode cc pc = .ok (.baload, 1))
    (kk : W p l e R s m args below meth c H locs cells slots Q (F0 m (pc + 1) ls (.int v :: rest))) : W p l e R s m args below meth c H locs cells slots Q (F0 m pc ls (.int (nI j) :: .ref a :: rest)) := by
  refine va_zald hexec hb hK hP q0 t0 ha ht (vp_in_nI hj hn) hdg ?_
  rw [nI_clamp (by omega), hv]
  exact kk
theorem ga_aald (hexec : p.tables.exec = Jvm.exec) (hb : c.code = cc) (hK : va_K D cl tys s) (hP : va_P D cl ws H) (q0 t0 : Nat) {cA : ClassId} {n : Nat} {f : Nat → Option Nat} (ha : ws[q0]? = some (a, .inl (cA, n, .inr (.inr (.inr (.inr f)))))) (ht : tys[t0]? = some (cA, .array .int)) (j r : Nat) (hv : f j = some r) (hj : j < n) (hn : n < 2 ^ 31) (hdg : decode cc pc = .ok (.aaload, 1))
    (kk : W p l e R s m args below meth c H locs cells slots Q (F0 m (pc + 1) ls (.ref r :: rest))) : W p l e R s m args below meth c H locs cells slots Q (F0 m pc ls (.int (nI j) :: .ref a :: rest)) := by
  have hin : vp_in (nI j) n := vp_in_nI hj hn
  have hlt : (nI j).toNatClampNeg < n := Nat.not_le.mp fun q => hin (Or.inr q)
  refine W.aald (v := .ref r) (ty := .array .int) hexec hb (hP q0 _ ha) ((hK.2 t0 _ ht).1 n (fun j => va_rf (f j))) rfl (fun q => by cases q) (by show ¬ ((nI j) < 0 ∨ (arrV _ _ _).slots.size ≤ _); rw [arrV_size]; exact hin) (by show (arrV _ _ _).slots[_]? = _; rw [arrV_read _ _ hlt, nI_clamp (by omega), hv]; rfl) rfl rfl hdg kk
theorem ga_iast (hexec : p.tables.exec = Jvm.exec) (hb : c.code = cc) (hK : va_K D cl tys s) (hP : va_P D cl ws H) (hD : va_D A ws) (hS : va_S A H0 H locs) (q0 t0 : Nat) {cA : ClassId} {n : Nat} {f : Nat → Int32} (ha : ws[q0]? = some (a, .inl (cA, n, .inl f))) (ht : tys[t0]? = some (cA, .int)) (j : Nat) {x : Int32} (hj : j < n) (hn : n < 2 ^ 31) {g : Nat → Int32} (hg : upd f j x = g) {ws' : va_W} (hw : ws.set q0 (a, .inl (cA, n, .inl g)) = ws') (hdg : decode cc pc = .ok (.iastore, 1))
    (kk : ∀ (H1 : Heap) (locs1 : List Loc), va_P D cl ws' H1 → va_D A ws' → va_S A H0 H1 locs1 → W p l e R s m args below meth c H1 locs1 cells slots Q (F0 m (pc + 1) ls rest)) : W p l e R s m args below meth c H locs cells slots Q (F0 m pc ls (.int x :: .int (nI j) :: .ref a :: rest)) := by
  refine va_iast hexec hb hK hP hD hS q0 t0 ha ht (vp_in_nI hj hn) hdg ?_
  rw [nI_clamp (by omega), hg, hw]
  exact kk
theorem ga_zast (hexec : p.tables.exec = Jvm.exec) (hb : c.code = cc) (hK : va_K D cl tys s) (hP : va_P D cl ws H) (hD : va_D A ws) (hS : va_S A H0 H locs) (q0 t0 : Nat) {cA : ClassId} {n : Nat} {f : Nat → Int32} (ha : ws[q0]? = some (a, .inl (cA, n, .inl f))) (ht : tys[t0]? = some (cA, .boolean)) (j : Nat) {x : Int32} (hx : x = 0 ∨ x = 1) (hj : j < n) (hn : n < 2 ^ 31) {g : Nat → Int32} (hg : upd f j x = g) {ws' : va_W} (hw : ws.set q0 (a, .inl (cA, n, .inl g)) = ws') (hdg : decode cc pc = .ok (.bastore, 1))
    (kk : ∀ (H1 : Heap) (locs1 : List Loc), va_P D cl ws' H1 → va_D A ws' → va_S A H0 H1 locs1 → W p l e R s m args below meth c H1 locs1 cells slots Q (F0 m (pc + 1) ls rest)) : W p l e R s m args below meth c H locs cells slots Q (F0 m pc ls (.int x :: .int (nI j) :: .ref a :: rest)) := by
  refine va_zast hexec hb hK hP hD hS q0 t0 ha ht (vp_in_nI hj hn) hdg ?_
  have e1 : vp_nar .boolean x = x := by rcases hx with rfl | rfl <;> decide +kernel
  rw [nI_clamp (by omega), e1, hg, hw]
  exact kk
end GA
end
section
/-! the game's numbers: what a node is worth at a depth -/
def iw (w : Int32) : Int32 := if w < (-500) then 0 else if 500 < w then 0 else 1
def isn (x : Int32) (n : Nat) : Int32 := if x < 0 then 0 else if nI n ≤ x then 0 else 1
def B32 (v : Int32) : Int32 := if (-900) ≤ -v then (if -v ≤ 900 then -v else -v - 1) else -v + 1
def mx (x y : Int32) : Int32 := if x < y then y else x
/-- what move j of x is worth by the row T -/
def gv (tf : Nat → Nat) (T : Nat → Int32) (x j : Nat) : Int32 := B32 (T (tf (x * 6 + j)))
/-- the greatest of the moves 0 .. k -/
def gm (tf : Nat → Nat) (T : Nat → Int32) (x : Nat) : Nat → Int32
  | 0 => gv tf T x 0
  | k + 1 => mx (gm tf T x k) (gv tf T x (k + 1))
def fv (wv lo : Nat → Int32) (cf tf : Nat → Nat) (T : Nat → Nat → Int32) (x : Nat) : Nat → Int32
  | 0 => if cf x = 0 then (if lo x = 0 then 0 else (-1000)) else wv x
  | d + 1 => if cf x = 0 then (if lo x = 0 then 0 else (-1000)) else gm tf (T d) x (cf x - 1)
/-- the VALUE -/
def vv (wv lo : Nat → Int32) (cf tf : Nat → Nat) : Nat → Nat → Int32
  | 0 => fun x => if cf x = 0 then (if lo x = 0 then 0 else (-1000)) else wv x
  | d + 1 => fun x => if cf x = 0 then (if lo x = 0 then 0 else (-1000)) else gm tf (vv wv lo cf tf d) x (cf x - 1)
/-- the first of the places j, j + 1, .. (k of them) where f is v, or -1 -/
def fst_ (f : Nat → Int32) (v : Int32) : Nat → Nat → Int32
  | 0, _ => (-1)
  | k + 1, j => if f j = v then nI j else fst_ f v k (j + 1)
def cnt_ (f : Nat → Int32) (v : Int32) : Nat → Nat
  | 0 => 0
  | k + 1 => cnt_ f v k + (if f k = v then 1 else 0)
/-- from the depth d down: the least from which on the value stays -/
def set_ (f : Nat → Int32) (v : Int32) : Nat → Nat
  | 0 => 0
  | d + 1 => if f d = v then set_ f v d else d + 1
def sum_ (cf : Nat → Nat) : Nat → Nat
  | 0 => 0
  | k + 1 => sum_ cf k + cf k
theorem i32_nle {x y : Int32} (h : ¬ x ≤ y) : y < x := by
  rw [Int32.le_iff_toInt_le] at h
  rw [Int32.lt_iff_toInt_lt]
  omega
theorem i32_nlt {x y : Int32} (h : ¬ x < y) : y ≤ x := by
  rw [Int32.lt_iff_toInt_lt] at h
  rw [Int32.le_iff_toInt_le]
  omega
theorem i32_eq {x y : Int32} (h1 : x ≤ y) (h2 : y ≤ x) : x = y := by
  rw [Int32.le_iff_toInt_le] at h1 h2
  exact Int32.toInt_inj.mp (by omega)
/-- a value's range -/
def rg (v : Int32) : Prop := (-1000) ≤ v ∧ v ≤ 999
theorem rg_toInt {v : Int32} : rg v ↔ -1000 ≤ v.toInt ∧ v.toInt ≤ 999 := by
  unfold rg
  rw [Int32.le_iff_toInt_le, Int32.le_iff_toInt_le, show ((-1000 : Int32)).toInt = -1000 by decide +kernel, show ((999 : Int32)).toInt = 999 by decide +kernel]
theorem neg_toInt {v : Int32} (h : rg v) : (-v).toInt = - v.toInt := by
  have h2 := rg_toInt.mp h
  rw [Int32.toInt_neg, Int.bmod_def]
  omega
theorem B32_rg {v : Int32} (h : rg v) : rg (B32 v) := by
  have h2 := rg_toInt.mp h
  have h3 := neg_toInt h
  rw [rg_toInt]
  unfold B32
  have e1 : ((-900 : Int32)).toInt = -900 := by decide +kernel
  have e2 : ((900 : Int32)).toInt = 900 := by decide +kernel
  have e3 : ((1 : Int32)).toInt = 1 := by decide +kernel
  by_cases c1 : (-900 : Int32) ≤ -v
  · rw [if_pos c1]
    by_cases c2 : -v ≤ 900
    · rw [if_pos c2]
      rw [Int32.le_iff_toInt_le, e1, h3] at c1
      rw [Int32.le_iff_toInt_le, e2, h3] at c2
      rw [h3]
      omega
    · rw [if_neg c2]
      rw [Int32.le_iff_toInt_le, e2, h3] at c2
      rw [Int32.toInt_sub, h3, e3, Int.bmod_def]
      omega
  · rw [if_neg c1]
    rw [Int32.le_iff_toInt_le, e1, h3] at c1
    rw [Int32.toInt_add, h3, e3, Int.bmod_def]
    omega
theorem mx_rg {x y : Int32} (hx : rg x) (hy : rg y) : rg (mx x y) := by
  unfold mx
  by_cases h : x < y
  · rw [if_pos h]; exact hy
  · rw [if_neg h]; exact hx
theorem gm_rg {tf : Nat → Nat} {T : Nat → Int32} {x : Nat} : ∀ k : Nat, (∀ j, j ≤ k → rg (T (tf (x * 6 + j)))) → rg (gm tf T x k)
  | 0, h => B32_rg (h 0 (Nat.le_refl _))
  | k + 1, h => mx_rg (gm_rg k (fun j hj => h j (Nat.le_succ_of_le hj))) (B32_rg (h (k + 1) (Nat.le_refl _)))
/-- the cut: once 999 is reached, no move makes it more -/
theorem gm_cut {tf : Nat → Nat} {T : Nat → Int32} {x k : Nat} (h9 : (999 : Int32) ≤ gm tf T x k) : ∀ i : Nat, (∀ j, j ≤ k + i → rg (T (tf (x * 6 + j)))) → gm tf T x (k + i) = gm tf T x k
  | 0, _ => rfl
  | i + 1, h => by
    have ih := gm_cut h9 i (fun j hj => h j (by omega))
    show mx (gm tf T x (k + i)) (gv tf T x (k + i + 1)) = _
    rw [ih]
    have hr : rg (gv tf T x (k + i + 1)) := B32_rg (h _ (by omega))
    unfold mx
    rw [if_neg]
    intro hc
    have h2 := hr.2
    rw [Int32.le_iff_toInt_le] at h9 h2
    rw [Int32.lt_iff_toInt_lt] at hc
    omega
theorem vv_rg {wv lo : Nat → Int32} {cf tf : Nat → Nat} {n : Nat} (hw : ∀ x, x < n → rg (wv x)) (ht : ∀ x, x < n → ∀ j, j < cf x → tf (x * 6 + j) < n) : ∀ d x : Nat, x < n → rg (vv wv lo cf tf d x)
  | 0, x, hx => by
    show rg (if cf x = 0 then (if lo x = 0 then 0 else (-1000)) else wv x)
    by_cases h : cf x = 0
    · rw [if_pos h]
      by_cases h2 : lo x = 0
      · rw [if_pos h2]; exact ⟨by decide +kernel, by decide +kernel⟩
      · rw [if_neg h2]; exact ⟨by decide +kernel, by decide +kernel⟩
    · rw [if_neg h]; exact hw x hx
  | d + 1, x, hx => by
    show rg (if cf x = 0 then (if lo x = 0 then 0 else (-1000)) else gm tf (vv wv lo cf tf d) x (cf x - 1))
    by_cases h : cf x = 0
    · rw [if_pos h]
      by_cases h2 : lo x = 0
      · rw [if_pos h2]; exact ⟨by decide +kernel, by decide +kernel⟩
      · rw [if_neg h2]; exact ⟨by decide +kernel, by decide +kernel⟩
    · rw [if_neg h]
      exact gm_rg _ (fun j hj => vv_rg hw ht d _ (ht x hx j (by omega)))
theorem gv_congr {tf : Nat → Nat} {T T' : Nat → Int32} {x j : Nat} (h : T (tf (x * 6 + j)) = T' (tf (x * 6 + j))) : gv tf T x j = gv tf T' x j := by unfold gv; rw [h]
theorem gm_congr {tf : Nat → Nat} {T T' : Nat → Int32} {x : Nat} : ∀ k : Nat, (∀ j, j ≤ k → T (tf (x * 6 + j)) = T' (tf (x * 6 + j))) → gm tf T x k = gm tf T' x k
  | 0, h => gv_congr (h 0 (Nat.le_refl _))
  | k + 1, h => by
    show mx (gm tf T x k) (gv tf T x (k + 1)) = mx (gm tf T' x k) (gv tf T' x (k + 1))
    rw [gm_congr k (fun j hj => h j (Nat.le_succ_of_le hj)), gv_congr (h (k + 1) (Nat.le_refl _))]
theorem isn_in {x : Int32} {n : Nat} (hn : n < 2 ^ 31) : (isn x n = 1 ∧ ∃ j, j < n ∧ x = nI j) ∨ (isn x n = 0 ∧ ∀ j, j < n → x ≠ nI j) := by
  unfold isn
  rcases pk_ix x hn with h | h | ⟨j, hj, rfl⟩
  · refine Or.inr ⟨if_pos h, fun j hj e => ?_⟩
    rw [e] at h
    exact nI_pos (by omega) h
  · refine Or.inr ⟨?_, fun j hj e => ?_⟩
    · by_cases h0 : x < 0
      · exact if_pos h0
      · rw [if_neg h0, if_pos h]
    · rw [e] at h
      exact nI_ge hj hn h
  · refine Or.inl ⟨?_, j, hj, rfl⟩
    rw [if_neg (nI_pos (by omega)), if_neg (nI_ge hj hn)]
end
section
set_option maxHeartbeats 4000000 in
set_option maxRecDepth 100000 in
/-- isWorth -/
theorem kX0_isWorth (l : Launch) (w : Int32)  : Met l yX0_isWorth wsX0_isWorth ({ frames := 0, cells := 0, slots := 0, locals := 0 }) (va_Pc [.int w] (fun _ => True)) (QcRead (iw w)) 0 0 (fun _ => False) := by
  refine Met.ofW (cc := cX0_isWorth) (maxL := 1) (ret := (some .boolean)) (by decide) rfl ?_
  intro p e s m args below meth c s₁ B hml hv
  obtain ⟨rfl, -⟩ := hv
  have hx := B.exec
  have hb := B.bytes
  have hr := B.returns
  have hts := atoms_spec (ws := wsX0_isWorth) B.pre
  have hown : s.vm.findClass RX0 = some m.cls := findClass_of_methodNamed B.named
  have hlocks := B.notSynchronized
  have hl := lv_entry ([.int w]) (n := 1) (Nat.le_of_ble_eq_true rfl)
  rw [lg_entry_eq]
  generalize (lg_sl ([.int w]) ++ List.replicate (1 - (lg_sl ([.int w])).length) Slot.unset).toArray = ls at hl ⊢
  have hl : lv_has ls 1 [(0, .int w)] := hl
  refine lv_iload_n hx hb dX0_isWorth_0 rfl (lv_at hl 0 rfl) ?_
  refine lv_sipush (v := (-500)) hx hb dX0_isWorth_1 (by decide) ?_
  refine lv_icmp_lt (tgt := 18) hx hb dX0_isWorth_4 (by decide) (fun h4 => ?_) (fun h4 => ?_)
  · refine lv_iconst (v := 0) hx hb dX0_isWorth_18 (by decide) ?_
    exact W.zret (v := 0) hx hb hr (by decide) (fun t ht hW => ⟨by rw [iw, if_pos h4], ht⟩) (fun _ h => nomatch h) dX0_isWorth_19
  · refine lv_iload_n hx hb dX0_isWorth_7 rfl (lv_at hl 0 rfl) ?_
    refine lv_sipush (v := 500) hx hb dX0_isWorth_8 (by decide) ?_
    refine lv_icmp_gt (tgt := 18) hx hb dX0_isWorth_11 (by decide) (fun h11 => ?_) (fun h11 => ?_)
    · refine lv_iconst (v := 0) hx hb dX0_isWorth_18 (by decide) ?_
      exact W.zret (v := 0) hx hb hr (by decide) (fun t ht hW => ⟨by rw [iw, if_neg h4, if_pos h11], ht⟩) (fun _ h => nomatch h) dX0_isWorth_19
    · refine lv_iconst (v := 1) hx hb dX0_isWorth_14 (by decide) ?_
      refine lv_goto (tgt := 19) hx hb dX0_isWorth_15 (by decide) ?_
      exact W.zret (v := 1) hx hb hr (by decide) (fun t ht hW => ⟨by rw [iw, if_neg h4, if_neg h11], ht⟩) (fun _ h => nomatch h) dX0_isWorth_19
set_option maxHeartbeats 4000000 in
set_option maxRecDepth 100000 in
/-- place -/
theorem kX0_place (l : Launch) (x j : Nat)  : Met l yX0_place wsX0_place ({ frames := 0, cells := 0, slots := 0, locals := 0 }) (va_Pc [.int (nI x), .int (nI j)] (fun _ => True)) (QcRead (nI (x * 6 + j))) 0 0 (fun _ => False) := by
  refine Met.ofW (cc := cX0_place) (maxL := 2) (ret := (some .int)) (by decide) rfl ?_
  intro p e s m args below meth c s₁ B hml hv
  obtain ⟨rfl, -⟩ := hv
  have hx := B.exec
  have hb := B.bytes
  have hr := B.returns
  have hts := atoms_spec (ws := wsX0_place) B.pre
  have hown : s.vm.findClass RX0 = some m.cls := findClass_of_methodNamed B.named
  have hlocks := B.notSynchronized
  have hl := lv_entry ([.int (nI x), .int (nI j)]) (n := 2) (Nat.le_of_ble_eq_true rfl)
  rw [lg_entry_eq]
  generalize (lg_sl ([.int (nI x), .int (nI j)]) ++ List.replicate (2 - (lg_sl ([.int (nI x), .int (nI j)])).length) Slot.unset).toArray = ls at hl ⊢
  have hl : lv_has ls 2 [(0, .int (nI x)), (1, .int (nI j))] := hl
  refine lv_iload_n hx hb dX0_place_0 rfl (lv_at hl 0 rfl) ?_
  refine lv_bipush (v := 6) hx hb dX0_place_1 (by decide) ?_
  refine lv_imul hx hb dX0_place_3 ?_
  refine lv_iload_n hx hb dX0_place_4 rfl (lv_at hl 1 rfl) ?_
  refine lv_iadd hx hb dX0_place_5 ?_
  exact W.iret (v := (((nI x) * 6) + (nI j))) hx hb hr (fun t ht hW => ⟨by rw [show (6 : Int32) = nI 6 from rfl, pk_mul, nI_add], ht⟩) (fun _ h => nomatch h) dX0_place_6
set_option maxHeartbeats 4000000 in
set_option maxRecDepth 100000 in
/-- halfMoveBack -/
theorem kX0_halfMoveBack (l : Launch) (v : Int32)  : Met l yX0_halfMoveBack wsX0_halfMoveBack ({ frames := 0, cells := 0, slots := 0, locals := 0 }) (va_Pc [.int v] (fun _ => True)) (QcRead (B32 v)) 0 0 (fun _ => False) := by
  refine Met.ofW (cc := cX0_halfMoveBack) (maxL := 2) (ret := (some .int)) (by decide) rfl ?_
  intro p e s m args below meth c s₁ B hml hv
  obtain ⟨rfl, -⟩ := hv
  have hx := B.exec
  have hb := B.bytes
  have hr := B.returns
  have hts := atoms_spec (ws := wsX0_halfMoveBack) B.pre
  have hown : s.vm.findClass RX0 = some m.cls := findClass_of_methodNamed B.named
  have hlocks := B.notSynchronized
  have hl := lv_entry ([.int v]) (n := 2) (Nat.le_of_ble_eq_true rfl)
  rw [lg_entry_eq]
  generalize (lg_sl ([.int v]) ++ List.replicate (2 - (lg_sl ([.int v])).length) Slot.unset).toArray = ls at hl ⊢
  have hl : lv_has ls 2 [(0, .int v)] := hl
  refine lv_iload_n hx hb dX0_halfMoveBack_0 rfl (lv_at hl 0 rfl) ?_
  refine lv_ineg hx hb dX0_halfMoveBack_1 ?_
  refine lv_istore_n (lv' := [(1, .int (-v)), (0, .int v)]) hx hb dX0_halfMoveBack_2 rfl hl (by decide) rfl (fun ls hl => ?_)
  refine lv_iload_n hx hb dX0_halfMoveBack_3 rfl (lv_at hl 0 rfl) ?_
  refine lv_sipush (v := (-900)) hx hb dX0_halfMoveBack_4 (by decide) ?_
  refine lv_icmp_ge (tgt := 14) hx hb dX0_halfMoveBack_7 (by decide) (fun h7 => ?_) (fun h7 => ?_)
  · refine lv_iload_n hx hb dX0_halfMoveBack_14 rfl (lv_at hl 0 rfl) ?_
    refine lv_sipush (v := 900) hx hb dX0_halfMoveBack_15 (by decide) ?_
    refine lv_icmp_le (tgt := 25) hx hb dX0_halfMoveBack_18 (by decide) (fun h18 => ?_) (fun h18 => ?_)
    · refine lv_iload_n hx hb dX0_halfMoveBack_25 rfl (lv_at hl 0 rfl) ?_
      exact W.iret (v := (-v)) hx hb hr (fun t ht hW => ⟨by rw [B32, if_pos h7, if_pos h18], ht⟩) (fun _ h => nomatch h) dX0_halfMoveBack_26
    · refine lv_iload_n hx hb dX0_halfMoveBack_21 rfl (lv_at hl 0 rfl) ?_
      refine lv_iconst (v := 1) hx hb dX0_halfMoveBack_22 (by decide) ?_
      refine lv_isub hx hb dX0_halfMoveBack_23 ?_
      exact W.iret (v := ((-v) - 1)) hx hb hr (fun t ht hW => ⟨by rw [B32, if_pos h7, if_neg h18], ht⟩) (fun _ h => nomatch h) dX0_halfMoveBack_24
  · refine lv_iload_n hx hb dX0_halfMoveBack_10 rfl (lv_at hl 0 rfl) ?_
    refine lv_iconst (v := 1) hx hb dX0_halfMoveBack_11 (by decide) ?_
    refine lv_iadd hx hb dX0_halfMoveBack_12 ?_
    exact W.iret (v := ((-v) + 1)) hx hb hr (fun t ht hW => ⟨by rw [B32, if_neg h7], ht⟩) (fun _ h => nomatch h) dX0_halfMoveBack_13
set_option maxHeartbeats 4000000 in
set_option maxRecDepth 100000 in
/-- isNode -/
theorem kX0_isNode (l : Launch) (dC : Nat → ClassId) (dI : Nat → Nat → Nat) (cI cZ cA : ClassId) (a : Nat → Nat) (n : Nat) (am : Nat) (rf : Nat) (mk : Nat) (wv : Nat → Int32) (lo : Nat → Int32) (cf : Nat → Nat) (tf : Nat → Nat) (T : Nat → Nat → Int32) (mt : Nat → Nat) (im : Nat → Int32) (x : Int32)  : Met l yX0_isNode wsX0_isNode ({ frames := 0, cells := 0, slots := 0, locals := 0 }) (va_Pc [.ref (a 0), .int x] (RP dC dI (GT cI cZ cA) (XW cI cZ cA a n am rf mk wv lo cf tf T mt im))) (QcRead (isn x n)) 0 0 (fun _ => False) := by
  refine Met.ofW (cc := cX0_isNode) (maxL := 2) (ret := (some .boolean)) (by decide) rfl ?_
  intro p e s m args below meth c s₁ B hml hv
  obtain ⟨rfl, hP, hK⟩ := hv
  have hx := B.exec
  have hb := B.bytes
  have hr := B.returns
  have hts := atoms_spec (ws := wsX0_isNode) B.pre
  have hown : s.vm.findClass RX0 = some m.cls := findClass_of_methodNamed B.named
  have hlocks := B.notSynchronized
  have hf_23 := hts (.fieldLink RX0 23 "GraphSearch" "nodeCount" "I") (by decide +kernel)
  have hiw : ∀ w ∈ wsX00, w ∈ wsX0_isNode := by decide +kernel
  have hl := lv_entry ([.ref (a 0), .int x]) (n := 2) (Nat.le_of_ble_eq_true rfl)
  rw [lg_entry_eq]
  generalize (lg_sl ([.ref (a 0), .int x]) ++ List.replicate (2 - (lg_sl ([.ref (a 0), .int x])).length) Slot.unset).toArray = ls at hl ⊢
  have hl : lv_has ls 2 [(0, .ref (a 0)), (1, .int x)] := hl
  refine lv_iload_n hx hb dX0_isNode_0 rfl (lv_at hl 1 rfl) ?_
  refine lv_if_lt (tgt := 16) hx hb dX0_isNode_1 (by decide) (fun h1 => ?_) (fun h1 => ?_)
  · refine lv_iconst (v := 0) hx hb dX0_isNode_16 (by decide) ?_
    exact W.zret (v := 0) hx hb hr (by decide) (fun t ht hW => ⟨by rw [isn, if_pos h1], ht⟩) (fun _ h => nomatch h) dX0_isNode_17
  · refine lv_iload_n hx hb dX0_isNode_4 rfl (lv_at hl 1 rfl) ?_
    refine lv_aload_n hx hb dX0_isNode_5 rfl (lv_at hl 0 rfl) ?_
    refine va_get (D := (dC, dI)) (ci := 0) (v := .int (nI n)) (C := RX0) (T := TX0) (N := 11) hx hb hts hiw hown hK hP 0 rfl rfl 4 (by decide) hf_23 (fun _ h9 => h9) rfl dX0_isNode_6 ?_
    refine lv_icmp_ge (tgt := 16) hx hb dX0_isNode_9 (by decide) (fun h9 => ?_) (fun h9 => ?_)
    · refine lv_iconst (v := 0) hx hb dX0_isNode_16 (by decide) ?_
      exact W.zret (v := 0) hx hb hr (by decide) (fun t ht hW => ⟨by rw [isn, if_neg h1, if_pos h9], ht⟩) (fun _ h => nomatch h) dX0_isNode_17
    · refine lv_iconst (v := 1) hx hb dX0_isNode_12 (by decide) ?_
      refine lv_goto (tgt := 17) hx hb dX0_isNode_13 (by decide) ?_
      exact W.zret (v := 1) hx hb hr (by decide) (fun t ht hW => ⟨by rw [isn, if_neg h1, if_neg h9], ht⟩) (fun _ h => nomatch h) dX0_isNode_17
end
section
def lok (n am : Nat) (v : Int32) : Int32 := if v = 0 then nI n else if v = 1 then nI am else (-1)
/-- where move v - 3 leads to -/
def ton (cf tf : Nat → Nat) (x : Nat) (v : Int32) : Int32 := if v < 3 then (-1) else if v < nI (3 + cf x) then nI (tf (x * 6 + (v.toNatClampNeg - 3))) else (-1)
theorem ton_in {cf : Nat → Nat} {x : Nat} {v : Int32} (hc : cf x ≤ 6) (h1 : ¬ v < 3) (h2 : v < nI (3 + cf x)) : ∃ j, j < cf x ∧ v = nI (j + 3) := by
  have h0 : ¬ v < 0 := by
    intro h
    apply h1
    rw [Int32.lt_iff_toInt_lt] at h ⊢
    have e1 : (0 : Int32).toInt = 0 := by decide +kernel
    have e2 : (3 : Int32).toInt = 3 := by decide +kernel
    omega
  obtain ⟨k, hk, rfl⟩ := nI_of h0
  rw [show (3 : Int32) = nI 3 from rfl, nI_ltI hk (by decide)] at h1
  rw [nI_ltI hk (by omega)] at h2
  exact ⟨k - 3, by omega, by rw [Nat.sub_add_cancel (by omega)]⟩
theorem ton_at {cf tf : Nat → Nat} {x j : Nat} (hc : cf x ≤ 6) (hj : j < cf x) : ton cf tf x (nI (j + 3)) = nI (tf (x * 6 + j)) := by
  unfold ton
  rw [show (3 : Int32) = nI 3 from rfl, if_neg (nI_nlt (b := 3) (a := j + 3) (by omega) (by omega)), if_pos (nI_lt (by omega) (by omega)), nI_clamp (by omega), Nat.add_sub_cancel]
set_option maxHeartbeats 4000000 in
set_option maxRecDepth 100000 in
/-- moveValue -/
theorem kX0_moveValue (l : Launch) (dC : Nat → ClassId) (dI : Nat → Nat → Nat) (cI cZ cA : ClassId) (a : Nat → Nat) (n : Nat) (am : Nat) (rf : Nat) (mk : Nat) (wv : Nat → Int32) (lo : Nat → Int32) (cf : Nat → Nat) (tf : Nat → Nat) (T : Nat → Nat → Int32) (mt : Nat → Nat) (im : Nat → Int32) (x j d : Nat) (hd : d < 8) (hx6 : x * 6 + j < 2400) (ht : tf (x * 6 + j) < 400) : Met l yX0_moveValue wsX0_moveValue ({ frames := 1, cells := 0, slots := 0, locals := 21 }) (va_Pc [.ref (a 0), .int (nI x), .int (nI j), .int (nI (d + 1))] (RP dC dI (GT cI cZ cA) (XW cI cZ cA a n am rf mk wv lo cf tf T mt im))) (QcRead (gv tf (T d) x j)) 0 0 (fun _ => False) := by
  refine Met.ofW (cc := cX0_moveValue) (maxL := 4) (ret := (some .int)) (by decide) rfl ?_
  intro p e s m args below meth c s₁ B hml hv
  obtain ⟨rfl, hP, hK⟩ := hv
  have hx := B.exec
  have hb := B.bytes
  have hr := B.returns
  have hts := atoms_spec (ws := wsX0_moveValue) B.pre
  have hown : s.vm.findClass RX0 = some m.cls := findClass_of_methodNamed B.named
  have hlocks := B.notSynchronized
  have hf_32 := hts (.fieldLink RX0 32 "GraphSearch" "table" "[[I") (by decide +kernel)
  have hf_20 := hts (.fieldLink RX0 20 "GraphSearch" "targets" "[I") (by decide +kernel)
  have hiw : ∀ w ∈ wsX00, w ∈ wsX0_moveValue := by decide +kernel
  have hl := lv_entry ([.ref (a 0), .int (nI x), .int (nI j), .int (nI (d + 1))]) (n := 4) (Nat.le_of_ble_eq_true rfl)
  rw [lg_entry_eq]
  generalize (lg_sl ([.ref (a 0), .int (nI x), .int (nI j), .int (nI (d + 1))]) ++ List.replicate (4 - (lg_sl ([.ref (a 0), .int (nI x), .int (nI j), .int (nI (d + 1))])).length) Slot.unset).toArray = ls at hl ⊢
  have hl : lv_has ls 4 [(0, .ref (a 0)), (1, .int (nI x)), (2, .int (nI j)), (3, .int (nI (d + 1)))] := hl
  refine lv_aload_n hx hb dX0_moveValue_0 rfl (lv_at hl 0 rfl) ?_
  refine va_get (D := (dC, dI)) (ci := 0) (v := .ref (a 5)) (C := RX0) (T := TX0) (N := 11) hx hb hts hiw hown hK hP 0 rfl rfl 6 (by decide) hf_32 (fun _ h9 => h9) rfl dX0_moveValue_1 ?_
  refine lv_iload_n hx hb dX0_moveValue_4 rfl (lv_at hl 3 rfl) ?_
  refine lv_iconst (v := 1) hx hb dX0_moveValue_5 (by decide) ?_
  refine lv_isub hx hb dX0_moveValue_6 ?_
  refine ga_is (y := nI d) (nI_pred d) ?_
  refine ga_aald hx hb hK hP 5 2 rfl rfl d (a (8 + d)) (if_pos (by omega)) (by omega) (by decide) dX0_moveValue_7 ?_
  refine lv_aload_n hx hb dX0_moveValue_8 rfl (lv_at hl 0 rfl) ?_
  refine va_get (D := (dC, dI)) (ci := 0) (v := .ref (a 4)) (C := RX0) (T := TX0) (N := 11) hx hb hts hiw hown hK hP 0 rfl rfl 3 (by decide) hf_20 (fun _ h9 => h9) rfl dX0_moveValue_9 ?_
  refine lv_iload_n hx hb dX0_moveValue_12 rfl (lv_at hl 1 rfl) ?_
  refine lv_iload_n hx hb dX0_moveValue_13 rfl (lv_at hl 2 rfl) ?_
  refine W.callR (r := nI (x * 6 + j)) (W.runS (As := [.int (nI x), .int (nI j)]) (rest := [.ref (a 4), .ref (a (8 + d))]) ⟨hx, hb, hml, hown, hts⟩ (kX0_place l x j) (va_cwS 2 hts gX0_moveValue_X0_place rfl rfl rfl (by decide +kernel) ⟨Nat.le_of_ble_eq_true rfl, Nat.le_of_ble_eq_true rfl⟩) ⟨blindT, fun _ _ _ => ⟨rfl, trivial⟩⟩ rfl rfl hl.1 rfl (lv_room (Nat.le_of_ble_eq_true rfl)) dX0_moveValue_14 ⟨Nat.zero_le _, Nat.zero_le _⟩) ?_
  refine W.eq (g2 := F0 m 17 ls [.int (nI (x * 6 + j)), .ref (a 4), .ref (a (8 + d))]) rfl ?_
  refine ga_iald hx hb hK hP 4 0 rfl rfl (x * 6 + j) (v := nI (tf (x * 6 + j))) rfl (by omega) (by decide) dX0_moveValue_17 ?_
  refine ga_iald hx hb hK hP (8 + d) 0 (XW_row (by omega)) rfl (tf (x * 6 + j)) (v := T d (tf (x * 6 + j))) rfl (by omega) (by decide) dX0_moveValue_18 ?_
  refine W.callR (r := B32 (T d (tf (x * 6 + j)))) (W.runS (As := [.int (T d (tf (x * 6 + j)))]) (rest := []) ⟨hx, hb, hml, hown, hts⟩ (kX0_halfMoveBack l (T d (tf (x * 6 + j)))) (va_cwS 1 hts gX0_moveValue_X0_halfMoveBack rfl rfl rfl (by decide +kernel) ⟨Nat.le_of_ble_eq_true rfl, Nat.le_of_ble_eq_true rfl⟩) ⟨blindT, fun _ _ _ => ⟨rfl, trivial⟩⟩ rfl rfl hl.1 rfl (lv_room (Nat.le_of_ble_eq_true rfl)) dX0_moveValue_19 ⟨Nat.zero_le _, Nat.zero_le _⟩) ?_
  refine W.eq (g2 := F0 m 22 ls [.int (B32 (T d (tf (x * 6 + j))))]) rfl ?_
  exact W.iret (v := (B32 (T d (tf (x * 6 + j))))) hx hb hr (fun t ht hW => ⟨rfl, ht⟩) (fun _ h => nomatch h) dX0_moveValue_22
set_option maxHeartbeats 4000000 in
set_option maxRecDepth 100000 in
/-- targetOrNone -/
theorem kX0_targetOrNone (l : Launch) (dC : Nat → ClassId) (dI : Nat → Nat → Nat) (cI cZ cA : ClassId) (a : Nat → Nat) (n : Nat) (am : Nat) (rf : Nat) (mk : Nat) (wv : Nat → Int32) (lo : Nat → Int32) (cf : Nat → Nat) (tf : Nat → Nat) (T : Nat → Nat → Int32) (mt : Nat → Nat) (im : Nat → Int32) (x : Nat) (v : Int32) (hx4 : x < 400) (hc : cf x ≤ 6) : Met l yX0_targetOrNone wsX0_targetOrNone ({ frames := 1, cells := 0, slots := 0, locals := 21 }) (va_Pc [.ref (a 0), .int (nI x), .int v] (RP dC dI (GT cI cZ cA) (XW cI cZ cA a n am rf mk wv lo cf tf T mt im))) (QcRead (ton cf tf x v)) 0 0 (fun _ => False) := by
  refine Met.ofW (cc := cX0_targetOrNone) (maxL := 3) (ret := (some .int)) (by decide) rfl ?_
  intro p e s m args below meth c s₁ B hml hv
  obtain ⟨rfl, hP, hK⟩ := hv
  have hx := B.exec
  have hb := B.bytes
  have hr := B.returns
  have hts := atoms_spec (ws := wsX0_targetOrNone) B.pre
  have hown : s.vm.findClass RX0 = some m.cls := findClass_of_methodNamed B.named
  have hlocks := B.notSynchronized
  have hf_17 := hts (.fieldLink RX0 17 "GraphSearch" "moveCounts" "[I") (by decide +kernel)
  have hf_20 := hts (.fieldLink RX0 20 "GraphSearch" "targets" "[I") (by decide +kernel)
  have hiw : ∀ w ∈ wsX00, w ∈ wsX0_targetOrNone := by decide +kernel
  have hl := lv_entry ([.ref (a 0), .int (nI x), .int v]) (n := 3) (Nat.le_of_ble_eq_true rfl)
  rw [lg_entry_eq]
  generalize (lg_sl ([.ref (a 0), .int (nI x), .int v]) ++ List.replicate (3 - (lg_sl ([.ref (a 0), .int (nI x), .int v])).length) Slot.unset).toArray = ls at hl ⊢
  have hl : lv_has ls 3 [(0, .ref (a 0)), (1, .int (nI x)), (2, .int v)] := hl
  refine lv_iload_n hx hb dX0_targetOrNone_0 rfl (lv_at hl 2 rfl) ?_
  refine lv_iconst (v := 3) hx hb dX0_targetOrNone_1 (by decide) ?_
  refine lv_icmp_lt (tgt := 17) hx hb dX0_targetOrNone_2 (by decide) (fun h2 => ?_) (fun h2 => ?_)
  · refine lv_iconst (v := (-1)) hx hb dX0_targetOrNone_17 (by decide) ?_
    exact W.iret (v := (-1)) hx hb hr (fun t ht hW => ⟨by rw [ton, if_pos h2], ht⟩) (fun _ h => nomatch h) dX0_targetOrNone_18
  · refine lv_iload_n hx hb dX0_targetOrNone_5 rfl (lv_at hl 2 rfl) ?_
    refine lv_iconst (v := 3) hx hb dX0_targetOrNone_6 (by decide) ?_
    refine lv_aload_n hx hb dX0_targetOrNone_7 rfl (lv_at hl 0 rfl) ?_
    refine va_get (D := (dC, dI)) (ci := 0) (v := .ref (a 3)) (C := RX0) (T := TX0) (N := 11) hx hb hts hiw hown hK hP 0 rfl rfl 2 (by decide) hf_17 (fun _ h9 => h9) rfl dX0_targetOrNone_8 ?_
    refine lv_iload_n hx hb dX0_targetOrNone_11 rfl (lv_at hl 1 rfl) ?_
    refine ga_iald hx hb hK hP 3 0 rfl rfl x (v := nI (cf x)) rfl (by omega) (by decide) dX0_targetOrNone_12 ?_
    refine lv_iadd hx hb dX0_targetOrNone_13 ?_
    refine ga_is (y := nI (3 + cf x)) (nI_add 3 (cf x)) ?_
    refine lv_icmp_lt (tgt := 19) hx hb dX0_targetOrNone_14 (by decide) (fun h14 => ?_) (fun h14 => ?_)
    · obtain ⟨j, hj, rfl⟩ : ∃ j, j < cf x ∧ v = nI (j + 3) := ton_in hc h2 h14
      refine lv_aload_n hx hb dX0_targetOrNone_19 rfl (lv_at hl 0 rfl) ?_
      refine va_get (D := (dC, dI)) (ci := 0) (v := .ref (a 4)) (C := RX0) (T := TX0) (N := 11) hx hb hts hiw hown hK hP 0 rfl rfl 3 (by decide) hf_20 (fun _ h9 => h9) rfl dX0_targetOrNone_20 ?_
      refine lv_iload_n hx hb dX0_targetOrNone_23 rfl (lv_at hl 1 rfl) ?_
      refine lv_iload_n hx hb dX0_targetOrNone_24 rfl (lv_at hl 2 rfl) ?_
      refine lv_iconst (v := 3) hx hb dX0_targetOrNone_25 (by decide) ?_
      refine lv_isub hx hb dX0_targetOrNone_26 ?_
      refine ga_is (y := nI j) (by rw [show (3 : Int32) = nI 3 from rfl, pk_sub (by omega), Nat.add_sub_cancel]) ?_
      refine W.callR (r := nI (x * 6 + j)) (W.runS (As := [.int (nI x), .int (nI j)]) (rest := [.ref (a 4)]) ⟨hx, hb, hml, hown, hts⟩ (kX0_place l x j) (va_cwS 2 hts gX0_targetOrNone_X0_place rfl rfl rfl (by decide +kernel) ⟨Nat.le_of_ble_eq_true rfl, Nat.le_of_ble_eq_true rfl⟩) ⟨blindT, fun _ _ _ => ⟨rfl, trivial⟩⟩ rfl rfl hl.1 rfl (lv_room (Nat.le_of_ble_eq_true rfl)) dX0_targetOrNone_27 ⟨Nat.zero_le _, Nat.zero_le _⟩) ?_
      refine W.eq (g2 := F0 m 30 ls [.int (nI (x * 6 + j)), .ref (a 4)]) rfl ?_
      refine ga_iald hx hb hK hP 4 0 rfl rfl (x * 6 + j) (v := nI (tf (x * 6 + j))) rfl (by omega) (by decide) dX0_targetOrNone_30 ?_
      exact W.iret (v := (nI (tf (x * 6 + j)))) hx hb hr (fun t ht hW => ⟨by rw [ton_at hc hj], ht⟩) (fun _ h => nomatch h) dX0_targetOrNone_31
    · refine lv_iconst (v := (-1)) hx hb dX0_targetOrNone_17 (by decide) ?_
      exact W.iret (v := (-1)) hx hb hr (fun t ht hW => ⟨by rw [ton, if_neg h2, if_neg h14], ht⟩) (fun _ h => nomatch h) dX0_targetOrNone_18
set_option maxHeartbeats 4000000 in
set_option maxRecDepth 100000 in
/-- look -/
theorem kX0_look (l : Launch) (dC : Nat → ClassId) (dI : Nat → Nat → Nat) (cI cZ cA : ClassId) (a : Nat → Nat) (n : Nat) (am : Nat) (rf : Nat) (mk : Nat) (wv : Nat → Int32) (lo : Nat → Int32) (cf : Nat → Nat) (tf : Nat → Nat) (T : Nat → Nat → Int32) (mt : Nat → Nat) (im : Nat → Int32) (v : Int32)  : Met l yX0_look wsX0_look ({ frames := 0, cells := 0, slots := 0, locals := 0 }) (va_Pc [.ref (a 0), .int v] (RP dC dI (GT cI cZ cA) (XW cI cZ cA a n am rf mk wv lo cf tf T mt im))) (QcRead (lok n am v)) 0 0 (fun _ => False) := by
  refine Met.ofW (cc := cX0_look) (maxL := 2) (ret := (some .int)) (by decide) rfl ?_
  intro p e s m args below meth c s₁ B hml hv
  obtain ⟨rfl, hP, hK⟩ := hv
  have hx := B.exec
  have hb := B.bytes
  have hr := B.returns
  have hts := atoms_spec (ws := wsX0_look) B.pre
  have hown : s.vm.findClass RX0 = some m.cls := findClass_of_methodNamed B.named
  have hlocks := B.notSynchronized
  have hf_23 := hts (.fieldLink RX0 23 "GraphSearch" "nodeCount" "I") (by decide +kernel)
  have hf_27 := hts (.fieldLink RX0 27 "GraphSearch" "allMoves" "I") (by decide +kernel)
  have hiw : ∀ w ∈ wsX00, w ∈ wsX0_look := by decide +kernel
  have hl := lv_entry ([.ref (a 0), .int v]) (n := 2) (Nat.le_of_ble_eq_true rfl)
  rw [lg_entry_eq]
  generalize (lg_sl ([.ref (a 0), .int v]) ++ List.replicate (2 - (lg_sl ([.ref (a 0), .int v])).length) Slot.unset).toArray = ls at hl ⊢
  have hl : lv_has ls 2 [(0, .ref (a 0)), (1, .int v)] := hl
  refine lv_iload_n hx hb dX0_look_0 rfl (lv_at hl 1 rfl) ?_
  by_cases h0 : v = 0
  · refine lv_lookup (tgt := 28) (off := 27) hx hb dX0_look_1 (by decide) (by subst h0; decide +kernel) (by decide) ?_
    refine lv_aload_n hx hb dX0_look_28 rfl (lv_at hl 0 rfl) ?_
    refine va_get (D := (dC, dI)) (ci := 0) (v := .int (nI n)) (C := RX0) (T := TX0) (N := 11) hx hb hts hiw hown hK hP 0 rfl rfl 4 (by decide) hf_23 (fun _ h9 => h9) rfl dX0_look_29 ?_
    exact W.iret (v := (nI n)) hx hb hr (fun t ht hW => ⟨by rw [lok, if_pos h0], ht⟩) (fun _ h => nomatch h) dX0_look_32
  · by_cases h1 : v = 1
    · refine lv_lookup (tgt := 33) (off := 32) hx hb dX0_look_1 (by decide) (by subst h1; decide +kernel) (by decide) ?_
      refine lv_aload_n hx hb dX0_look_33 rfl (lv_at hl 0 rfl) ?_
      refine va_get (D := (dC, dI)) (ci := 0) (v := .int (nI am)) (C := RX0) (T := TX0) (N := 11) hx hb hts hiw hown hK hP 0 rfl rfl 5 (by decide) hf_27 (fun _ h9 => h9) rfl dX0_look_34 ?_
      exact W.iret (v := (nI am)) hx hb hr (fun t ht hW => ⟨by rw [lok, if_neg h0, if_pos h1], ht⟩) (fun _ h => nomatch h) dX0_look_37
    · refine lv_lookup (tgt := 38) hx hb dX0_look_1 (by decide) (by show Op.lookupswitch.offset [(0, 27), (1, 32)] 37 v.toInt = 37; rw [lv_osw h0 (by decide +kernel), lv_osw h1 (by decide +kernel)]; rfl) (by decide) ?_
      refine lv_iconst (v := (-1)) hx hb dX0_look_38 (by decide) ?_
      exact W.iret (v := (-1)) hx hb hr (fun t ht hW => ⟨by rw [lok, if_neg h0, if_neg h1], ht⟩) (fun _ h => nomatch h) dX0_look_39
end
section
def ofx (wv lo : Nat → Int32) (cf tf : Nat → Nat) (j : Nat) (v : Int32) : Int32 := if v = 0 then wv j else if v = 1 then lo j else if v = 2 then nI (cf j) else ton cf tf j v
def off (n : Nat) (wv lo : Nat → Int32) (cf tf : Nat → Nat) (x v : Int32) : Int32 := if isn x n = 0 then (-1) else ofx wv lo cf tf x.toNatClampNeg v
theorem of_sw (v : Int32) : v = 0 ∨ v = 1 ∨ v = 2 ∨ (¬ v = 0 ∧ ¬ v = 1 ∧ ¬ v = 2 ∧ (v.toInt < 0 ∨ 2 < v.toInt)) := by
  by_cases h0 : v = 0
  · exact Or.inl h0
  by_cases h1 : v = 1
  · exact Or.inr (Or.inl h1)
  by_cases h2 : v = 2
  · exact Or.inr (Or.inr (Or.inl h2))
  refine Or.inr (Or.inr (Or.inr ⟨h0, h1, h2, ?_⟩))
  have e0 : v.toInt ≠ 0 := lv_neT h0 (by decide +kernel)
  have e1 : v.toInt ≠ 1 := lv_neT h1 (by decide +kernel)
  have e2 : v.toInt ≠ 2 := lv_neT h2 (by decide +kernel)
  omega
def bm (cf tf : Nat → Nat) (T : Nat → Nat → Int32) (x : Nat) : Nat → Int32
  | 0 => (-1)
  | d + 1 => fst_ (gv tf (T d) x) (T (d + 1) x) (cf x) 0
set_option maxHeartbeats 4000000 in
set_option maxRecDepth 100000 in
/-- findValue -/
theorem kX0_findValue (l : Launch) (dC : Nat → ClassId) (dI : Nat → Nat → Nat) (cI cZ cA : ClassId) (a : Nat → Nat) (n : Nat) (am : Nat) (rf : Nat) (mk : Nat) (wv : Nat → Int32) (lo : Nat → Int32) (cf : Nat → Nat) (tf : Nat → Nat) (T : Nat → Nat → Int32) (mt : Nat → Nat) (im : Nat → Int32) (x d : Nat) (hd : d < 8) (hx4 : x < 400) (hc : cf x ≤ 6) (ht : ∀ j, j < cf x → tf (x * 6 + j) < 400) (hg : ∀ e, d = e + 1 → ∀ j, j < cf x → rg (T e (tf (x * 6 + j)))) : Met l yX0_findValue wsX0_findValue ({ frames := 2, cells := 0, slots := 0, locals := 44 }) (va_Pc [.ref (a 0), .int (nI x), .int (nI d)] (RP dC dI (GT cI cZ cA) (XW cI cZ cA a n am rf mk wv lo cf tf T mt im))) (QcRead (fv wv lo cf tf T x d)) 0 0 (fun _ => False) := by
  refine Met.ofW (cc := cX0_findValue) (maxL := 5) (ret := (some .int)) (by decide) rfl ?_
  intro p e s m args below meth c s₁ B hml hv
  obtain ⟨rfl, hP, hK⟩ := hv
  have hx := B.exec
  have hb := B.bytes
  have hr := B.returns
  have hts := atoms_spec (ws := wsX0_findValue) B.pre
  have hown : s.vm.findClass RX0 = some m.cls := findClass_of_methodNamed B.named
  have hlocks := B.notSynchronized
  have hf_17 := hts (.fieldLink RX0 17 "GraphSearch" "moveCounts" "[I") (by decide +kernel)
  have hf_13 := hts (.fieldLink RX0 13 "GraphSearch" "losts" "[Z") (by decide +kernel)
  have hf_9 := hts (.fieldLink RX0 9 "GraphSearch" "worths" "[I") (by decide +kernel)
  have hiw : ∀ w ∈ wsX00, w ∈ wsX0_findValue := by decide +kernel
  have hl := lv_entry ([.ref (a 0), .int (nI x), .int (nI d)]) (n := 5) (Nat.le_of_ble_eq_true rfl)
  rw [lg_entry_eq]
  generalize (lg_sl ([.ref (a 0), .int (nI x), .int (nI d)]) ++ List.replicate (5 - (lg_sl ([.ref (a 0), .int (nI x), .int (nI d)])).length) Slot.unset).toArray = ls at hl ⊢
  have hl : lv_has ls 5 [(0, .ref (a 0)), (1, .int (nI x)), (2, .int (nI d))] := hl
  refine lv_aload_n hx hb dX0_findValue_0 rfl (lv_at hl 0 rfl) ?_
  refine va_get (D := (dC, dI)) (ci := 0) (v := .ref (a 3)) (C := RX0) (T := TX0) (N := 11) hx hb hts hiw hown hK hP 0 rfl rfl 2 (by decide) hf_17 (fun _ h9 => h9) rfl dX0_findValue_1 ?_
  refine lv_iload_n hx hb dX0_findValue_4 rfl (lv_at hl 1 rfl) ?_
  refine ga_iald hx hb hK hP 3 0 rfl rfl x (v := nI (cf x)) rfl (by omega) (by decide) dX0_findValue_5 ?_
  refine lv_if_ne (tgt := 26) hx hb dX0_findValue_6 (by decide) (fun h6 => ?_) (fun h6 => ?_)
  · have hc0 : 0 < cf x := Nat.pos_of_ne_zero (fun z => h6 (by rw [z]; rfl))
    refine lv_iload_n hx hb dX0_findValue_26 rfl (lv_at hl 2 rfl) ?_
    refine lv_if_ne (tgt := 37) hx hb dX0_findValue_27 (by decide) (fun h27 => ?_) (fun h27 => ?_)
    · obtain ⟨d, rfl⟩ : ∃ k, d = k + 1 := Nat.exists_eq_succ_of_ne_zero (fun z => h27 (by rw [z]; rfl))
      have hg := hg d rfl
      show W p l e _ s m _ below meth c s.heap [] 0 0 (MQ below (QcRead (if cf x = 0 then (if lo x = 0 then 0 else (-1000)) else gm tf (T d) x (cf x - 1))) _ s 0 0 (fun _ => False)) _
      rw [if_neg (by omega : ¬ cf x = 0)]
      refine lv_aload_n hx hb dX0_findValue_37 rfl (lv_at hl 0 rfl) ?_
      refine lv_iload_n hx hb dX0_findValue_38 rfl (lv_at hl 1 rfl) ?_
      have e0 : (0 : Int32) = nI 0 := rfl
      refine lv_iconst (v := 0) hx hb dX0_findValue_39 (by decide) ?_
      refine ga_is (y := nI 0) (rfl) ?_
      refine lv_iload_n hx hb dX0_findValue_40 rfl (lv_at hl 2 rfl) ?_
      refine W.callR (r := gv tf (T d) x 0) (W.runV (As := [.int (nI x), .int (nI 0), .int (nI (d + 1))]) (rest := []) ⟨hx, hb, hml, hown, hts⟩ (kX0_moveValue l dC dI cI cZ cA a n am rf mk wv lo cf tf T mt im x 0 d (by omega) (by omega) (ht 0 hc0)) (cwV 3 hts gX0_findValue_X0_moveValue rfl rfl rfl (by decide +kernel) ⟨Nat.le_of_ble_eq_true rfl, Nat.le_of_ble_eq_true rfl⟩) ⟨blindR, va_recv hK hP (ci := 0) (q0 := 0) rfl rfl, preR hP hK⟩ rfl rfl hl.1 rfl (lv_room (Nat.le_of_ble_eq_true rfl)) dX0_findValue_41 ⟨Nat.zero_le _, Nat.zero_le _⟩) ?_
      refine W.eq (g2 := F0 m 44 ls [.int (gv tf (T d) x 0)]) rfl ?_
      refine lv_istore_n (lv' := [(3, .int (gv tf (T d) x 0)), (0, .ref (a 0)), (1, .int (nI x)), (2, .int (nI (d + 1)))]) hx hb dX0_findValue_44 rfl hl (by decide) rfl (fun ls hl => ?_)
      refine lv_iconst (v := 1) hx hb dX0_findValue_45 (by decide) ?_
      refine ga_is (y := nI 1) (rfl) ?_
      refine lv_istore (lv' := [(4, .int (nI 1)), (3, .int (gv tf (T d) x 0)), (0, .ref (a 0)), (1, .int (nI x)), (2, .int (nI (d + 1)))]) hx hb dX0_findValue_46 hl (by decide) rfl (fun ls hl => ?_)
      have loop : ∀ (k j : Nat), j + k = cf x → 0 < j → ∀ ls : Array Slot, lv_has ls 5 [(4, .int (nI j)), (3, .int (gm tf (T d) x (j - 1))), (0, .ref (a 0)), (1, .int (nI x)), (2, .int (nI (d + 1)))] → W p l e (headSpec wsX0_findValue (({ frames := 2, cells := 0, slots := 0, locals := 44 }) : Room)).room s m ([.ref (a 0), .int (nI x), .int (nI (d + 1))] : List Value).toArray below meth c s.heap [] 0 0 (MQ below (QcRead (gm tf (T d) x (cf x - 1))) ([.ref (a 0), .int (nI x), .int (nI (d + 1))] : List Value).toArray s 0 0 (fun _ => False)) (F0 m 48 ls []) := by
        intro k
        induction k with
        | zero =>
          intro j hj h0 ls hl
          obtain rfl : j = cf x := by omega
          refine lv_iload hx hb dX0_findValue_48 (lv_at hl 0 rfl) ?_
          refine lv_aload_n hx hb dX0_findValue_50 rfl (lv_at hl 2 rfl) ?_
          refine va_get (D := (dC, dI)) (ci := 0) (v := .ref (a 3)) (C := RX0) (T := TX0) (N := 11) hx hb hts hiw hown hK hP 0 rfl rfl 2 (by decide) hf_17 (fun _ h9 => h9) rfl dX0_findValue_51 ?_
          refine lv_iload_n hx hb dX0_findValue_54 rfl (lv_at hl 3 rfl) ?_
          refine ga_iald hx hb hK hP 3 0 rfl rfl x (v := nI (cf x)) rfl (by omega) (by decide) dX0_findValue_55 ?_
          refine lv_icmp_ge (tgt := 85) hx hb dX0_findValue_56 (by decide) (fun h56 => ?_) (fun h56 => absurd (Int32.le_refl _) h56)
          refine lv_iload_n hx hb dX0_findValue_85 rfl (lv_at hl 1 rfl) ?_
          exact W.iret (v := (gm tf (T d) x (cf x - 1))) hx hb hr (fun t ht hW => ⟨rfl, ht⟩) (fun _ h => nomatch h) dX0_findValue_86
        | succ k ih =>
          intro j hj h0 ls hl
          refine lv_iload hx hb dX0_findValue_48 (lv_at hl 0 rfl) ?_
          refine lv_aload_n hx hb dX0_findValue_50 rfl (lv_at hl 2 rfl) ?_
          refine va_get (D := (dC, dI)) (ci := 0) (v := .ref (a 3)) (C := RX0) (T := TX0) (N := 11) hx hb hts hiw hown hK hP 0 rfl rfl 2 (by decide) hf_17 (fun _ h9 => h9) rfl dX0_findValue_51 ?_
          refine lv_iload_n hx hb dX0_findValue_54 rfl (lv_at hl 3 rfl) ?_
          refine ga_iald hx hb hK hP 3 0 rfl rfl x (v := nI (cf x)) rfl (by omega) (by decide) dX0_findValue_55 ?_
          refine lv_icmp_ge (tgt := 85) hx hb dX0_findValue_56 (by decide) (fun h56 => absurd h56 (nI_ge (by omega) (by omega))) (fun h56 => ?_)
          refine lv_iload_n hx hb dX0_findValue_59 rfl (lv_at hl 1 rfl) ?_
          refine lv_sipush (v := 999) hx hb dX0_findValue_60 (by decide) ?_
          refine lv_icmp_ge (tgt := 85) hx hb dX0_findValue_63 (by decide) (fun h63 => ?_) (fun h63 => ?_)
          · refine lv_iload_n hx hb dX0_findValue_85 rfl (lv_at hl 1 rfl) ?_
            exact W.iret (v := (gm tf (T d) x (j - 1))) hx hb hr (fun t ht hW => ⟨by rw [show cf x - 1 = (j - 1) + (cf x - j) by omega, gm_cut h63 _ (fun i hi => hg i (by omega))], ht⟩) (fun _ h => nomatch h) dX0_findValue_86
          · refine lv_iload_n hx hb dX0_findValue_66 rfl (lv_at hl 1 rfl) ?_
            refine lv_aload_n hx hb dX0_findValue_67 rfl (lv_at hl 2 rfl) ?_
            refine lv_iload_n hx hb dX0_findValue_68 rfl (lv_at hl 3 rfl) ?_
            refine lv_iload hx hb dX0_findValue_69 (lv_at hl 0 rfl) ?_
            refine lv_iload_n hx hb dX0_findValue_71 rfl (lv_at hl 4 rfl) ?_
            refine W.callR (r := gv tf (T d) x j) (W.runV (As := [.int (nI x), .int (nI j), .int (nI (d + 1))]) (rest := [.int (gm tf (T d) x (j - 1))]) ⟨hx, hb, hml, hown, hts⟩ (kX0_moveValue l dC dI cI cZ cA a n am rf mk wv lo cf tf T mt im x j d (by omega) (by omega) (ht j (by omega))) (cwV 3 hts gX0_findValue_X0_moveValue rfl rfl rfl (by decide +kernel) ⟨Nat.le_of_ble_eq_true rfl, Nat.le_of_ble_eq_true rfl⟩) ⟨blindR, va_recv hK hP (ci := 0) (q0 := 0) rfl rfl, preR hP hK⟩ rfl rfl hl.1 rfl (lv_room (Nat.le_of_ble_eq_true rfl)) dX0_findValue_72 ⟨Nat.zero_le _, Nat.zero_le _⟩) ?_
            refine W.eq (g2 := F0 m 75 ls [.int (gv tf (T d) x j), .int (gm tf (T d) x (j - 1))]) rfl ?_
            refine va_mmax hx hb (by rw [hml]; exact hl.1.symm) hown (hts (.methodLink RX0 112 Lib.Math.max.name) (by decide +kernel)) (hts (.static Lib.Math.max.name) (by decide +kernel)) (hts (.initialized "java/lang/Math") (by decide +kernel)) (hts (.code Lib.Math.max.name Lib.Math.max.code 2 (some .int)) (by decide +kernel)) (Nat.le_of_ble_eq_true rfl) (Nat.le_of_ble_eq_true rfl) (Nat.zero_le _) (Nat.zero_le _) dX0_findValue_75 ?_
            refine ga_is (y := gm tf (T d) x (j + 1 - 1)) (by rw [show j + 1 - 1 = (j - 1) + 1 by omega]; show _ = mx (gm tf (T d) x (j - 1)) (gv tf (T d) x (j - 1 + 1)); rw [show j - 1 + 1 = j by omega]; rfl) ?_
            refine lv_istore_n (lv' := [(3, .int (gm tf (T d) x (j + 1 - 1))), (4, .int (nI j)), (0, .ref (a 0)), (1, .int (nI x)), (2, .int (nI (d + 1)))]) hx hb dX0_findValue_78 rfl hl (by decide) rfl (fun ls hl => ?_)
            refine lv_iinc (v := nI (j + 1)) (lv' := [(4, .int (nI (j + 1))), (3, .int (gm tf (T d) x (j + 1 - 1))), (0, .ref (a 0)), (1, .int (nI x)), (2, .int (nI (d + 1)))]) hx hb dX0_findValue_79 hl (k := 1) rfl (nI_1 j) (by decide) rfl (fun ls hl => ?_)
            refine lv_goto (tgt := 48) hx hb dX0_findValue_82 (by decide) ?_
            exact ih (j + 1) (by omega) (by omega) ls (lv_sub hl [0, 1, 2, 3, 4] rfl)
      exact loop (cf x - 1) 1 (by omega) (by omega) ls (lv_sub hl [0, 1, 2, 3, 4] rfl)
    · refine lv_aload_n hx hb dX0_findValue_30 rfl (lv_at hl 0 rfl) ?_
      refine va_get (D := (dC, dI)) (ci := 0) (v := .ref (a 1)) (C := RX0) (T := TX0) (N := 11) hx hb hts hiw hown hK hP 0 rfl rfl 0 (by decide) hf_9 (fun _ h9 => h9) rfl dX0_findValue_31 ?_
      refine lv_iload_n hx hb dX0_findValue_34 rfl (lv_at hl 1 rfl) ?_
      refine ga_iald hx hb hK hP 1 0 rfl rfl x (v := wv x) rfl (by omega) (by decide) dX0_findValue_35 ?_
      obtain rfl : d = 0 := (nI_eq (by omega) (by decide)).mp (h27)
      exact W.iret (v := (wv x)) hx hb hr (fun t ht hW => ⟨by show _ = Outcome.returned (some (.int (if cf x = 0 then _ else wv x))); rw [if_neg (by omega)], ht⟩) (fun _ h => nomatch h) dX0_findValue_36
  · have hc0 : cf x = 0 := (nI_eq (by omega) (by decide)).mp (h6)
    have hfv : fv wv lo cf tf T x d = if lo x = 0 then 0 else (-1000) := by cases d <;> exact if_pos hc0
    refine lv_aload_n hx hb dX0_findValue_9 rfl (lv_at hl 0 rfl) ?_
    refine va_get (D := (dC, dI)) (ci := 0) (v := .ref (a 2)) (C := RX0) (T := TX0) (N := 11) hx hb hts hiw hown hK hP 0 rfl rfl 1 (by decide) hf_13 (fun _ h9 => h9) rfl dX0_findValue_10 ?_
    refine lv_iload_n hx hb dX0_findValue_13 rfl (lv_at hl 1 rfl) ?_
    refine ga_zald hx hb hK hP 2 1 rfl rfl x (v := lo x) rfl (by omega) (by decide) dX0_findValue_14 ?_
    refine lv_if_eq (tgt := 24) hx hb dX0_findValue_15 (by decide) (fun h15 => ?_) (fun h15 => ?_)
    · refine lv_iconst (v := 0) hx hb dX0_findValue_24 (by decide) ?_
      exact W.iret (v := 0) hx hb hr (fun t ht hW => ⟨by rw [hfv, if_pos h15], ht⟩) (fun _ h => nomatch h) dX0_findValue_25
    · refine lv_sipush (v := (-1000)) hx hb dX0_findValue_18 (by decide) ?_
      refine lv_goto (tgt := 25) hx hb dX0_findValue_21 (by decide) ?_
      exact W.iret (v := (-1000)) hx hb hr (fun t ht hW => ⟨by rw [hfv, if_neg h15], ht⟩) (fun _ h => nomatch h) dX0_findValue_25
set_option maxHeartbeats 4000000 in
set_option maxRecDepth 100000 in
/-- bestMove -/
theorem kX0_bestMove (l : Launch) (dC : Nat → ClassId) (dI : Nat → Nat → Nat) (cI cZ cA : ClassId) (a : Nat → Nat) (n : Nat) (am : Nat) (rf : Nat) (mk : Nat) (wv : Nat → Int32) (lo : Nat → Int32) (cf : Nat → Nat) (tf : Nat → Nat) (T : Nat → Nat → Int32) (mt : Nat → Nat) (im : Nat → Int32) (x d : Nat) (hd : d < 8) (hx4 : x < 400) (hc : cf x ≤ 6) (ht : ∀ j, j < cf x → tf (x * 6 + j) < 400) : Met l yX0_bestMove wsX0_bestMove ({ frames := 2, cells := 0, slots := 0, locals := 44 }) (va_Pc [.ref (a 0), .int (nI x), .int (nI d)] (RP dC dI (GT cI cZ cA) (XW cI cZ cA a n am rf mk wv lo cf tf T mt im))) (QcRead (bm cf tf T x d)) 0 0 (fun _ => False) := by
  refine Met.ofW (cc := cX0_bestMove) (maxL := 4) (ret := (some .int)) (by decide) rfl ?_
  intro p e s m args below meth c s₁ B hml hv
  obtain ⟨rfl, hP, hK⟩ := hv
  have hx := B.exec
  have hb := B.bytes
  have hr := B.returns
  have hts := atoms_spec (ws := wsX0_bestMove) B.pre
  have hown : s.vm.findClass RX0 = some m.cls := findClass_of_methodNamed B.named
  have hlocks := B.notSynchronized
  have hf_17 := hts (.fieldLink RX0 17 "GraphSearch" "moveCounts" "[I") (by decide +kernel)
  have hf_32 := hts (.fieldLink RX0 32 "GraphSearch" "table" "[[I") (by decide +kernel)
  have hiw : ∀ w ∈ wsX00, w ∈ wsX0_bestMove := by decide +kernel
  have hl := lv_entry ([.ref (a 0), .int (nI x), .int (nI d)]) (n := 4) (Nat.le_of_ble_eq_true rfl)
  rw [lg_entry_eq]
  generalize (lg_sl ([.ref (a 0), .int (nI x), .int (nI d)]) ++ List.replicate (4 - (lg_sl ([.ref (a 0), .int (nI x), .int (nI d)])).length) Slot.unset).toArray = ls at hl ⊢
  have hl : lv_has ls 4 [(0, .ref (a 0)), (1, .int (nI x)), (2, .int (nI d))] := hl
  refine lv_iload_n hx hb dX0_bestMove_0 rfl (lv_at hl 2 rfl) ?_
  refine lv_if_ne (tgt := 6) hx hb dX0_bestMove_1 (by decide) (fun h1 => ?_) (fun h1 => ?_)
  · obtain ⟨d, rfl⟩ : ∃ k, d = k + 1 := Nat.exists_eq_succ_of_ne_zero (fun z => h1 (by rw [z]; rfl))
    refine lv_iconst (v := 0) hx hb dX0_bestMove_6 (by decide) ?_
    refine ga_is (y := nI 0) (rfl) ?_
    refine lv_istore_n (lv' := [(3, .int (nI 0)), (0, .ref (a 0)), (1, .int (nI x)), (2, .int (nI (d + 1)))]) hx hb dX0_bestMove_7 rfl hl (by decide) rfl (fun ls hl => ?_)
    have loop : ∀ (k j : Nat), j + k = cf x → ∀ ls : Array Slot, lv_has ls 4 [(3, .int (nI j)), (0, .ref (a 0)), (1, .int (nI x)), (2, .int (nI (d + 1)))] → W p l e (headSpec wsX0_bestMove (({ frames := 2, cells := 0, slots := 0, locals := 44 }) : Room)).room s m ([.ref (a 0), .int (nI x), .int (nI (d + 1))] : List Value).toArray below meth c s.heap [] 0 0 (MQ below (QcRead (fst_ (gv tf (T d) x) (T (d + 1) x) k j)) ([.ref (a 0), .int (nI x), .int (nI (d + 1))] : List Value).toArray s 0 0 (fun _ => False)) (F0 m 8 ls []) := by
      intro k
      induction k with
      | zero =>
        intro j hj ls hl
        obtain rfl : j = cf x := by omega
        refine lv_iload_n hx hb dX0_bestMove_8 rfl (lv_at hl 0 rfl) ?_
        refine lv_aload_n hx hb dX0_bestMove_9 rfl (lv_at hl 1 rfl) ?_
        refine va_get (D := (dC, dI)) (ci := 0) (v := .ref (a 3)) (C := RX0) (T := TX0) (N := 11) hx hb hts hiw hown hK hP 0 rfl rfl 2 (by decide) hf_17 (fun _ h9 => h9) rfl dX0_bestMove_10 ?_
        refine lv_iload_n hx hb dX0_bestMove_13 rfl (lv_at hl 2 rfl) ?_
        refine ga_iald hx hb hK hP 3 0 rfl rfl x (v := nI (cf x)) rfl (by omega) (by decide) dX0_bestMove_14 ?_
        refine lv_icmp_ge (tgt := 44) hx hb dX0_bestMove_15 (by decide) (fun h15 => ?_) (fun h15 => absurd (Int32.le_refl _) h15)
        refine lv_iconst (v := (-1)) hx hb dX0_bestMove_44 (by decide) ?_
        exact W.iret (v := (-1)) hx hb hr (fun t ht hW => ⟨rfl, ht⟩) (fun _ h => nomatch h) dX0_bestMove_45
      | succ k ih =>
        intro j hj ls hl
        refine lv_iload_n hx hb dX0_bestMove_8 rfl (lv_at hl 0 rfl) ?_
        refine lv_aload_n hx hb dX0_bestMove_9 rfl (lv_at hl 1 rfl) ?_
        refine va_get (D := (dC, dI)) (ci := 0) (v := .ref (a 3)) (C := RX0) (T := TX0) (N := 11) hx hb hts hiw hown hK hP 0 rfl rfl 2 (by decide) hf_17 (fun _ h9 => h9) rfl dX0_bestMove_10 ?_
        refine lv_iload_n hx hb dX0_bestMove_13 rfl (lv_at hl 2 rfl) ?_
        refine ga_iald hx hb hK hP 3 0 rfl rfl x (v := nI (cf x)) rfl (by omega) (by decide) dX0_bestMove_14 ?_
        refine lv_icmp_ge (tgt := 44) hx hb dX0_bestMove_15 (by decide) (fun h15 => absurd h15 (nI_ge (by omega) (by omega))) (fun h15 => ?_)
        refine lv_aload_n hx hb dX0_bestMove_18 rfl (lv_at hl 1 rfl) ?_
        refine lv_iload_n hx hb dX0_bestMove_19 rfl (lv_at hl 2 rfl) ?_
        refine lv_iload_n hx hb dX0_bestMove_20 rfl (lv_at hl 0 rfl) ?_
        refine lv_iload_n hx hb dX0_bestMove_21 rfl (lv_at hl 3 rfl) ?_
        refine W.callR (r := gv tf (T d) x j) (W.runV (As := [.int (nI x), .int (nI j), .int (nI (d + 1))]) (rest := []) ⟨hx, hb, hml, hown, hts⟩ (kX0_moveValue l dC dI cI cZ cA a n am rf mk wv lo cf tf T mt im x j d (by omega) (by omega) (ht j (by omega))) (cwV 3 hts gX0_bestMove_X0_moveValue rfl rfl rfl (by decide +kernel) ⟨Nat.le_of_ble_eq_true rfl, Nat.le_of_ble_eq_true rfl⟩) ⟨blindR, va_recv hK hP (ci := 0) (q0 := 0) rfl rfl, preR hP hK⟩ rfl rfl hl.1 rfl (lv_room (Nat.le_of_ble_eq_true rfl)) dX0_bestMove_22 ⟨Nat.zero_le _, Nat.zero_le _⟩) ?_
        refine W.eq (g2 := F0 m 25 ls [.int (gv tf (T d) x j)]) rfl ?_
        refine lv_aload_n hx hb dX0_bestMove_25 rfl (lv_at hl 1 rfl) ?_
        refine va_get (D := (dC, dI)) (ci := 0) (v := .ref (a 5)) (C := RX0) (T := TX0) (N := 11) hx hb hts hiw hown hK hP 0 rfl rfl 6 (by decide) hf_32 (fun _ h9 => h9) rfl dX0_bestMove_26 ?_
        refine lv_iload_n hx hb dX0_bestMove_29 rfl (lv_at hl 3 rfl) ?_
        refine ga_aald hx hb hK hP 5 2 rfl rfl (d + 1) (a (8 + (d + 1))) (if_pos (by omega)) (by omega) (by decide) dX0_bestMove_30 ?_
        refine lv_iload_n hx hb dX0_bestMove_31 rfl (lv_at hl 2 rfl) ?_
        refine ga_iald hx hb hK hP (8 + (d + 1)) 0 (XW_row (by omega)) rfl x (v := T (d + 1) x) rfl (by omega) (by decide) dX0_bestMove_32 ?_
        refine lv_icmp_ne (tgt := 38) hx hb dX0_bestMove_33 (by decide) (fun h33 => ?_) (fun h33 => ?_)
        · show W p l e _ s m _ below meth c s.heap [] 0 0 (MQ below (QcRead (if gv tf (T d) x j = T (d + 1) x then nI j else fst_ (gv tf (T d) x) (T (d + 1) x) k (j + 1))) _ s 0 0 (fun _ => False)) _
          rw [if_neg h33]
          refine lv_iinc (v := nI (j + 1)) (lv' := [(3, .int (nI (j + 1))), (0, .ref (a 0)), (1, .int (nI x)), (2, .int (nI (d + 1)))]) hx hb dX0_bestMove_38 hl (k := 0) rfl (nI_1 j) (by decide) rfl (fun ls hl => ?_)
          refine lv_goto (tgt := 8) hx hb dX0_bestMove_41 (by decide) ?_
          exact ih (j + 1) (by omega) ls (lv_sub hl [0, 1, 2, 3] rfl)
        · refine lv_iload_n hx hb dX0_bestMove_36 rfl (lv_at hl 0 rfl) ?_
          exact W.iret (v := (nI j)) hx hb hr (fun t ht hW => ⟨by rw [fst_, if_pos h33], ht⟩) (fun _ h => nomatch h) dX0_bestMove_37
    exact loop (cf x) 0 (by omega) ls (lv_sub hl [0, 1, 2, 3] rfl)
  · obtain rfl : d = 0 := (nI_eq (by omega) (by decide)).mp (h1)
    refine lv_iconst (v := (-1)) hx hb dX0_bestMove_4 (by decide) ?_
    exact W.iret (v := (-1)) hx hb hr (fun t ht hW => ⟨rfl, ht⟩) (fun _ h => nomatch h) dX0_bestMove_5
set_option maxHeartbeats 4000000 in
set_option maxRecDepth 100000 in
/-- of -/
theorem kX0_of (l : Launch) (dC : Nat → ClassId) (dI : Nat → Nat → Nat) (cI cZ cA : ClassId) (a : Nat → Nat) (n : Nat) (am : Nat) (rf : Nat) (mk : Nat) (wv : Nat → Int32) (lo : Nat → Int32) (cf : Nat → Nat) (tf : Nat → Nat) (T : Nat → Nat → Int32) (mt : Nat → Nat) (im : Nat → Int32) (x v : Int32) (hn4 : n ≤ 400) (hc : ∀ j, j < n → cf j ≤ 6) (hlo : ∀ j, lo j = 0 ∨ lo j = 1) : Met l yX0_of wsX0_of ({ frames := 2, cells := 0, slots := 0, locals := 43 }) (va_Pc [.ref (a 0), .int x, .int v] (RP dC dI (GT cI cZ cA) (XW cI cZ cA a n am rf mk wv lo cf tf T mt im))) (QcRead (off n wv lo cf tf x v)) 0 0 (fun _ => False) := by
  refine Met.ofW (cc := cX0_of) (maxL := 3) (ret := (some .int)) (by decide) rfl ?_
  intro p e s m args below meth c s₁ B hml hv
  obtain ⟨rfl, hP, hK⟩ := hv
  have hx := B.exec
  have hb := B.bytes
  have hr := B.returns
  have hts := atoms_spec (ws := wsX0_of) B.pre
  have hown : s.vm.findClass RX0 = some m.cls := findClass_of_methodNamed B.named
  have hlocks := B.notSynchronized
  have hf_9 := hts (.fieldLink RX0 9 "GraphSearch" "worths" "[I") (by decide +kernel)
  have hf_13 := hts (.fieldLink RX0 13 "GraphSearch" "losts" "[Z") (by decide +kernel)
  have hf_17 := hts (.fieldLink RX0 17 "GraphSearch" "moveCounts" "[I") (by decide +kernel)
  have hiw : ∀ w ∈ wsX00, w ∈ wsX0_of := by decide +kernel
  have hl := lv_entry ([.ref (a 0), .int x, .int v]) (n := 3) (Nat.le_of_ble_eq_true rfl)
  rw [lg_entry_eq]
  generalize (lg_sl ([.ref (a 0), .int x, .int v]) ++ List.replicate (3 - (lg_sl ([.ref (a 0), .int x, .int v])).length) Slot.unset).toArray = ls at hl ⊢
  have hl : lv_has ls 3 [(0, .ref (a 0)), (1, .int x), (2, .int v)] := hl
  refine lv_aload_n hx hb dX0_of_0 rfl (lv_at hl 0 rfl) ?_
  refine lv_iload_n hx hb dX0_of_1 rfl (lv_at hl 1 rfl) ?_
  refine W.callR (r := isn x n) (W.runV (As := [.int x]) (rest := []) ⟨hx, hb, hml, hown, hts⟩ (kX0_isNode l dC dI cI cZ cA a n am rf mk wv lo cf tf T mt im x) (cwV 1 hts gX0_of_X0_isNode rfl rfl rfl (by decide +kernel) ⟨Nat.le_of_ble_eq_true rfl, Nat.le_of_ble_eq_true rfl⟩) ⟨blindR, va_recv hK hP (ci := 0) (q0 := 0) rfl rfl, preR hP hK⟩ rfl rfl hl.1 rfl (lv_room (Nat.le_of_ble_eq_true rfl)) dX0_of_2 ⟨Nat.zero_le _, Nat.zero_le _⟩) ?_
  refine W.eq (g2 := F0 m 5 ls [.int (isn x n)]) rfl ?_
  refine lv_if_ne (tgt := 10) hx hb dX0_of_5 (by decide) (fun h5 => ?_) (fun h5 => ?_)
  · rcases isn_in (x := x) (n := n) (by omega) with ⟨i1, j, hj, rfl⟩ | ⟨i0, -⟩
    · have ho : off n wv lo cf tf (nI j) v = ofx wv lo cf tf j v := by rw [off, if_neg (by rw [i1]; decide), nI_clamp (by omega)]
      have hcj := hc j hj
      refine lv_iload_n hx hb dX0_of_10 rfl (lv_at hl 2 rfl) ?_
      rcases of_sw v with h0 | h0 | h0 | ⟨h0, h1, h2, h3⟩
      · refine lv_tableIn (tgt := 36) (off := 25) hx hb dX0_of_11 (by rw [h0]; decide +kernel) (by rw [h0]; decide +kernel) (by rw [h0]; decide +kernel) (by decide) ?_
        refine lv_aload_n hx hb dX0_of_36 rfl (lv_at hl 0 rfl) ?_
        refine va_get (D := (dC, dI)) (ci := 0) (v := .ref (a 1)) (C := RX0) (T := TX0) (N := 11) hx hb hts hiw hown hK hP 0 rfl rfl 0 (by decide) hf_9 (fun _ h9 => h9) rfl dX0_of_37 ?_
        refine lv_iload_n hx hb dX0_of_40 rfl (lv_at hl 1 rfl) ?_
        refine ga_iald hx hb hK hP 1 0 rfl rfl j (v := wv j) rfl (by omega) (by decide) dX0_of_41 ?_
        exact W.iret (v := (wv j)) hx hb hr (fun t ht hW => ⟨by rw [ho, ofx, if_pos h0], ht⟩) (fun _ h => nomatch h) dX0_of_42
      · refine lv_tableIn (tgt := 43) (off := 32) hx hb dX0_of_11 (by rw [h0]; decide +kernel) (by rw [h0]; decide +kernel) (by rw [h0]; decide +kernel) (by decide) ?_
        refine lv_aload_n hx hb dX0_of_43 rfl (lv_at hl 0 rfl) ?_
        refine va_get (D := (dC, dI)) (ci := 0) (v := .ref (a 2)) (C := RX0) (T := TX0) (N := 11) hx hb hts hiw hown hK hP 0 rfl rfl 1 (by decide) hf_13 (fun _ h9 => h9) rfl dX0_of_44 ?_
        refine lv_iload_n hx hb dX0_of_47 rfl (lv_at hl 1 rfl) ?_
        refine ga_zald hx hb hK hP 2 1 rfl rfl j (v := lo j) rfl (by omega) (by decide) dX0_of_48 ?_
        refine lv_if_eq (tgt := 56) hx hb dX0_of_49 (by decide) (fun h49 => ?_) (fun h49 => ?_)
        · refine lv_iconst (v := 0) hx hb dX0_of_56 (by decide) ?_
          exact W.iret (v := 0) hx hb hr (fun t ht hW => ⟨by rw [ho, ofx, if_neg (by rw [h0]; decide), if_pos h0, h49], ht⟩) (fun _ h => nomatch h) dX0_of_57
        · refine lv_iconst (v := 1) hx hb dX0_of_52 (by decide) ?_
          refine lv_goto (tgt := 57) hx hb dX0_of_53 (by decide) ?_
          exact W.iret (v := 1) hx hb hr (fun t ht hW => ⟨by rw [ho, ofx, if_neg (by rw [h0]; decide), if_pos h0, (hlo j).resolve_left h49], ht⟩) (fun _ h => nomatch h) dX0_of_57
      · refine lv_tableIn (tgt := 58) (off := 47) hx hb dX0_of_11 (by rw [h0]; decide +kernel) (by rw [h0]; decide +kernel) (by rw [h0]; decide +kernel) (by decide) ?_
        refine lv_aload_n hx hb dX0_of_58 rfl (lv_at hl 0 rfl) ?_
        refine va_get (D := (dC, dI)) (ci := 0) (v := .ref (a 3)) (C := RX0) (T := TX0) (N := 11) hx hb hts hiw hown hK hP 0 rfl rfl 2 (by decide) hf_17 (fun _ h9 => h9) rfl dX0_of_59 ?_
        refine lv_iload_n hx hb dX0_of_62 rfl (lv_at hl 1 rfl) ?_
        refine ga_iald hx hb hK hP 3 0 rfl rfl j (v := nI (cf j)) rfl (by omega) (by decide) dX0_of_63 ?_
        exact W.iret (v := (nI (cf j))) hx hb hr (fun t ht hW => ⟨by rw [ho, ofx, if_neg (by rw [h0]; decide), if_neg (by rw [h0]; decide), if_pos h0], ht⟩) (fun _ h => nomatch h) dX0_of_64
      · refine lv_tableOut (tgt := 65) hx hb dX0_of_11 h3 (by decide) ?_
        refine lv_aload_n hx hb dX0_of_65 rfl (lv_at hl 0 rfl) ?_
        refine lv_iload_n hx hb dX0_of_66 rfl (lv_at hl 1 rfl) ?_
        refine lv_iload_n hx hb dX0_of_67 rfl (lv_at hl 2 rfl) ?_
        refine W.callR (r := ton cf tf j v) (W.runV (As := [.int (nI j), .int v]) (rest := []) ⟨hx, hb, hml, hown, hts⟩ (kX0_targetOrNone l dC dI cI cZ cA a n am rf mk wv lo cf tf T mt im j v (by omega) hcj) (cwV 2 hts gX0_of_X0_targetOrNone rfl rfl rfl (by decide +kernel) ⟨Nat.le_of_ble_eq_true rfl, Nat.le_of_ble_eq_true rfl⟩) ⟨blindR, va_recv hK hP (ci := 0) (q0 := 0) rfl rfl, preR hP hK⟩ rfl rfl hl.1 rfl (lv_room (Nat.le_of_ble_eq_true rfl)) dX0_of_68 ⟨Nat.zero_le _, Nat.zero_le _⟩) ?_
        refine W.eq (g2 := F0 m 71 ls [.int (ton cf tf j v)]) rfl ?_
        exact W.iret (v := (ton cf tf j v)) hx hb hr (fun t ht hW => ⟨by rw [ho, ofx, if_neg h0, if_neg h1, if_neg h2], ht⟩) (fun _ h => nomatch h) dX0_of_71
    · exact absurd i0 h5
  · refine lv_iconst (v := (-1)) hx hb dX0_of_8 (by decide) ?_
    exact W.iret (v := (-1)) hx hb hr (fun t ht hW => ⟨by rw [off, if_pos h5], ht⟩) (fun _ h => nomatch h) dX0_of_9
end
section
/-- the game is in order -/
def Gok (n : Nat) (wv lo : Nat → Int32) (cf tf : Nat → Nat) : Prop := n ≤ 400 ∧ (∀ x, x < n → rg (wv x)) ∧ (∀ x, x < n → cf x ≤ 6) ∧ (∀ x, x < n → ∀ j, j < cf x → tf (x * 6 + j) < n) ∧ (∀ x, lo x = 0 ∨ lo x = 1) ∧ (∀ x, n ≤ x → cf x = 0)
theorem fv_congr {wv lo : Nat → Int32} {cf tf : Nat → Nat} {T T1 : Nat → Nat → Int32} {x d : Nat} (h : ∀ e, d = e + 1 → T1 e = T e) : fv wv lo cf tf T1 x d = fv wv lo cf tf T x d := by
  cases d with
  | zero => rfl
  | succ e => show (if cf x = 0 then _ else gm tf (T1 e) x (cf x - 1)) = (if cf x = 0 then _ else gm tf (T e) x (cf x - 1)); rw [h e rfl]
theorem fv_vv {n : Nat} {wv lo : Nat → Int32} {cf tf : Nat → Nat} (ht : ∀ x, x < n → ∀ j, j < cf x → tf (x * 6 + j) < n) {T : Nat → Nat → Int32} {x d : Nat} (hx : x < n) (h : ∀ e, d = e + 1 → ∀ y, y < n → T e y = vv wv lo cf tf e y) : fv wv lo cf tf T x d = vv wv lo cf tf d x := by
  cases d with
  | zero => rfl
  | succ e =>
    show (if cf x = 0 then _ else gm tf (T e) x (cf x - 1)) = (if cf x = 0 then _ else gm tf (vv wv lo cf tf e) x (cf x - 1))
    by_cases h0 : cf x = 0
    · rw [if_pos h0, if_pos h0]
    · rw [if_neg h0, if_neg h0]
      exact gm_congr _ (fun j hj => h e rfl _ (ht x hx j (by omega)))
set_option maxHeartbeats 4000000 in
set_option maxRecDepth 100000 in
/-- forgetTable -/
theorem kX0_forgetTable (l : Launch) (dC : Nat → ClassId) (dI : Nat → Nat → Nat) (cI cZ cA : ClassId) (a : Nat → Nat) (sz : Nat) (n : Nat) (am : Nat) (rf : Nat) (mk : Nat) (wv : Nat → Int32) (lo : Nat → Int32) (cf : Nat → Nat) (tf : Nat → Nat) (T : Nat → Nat → Int32) (mt : Nat → Nat) (im : Nat → Int32)   : Met l yX0_forgetTable wsX0_forgetTable ({ frames := 0, cells := 0, slots := 0, locals := 0 }) (va_Pc [.ref (a 0)] (WP dC dI (GT cI cZ cA) (XW cI cZ cA a n am rf mk wv lo cf tf T mt im) sz)) (va_Qv (fun _ : Unit => True) (fun _ => WQ dC dI (GT cI cZ cA) (va_A (XW cI cZ cA a n am rf mk wv lo cf tf T mt im) sz) (XW cI cZ cA a n am 0 mk wv lo cf tf T mt im)) (va_A (XW cI cZ cA a n am rf mk wv lo cf tf T mt im) sz)) 0 0 (va_A (XW cI cZ cA a n am rf mk wv lo cf tf T mt im) sz) := by
  refine Met.ofW (cc := cX0_forgetTable) (maxL := 1) (ret := none) (by decide) rfl ?_
  intro p e s m args below meth c s₁ B hml hv
  obtain ⟨rfl, hsz, hP, hK, hD0⟩ := hv
  have hx := B.exec
  have hb := B.bytes
  have hr := B.returns
  have hts := atoms_spec (ws := wsX0_forgetTable) B.pre
  have hown : s.vm.findClass RX0 = some m.cls := findClass_of_methodNamed B.named
  have hlocks := B.notSynchronized
  have hf_35 := hts (.fieldLink RX0 35 "GraphSearch" "rowsFound" "I") (by decide +kernel)
  have hiw : ∀ w ∈ wsX00, w ∈ wsX0_forgetTable := by decide +kernel
  subst hsz
  have hD := hD0.self (sz := s.heap.size)
  generalize hAe : va_A (XW cI cZ cA a n am rf mk wv lo cf tf T mt im) s.heap.size = A at hD ⊢
  have hA : ∀ q : Nat, s.heap.size ≤ q → A q := fun q h => by rw [← hAe]; exact Or.inr h
  have hS : va_S A s.heap s.heap [] := va_S.rf
  have hP : va_P (dC, dI) vwCl (XW cI cZ cA a n am rf mk wv lo cf tf T mt im) s.heap := hP
  have hl := lv_entry ([.ref (a 0)]) (n := 1) (Nat.le_of_ble_eq_true rfl)
  rw [lg_entry_eq]
  generalize (lg_sl ([.ref (a 0)]) ++ List.replicate (1 - (lg_sl ([.ref (a 0)])).length) Slot.unset).toArray = ls at hl ⊢
  have hl : lv_has ls 1 [(0, .ref (a 0))] := hl
  refine lv_aload_n hx hb dX0_forgetTable_0 rfl (lv_at hl 0 rfl) ?_
  refine lv_iconst (v := 0) hx hb dX0_forgetTable_1 (by decide) ?_
  refine ga_is (y := nI 0) (rfl) ?_
  refine va_put (D := (dC, dI)) (ci := 0) (v := .int (nI 0)) (ty := .int) (C := RX0) (T := TX0) (N := 11) hx hb hts hiw tyX0 tyX0_ok nmX0 hown hK hP hD hS 0 rfl rfl 7 (by decide) hf_35 (fun _ h9 => h9) rfl (by decide +kernel) rfl rfl (Nat.le_of_ble_eq_true rfl) dX0_forgetTable_2 (fun H locs hP hD hS => ?_)
  have hP : va_P (dC, dI) vwCl (XW cI cZ cA a n am 0 mk wv lo cf tf T mt im) H := hP
  have hD : va_D A (XW cI cZ cA a n am 0 mk wv lo cf tf T mt im) := hD
  exact W.vret hx hb hr (fun t ht hW => ⟨⟨(), rfl, trivial, by rw [ht]; exact hP, va_K.moved hW.alike hK, hD⟩, hS.F ht⟩) hS.2.2 dX0_forgetTable_5
set_option maxHeartbeats 4000000 in
set_option maxRecDepth 100000 in
/-- findRow -/
theorem kX0_findRow (l : Launch) (dC : Nat → ClassId) (dI : Nat → Nat → Nat) (cI cZ cA : ClassId) (a : Nat → Nat) (sz : Nat) (n : Nat) (am : Nat) (rf : Nat) (mk : Nat) (wv : Nat → Int32) (lo : Nat → Int32) (cf : Nat → Nat) (tf : Nat → Nat) (T : Nat → Nat → Int32) (mt : Nat → Nat) (im : Nat → Int32) (d : Nat) (hd : d < 8) (hG : Gok n wv lo cf tf) (hg : ∀ e, d = e + 1 → ∀ x, x < n → rg (T e x)) : Met l yX0_findRow wsX0_findRow ({ frames := 3, cells := 0, slots := 0, locals := 68 }) (va_Pc [.ref (a 0), .int (nI d)] (WP dC dI (GT cI cZ cA) (XW cI cZ cA a n am rf mk wv lo cf tf T mt im) sz)) (va_Qv (fun T1 : Nat → Nat → Int32 => (∀ e, e ≠ d → T1 e = T e) ∧ ∀ x, x < n → T1 d x = fv wv lo cf tf T x d) (fun T1 => WQ dC dI (GT cI cZ cA) (va_A (XW cI cZ cA a n am rf mk wv lo cf tf T mt im) sz) (XW cI cZ cA a n am rf mk wv lo cf tf T1 mt im)) (va_A (XW cI cZ cA a n am rf mk wv lo cf tf T mt im) sz)) 0 0 (va_A (XW cI cZ cA a n am rf mk wv lo cf tf T mt im) sz) := by
  refine Met.ofW (cc := cX0_findRow) (maxL := 3) (ret := none) (by decide) rfl ?_
  intro p e s m args below meth c s₁ B hml hv
  obtain ⟨rfl, hsz, hP, hK, hD0⟩ := hv
  have hx := B.exec
  have hb := B.bytes
  have hr := B.returns
  have hts := atoms_spec (ws := wsX0_findRow) B.pre
  have hown : s.vm.findClass RX0 = some m.cls := findClass_of_methodNamed B.named
  have hlocks := B.notSynchronized
  have hf_23 := hts (.fieldLink RX0 23 "GraphSearch" "nodeCount" "I") (by decide +kernel)
  have hf_32 := hts (.fieldLink RX0 32 "GraphSearch" "table" "[[I") (by decide +kernel)
  have hiw : ∀ w ∈ wsX00, w ∈ wsX0_findRow := by decide +kernel
  subst hsz
  have hD := hD0.self (sz := s.heap.size)
  generalize hAe : va_A (XW cI cZ cA a n am rf mk wv lo cf tf T mt im) s.heap.size = A at hD ⊢
  have hA : ∀ q : Nat, s.heap.size ≤ q → A q := fun q h => by rw [← hAe]; exact Or.inr h
  have hS : va_S A s.heap s.heap [] := va_S.rf
  have hP : va_P (dC, dI) vwCl (XW cI cZ cA a n am rf mk wv lo cf tf T mt im) s.heap := hP
  have hl := lv_entry ([.ref (a 0), .int (nI d)]) (n := 3) (Nat.le_of_ble_eq_true rfl)
  rw [lg_entry_eq]
  generalize (lg_sl ([.ref (a 0), .int (nI d)]) ++ List.replicate (3 - (lg_sl ([.ref (a 0), .int (nI d)])).length) Slot.unset).toArray = ls at hl ⊢
  have hl : lv_has ls 3 [(0, .ref (a 0)), (1, .int (nI d))] := hl
  obtain ⟨hn4, hwr, hc, htt, hlo, hz0⟩ := hG
  refine lv_iconst (v := 0) hx hb dX0_findRow_0 (by decide) ?_
  refine ga_is (y := nI 0) (rfl) ?_
  refine lv_istore_n (lv' := [(2, .int (nI 0)), (0, .ref (a 0)), (1, .int (nI d))]) hx hb dX0_findRow_1 rfl hl (by decide) rfl (fun ls hl => ?_)
  have loop : ∀ (k j : Nat), j + k = n → ∀ T1 : Nat → Nat → Int32, (∀ e, e ≠ d → T1 e = T e) → (∀ x, x < j → T1 d x = fv wv lo cf tf T x d) → ∀ (H : Heap) (locs : List Loc), va_P (dC, dI) vwCl (XW cI cZ cA a n am rf mk wv lo cf tf T1 mt im) H → va_D A (XW cI cZ cA a n am rf mk wv lo cf tf T1 mt im) → va_S A s.heap H locs → ∀ ls : Array Slot, lv_has ls 3 [(2, .int (nI j)), (0, .ref (a 0)), (1, .int (nI d))] → W p l e (headSpec wsX0_findRow (({ frames := 3, cells := 0, slots := 0, locals := 68 }) : Room)).room s m ([.ref (a 0), .int (nI d)] : List Value).toArray below meth c H locs 0 0 (MQ below (va_Qv (fun T1 : Nat → Nat → Int32 => (∀ e, e ≠ d → T1 e = T e) ∧ ∀ x, x < n → T1 d x = fv wv lo cf tf T x d) (fun T1 => WQ dC dI (GT cI cZ cA) A (XW cI cZ cA a n am rf mk wv lo cf tf T1 mt im)) A) ([.ref (a 0), .int (nI d)] : List Value).toArray s 0 0 A) (F0 m 2 ls []) := by
    intro k
    induction k with
    | zero =>
      intro j hj T1 h1 h2 H locs hP hD hS ls hl
      obtain rfl : j = n := by omega
      refine lv_iload_n hx hb dX0_findRow_2 rfl (lv_at hl 0 rfl) ?_
      refine lv_aload_n hx hb dX0_findRow_3 rfl (lv_at hl 1 rfl) ?_
      refine va_get (D := (dC, dI)) (ci := 0) (v := .int (nI j)) (C := RX0) (T := TX0) (N := 11) hx hb hts hiw hown hK hP 0 rfl rfl 4 (by decide) hf_23 (fun _ h9 => h9) rfl dX0_findRow_4 ?_
      refine lv_icmp_ge (tgt := 30) hx hb dX0_findRow_7 (by decide) (fun h7 => ?_) (fun h7 => absurd (Int32.le_refl _) h7)
      exact W.vret hx hb hr (fun t ht hW => ⟨⟨T1, rfl, ⟨h1, h2⟩, by rw [ht]; exact hP, va_K.moved hW.alike hK, hD⟩, hS.F ht⟩) hS.2.2 dX0_findRow_30
    | succ k ih =>
      intro j hj T1 h1 h2 H locs hP hD hS ls hl
      refine lv_iload_n hx hb dX0_findRow_2 rfl (lv_at hl 0 rfl) ?_
      refine lv_aload_n hx hb dX0_findRow_3 rfl (lv_at hl 1 rfl) ?_
      refine va_get (D := (dC, dI)) (ci := 0) (v := .int (nI n)) (C := RX0) (T := TX0) (N := 11) hx hb hts hiw hown hK hP 0 rfl rfl 4 (by decide) hf_23 (fun _ h9 => h9) rfl dX0_findRow_4 ?_
      refine lv_icmp_ge (tgt := 30) hx hb dX0_findRow_7 (by decide) (fun h7 => absurd h7 (nI_ge (by omega) (by omega))) (fun h7 => ?_)
      refine lv_aload_n hx hb dX0_findRow_10 rfl (lv_at hl 1 rfl) ?_
      refine va_get (D := (dC, dI)) (ci := 0) (v := .ref (a 5)) (C := RX0) (T := TX0) (N := 11) hx hb hts hiw hown hK hP 0 rfl rfl 6 (by decide) hf_32 (fun _ h9 => h9) rfl dX0_findRow_11 ?_
      refine lv_iload_n hx hb dX0_findRow_14 rfl (lv_at hl 2 rfl) ?_
      refine ga_aald hx hb hK hP 5 2 rfl rfl d (a (8 + d)) (if_pos (by omega)) (by omega) (by decide) dX0_findRow_15 ?_
      refine lv_iload_n hx hb dX0_findRow_16 rfl (lv_at hl 0 rfl) ?_
      refine lv_aload_n hx hb dX0_findRow_17 rfl (lv_at hl 1 rfl) ?_
      refine lv_iload_n hx hb dX0_findRow_18 rfl (lv_at hl 0 rfl) ?_
      refine lv_iload_n hx hb dX0_findRow_19 rfl (lv_at hl 2 rfl) ?_
      refine W.callR (r := fv wv lo cf tf T1 j d) (W.runV (As := [.int (nI j), .int (nI d)]) (rest := [.int (nI j), .ref (a (8 + d))]) ⟨hx, hb, hml, hown, hts⟩ (kX0_findValue l dC dI cI cZ cA a n am rf mk wv lo cf tf T1 mt im j d hd (by omega) (hc j (by omega)) (fun i hi => by have := htt j (by omega) i hi; omega) (fun e he i hi => by rw [h1 e (by omega)]; exact hg e he _ (htt j (by omega) i hi))) (cwV 2 hts gX0_findRow_X0_findValue rfl rfl rfl (by decide +kernel) ⟨Nat.le_of_ble_eq_true rfl, Nat.le_of_ble_eq_true rfl⟩) ⟨blindR, va_recv hK hP (ci := 0) (q0 := 0) rfl rfl, preR hP hK⟩ rfl rfl hl.1 rfl (lv_room (Nat.le_of_ble_eq_true rfl)) dX0_findRow_20 ⟨Nat.zero_le _, Nat.zero_le _⟩) ?_
      refine W.eq (g2 := F0 m 23 ls [.int (fv wv lo cf tf T1 j d), .int (nI j), .ref (a (8 + d))]) rfl ?_
      refine ga_iast hx hb hK hP hD hS (8 + d) 0 (XW_row (by omega)) rfl j (by omega) (by decide) rfl (ws' := XW cI cZ cA a n am rf mk wv lo cf tf (va_up T1 d (upd (T1 d) j (fv wv lo cf tf T1 j d))) mt im) XW_put dX0_findRow_23 (fun H locs hP hD hS => ?_)
      refine lv_iinc (v := nI (j + 1)) (lv' := [(2, .int (nI (j + 1))), (0, .ref (a 0)), (1, .int (nI d))]) hx hb dX0_findRow_24 hl (k := 0) rfl (nI_1 j) (by decide) rfl (fun ls hl => ?_)
      refine lv_goto (tgt := 2) hx hb dX0_findRow_27 (by decide) ?_
      refine ih (j + 1) (by omega) _ (fun e he => by rw [va_up_ne _ _ he]; exact h1 e he) (fun x hx => ?_) H locs hP hD hS ls (lv_sub hl [0, 1, 2] rfl)
      rw [va_up_self]
      unfold upd
      by_cases hxj : x = j
      · rw [if_pos hxj, hxj]; exact fv_congr (fun e he => h1 e (by omega))
      · rw [if_neg hxj]; exact h2 x (by omega)
  exact loop n 0 (by omega) T (fun _ _ => rfl) (fun x hx => absurd hx (by omega)) s.heap [] hP hD hS ls (lv_sub hl [0, 1, 2] rfl)
set_option maxHeartbeats 4000000 in
set_option maxRecDepth 100000 in
/-- deepenTo -/
theorem kX0_deepenTo (l : Launch) (dC : Nat → ClassId) (dI : Nat → Nat → Nat) (cI cZ cA : ClassId) (a : Nat → Nat) (sz : Nat) (n : Nat) (am : Nat) (rf : Nat) (mk : Nat) (wv : Nat → Int32) (lo : Nat → Int32) (cf : Nat → Nat) (tf : Nat → Nat) (T : Nat → Nat → Int32) (mt : Nat → Nat) (im : Nat → Int32) (d : Nat) (hd : d < 8) (hG : Gok n wv lo cf tf) (hrf : rf ≤ 8) (hv : ∀ e, e < rf → ∀ x, x < n → T e x = vv wv lo cf tf e x) : Met l yX0_deepenTo wsX0_deepenTo ({ frames := 4, cells := 0, slots := 0, locals := 90 }) (va_Pc [.ref (a 0), .int (nI d)] (WP dC dI (GT cI cZ cA) (XW cI cZ cA a n am rf mk wv lo cf tf T mt im) sz)) (va_Qv (fun u : Nat × (Nat → Nat → Int32) => d < u.1 ∧ u.1 ≤ 8 ∧ ∀ e, e < u.1 → ∀ x, x < n → u.2 e x = vv wv lo cf tf e x) (fun u => WQ dC dI (GT cI cZ cA) (va_A (XW cI cZ cA a n am rf mk wv lo cf tf T mt im) sz) (XW cI cZ cA a n am (u.1) mk wv lo cf tf (u.2) mt im)) (va_A (XW cI cZ cA a n am rf mk wv lo cf tf T mt im) sz)) 0 0 (va_A (XW cI cZ cA a n am rf mk wv lo cf tf T mt im) sz) := by
  refine Met.ofW (cc := cX0_deepenTo) (maxL := 2) (ret := none) (by decide) rfl ?_
  intro p e s m args below meth c s₁ B hml hv
  obtain ⟨rfl, hsz, hP, hK, hD0⟩ := hv
  have hx := B.exec
  have hb := B.bytes
  have hr := B.returns
  have hts := atoms_spec (ws := wsX0_deepenTo) B.pre
  have hown : s.vm.findClass RX0 = some m.cls := findClass_of_methodNamed B.named
  have hlocks := B.notSynchronized
  have hf_35 := hts (.fieldLink RX0 35 "GraphSearch" "rowsFound" "I") (by decide +kernel)
  have hiw : ∀ w ∈ wsX00, w ∈ wsX0_deepenTo := by decide +kernel
  subst hsz
  have hD := hD0.self (sz := s.heap.size)
  generalize hAe : va_A (XW cI cZ cA a n am rf mk wv lo cf tf T mt im) s.heap.size = A at hD ⊢
  have hA : ∀ q : Nat, s.heap.size ≤ q → A q := fun q h => by rw [← hAe]; exact Or.inr h
  have hS : va_S A s.heap s.heap [] := va_S.rf
  have hP : va_P (dC, dI) vwCl (XW cI cZ cA a n am rf mk wv lo cf tf T mt im) s.heap := hP
  have hl := lv_entry ([.ref (a 0), .int (nI d)]) (n := 2) (Nat.le_of_ble_eq_true rfl)
  rw [lg_entry_eq]
  generalize (lg_sl ([.ref (a 0), .int (nI d)]) ++ List.replicate (2 - (lg_sl ([.ref (a 0), .int (nI d)])).length) Slot.unset).toArray = ls at hl ⊢
  have hl : lv_has ls 2 [(0, .ref (a 0)), (1, .int (nI d))] := hl
  obtain ⟨hn4, hwr, hc, htt, hlo, hz0⟩ := id hG
  have loop : ∀ (k r : Nat), r + k = 9 → r ≤ 8 → ∀ T1 : Nat → Nat → Int32, (∀ e, e < r → ∀ x, x < n → T1 e x = vv wv lo cf tf e x) → ∀ (H : Heap) (locs : List Loc), va_P (dC, dI) vwCl (XW cI cZ cA a n am r mk wv lo cf tf T1 mt im) H → va_D A (XW cI cZ cA a n am r mk wv lo cf tf T1 mt im) → va_S A s.heap H locs → ∀ ls : Array Slot, lv_has ls 2 [(0, .ref (a 0)), (1, .int (nI d))] → W p l e (headSpec wsX0_deepenTo (({ frames := 4, cells := 0, slots := 0, locals := 90 }) : Room)).room s m ([.ref (a 0), .int (nI d)] : List Value).toArray below meth c H locs 0 0 (MQ below (va_Qv (fun u : Nat × (Nat → Nat → Int32) => d < u.1 ∧ u.1 ≤ 8 ∧ ∀ e, e < u.1 → ∀ x, x < n → u.2 e x = vv wv lo cf tf e x) (fun u => WQ dC dI (GT cI cZ cA) A (XW cI cZ cA a n am (u.1) mk wv lo cf tf (u.2) mt im)) A) ([.ref (a 0), .int (nI d)] : List Value).toArray s 0 0 A) (F0 m 0 ls []) := by
    intro k
    induction k with
    | zero => intro r h1 h2; exact absurd h1 (by omega)
    | succ k ih =>
      intro r hr9 hr8 T1 h1 H locs hP hD hS ls hl
      refine lv_aload_n hx hb dX0_deepenTo_0 rfl (lv_at hl 0 rfl) ?_
      refine va_get (D := (dC, dI)) (ci := 0) (v := .int (nI r)) (C := RX0) (T := TX0) (N := 11) hx hb hts hiw hown hK hP 0 rfl rfl 7 (by decide) hf_35 (fun _ h9 => h9) rfl dX0_deepenTo_1 ?_
      refine lv_iload_n hx hb dX0_deepenTo_4 rfl (lv_at hl 1 rfl) ?_
      refine lv_icmp_gt (tgt := 29) hx hb dX0_deepenTo_5 (by decide) (fun h5 => ?_) (fun h5 => ?_)
      · exact W.vret hx hb hr (fun t ht hW => ⟨⟨(r, T1), rfl, ⟨by rcases Nat.lt_or_ge d r with z | z; exact z; exact absurd h5 (nI_nlt z (by omega)), hr8, h1⟩, by rw [ht]; exact hP, va_K.moved hW.alike hK, hD⟩, hS.F ht⟩) hS.2.2 dX0_deepenTo_29
      · have hrd : r ≤ d := by rcases Nat.lt_or_ge d r with z | z; exact absurd (nI_lt z (by omega)) h5; exact z
        refine lv_aload_n hx hb dX0_deepenTo_8 rfl (lv_at hl 0 rfl) ?_
        refine lv_aload_n hx hb dX0_deepenTo_9 rfl (lv_at hl 0 rfl) ?_
        refine va_get (D := (dC, dI)) (ci := 0) (v := .int (nI r)) (C := RX0) (T := TX0) (N := 11) hx hb hts hiw hown hK hP 0 rfl rfl 7 (by decide) hf_35 (fun _ h9 => h9) rfl dX0_deepenTo_10 ?_
        have hF := freeAll hD hS hA
        refine va_callv (va_runV (As := [.int (nI r)]) (rest := []) ⟨hx, hb, hml, hown, hts⟩ (kX0_findRow l dC dI cI cZ cA a H.size n am r mk wv lo cf tf T1 mt im r (by omega) hG (fun e he x hx => by rw [h1 e (by omega) x hx]; exact vv_rg hwr htt e x hx)) (cwV 1 hts gX0_deepenTo_X0_findRow rfl rfl rfl (by decide +kernel) ⟨Nat.le_of_ble_eq_true rfl, Nat.le_of_ble_eq_true rfl⟩) ⟨blindW, va_recv hK hP (ci := 0) (q0 := 0) rfl rfl, preW hP hK hD⟩ rfl rfl hl.1 rfl (lv_room (Nat.le_of_ble_eq_true rfl)) dX0_deepenTo_13 ⟨Nat.zero_le _, Nat.zero_le _⟩) hS (fun q _ h => hF q h) hF (fun T2 tS H1 locs htS hvm hw hB hz1 hk1 hS => ?_)
        obtain ⟨hP1, hK1, hD1⟩ := hB
        rw [htS] at hP1
        have hP : va_P (dC, dI) vwCl (XW cI cZ cA a n am r mk wv lo cf tf T2 mt im) H1 := hP1
        have hD : va_D A (XW cI cZ cA a n am r mk wv lo cf tf T2 mt im) := hD1.weaken (fun _ _ _ h => hF _ h)
        generalize H1 = H at hP hS ⊢
        refine W.eq (g2 := F0 m 16 ls []) rfl ?_
        refine lv_aload_n hx hb dX0_deepenTo_16 rfl (lv_at hl 0 rfl) ?_
        refine lv_dup hx hb dX0_deepenTo_17 rfl ?_
        refine va_get (D := (dC, dI)) (ci := 0) (v := .int (nI r)) (C := RX0) (T := TX0) (N := 11) hx hb hts hiw hown hK hP 0 rfl rfl 7 (by decide) hf_35 (fun _ h9 => h9) rfl dX0_deepenTo_18 ?_
        refine lv_iconst (v := 1) hx hb dX0_deepenTo_21 (by decide) ?_
        refine lv_iadd hx hb dX0_deepenTo_22 ?_
        refine ga_is (y := nI (r + 1)) (nI_1 r) ?_
        refine va_put (D := (dC, dI)) (ci := 0) (v := .int (nI (r + 1))) (ty := .int) (C := RX0) (T := TX0) (N := 11) hx hb hts hiw tyX0 tyX0_ok nmX0 hown hK hP hD hS 0 rfl rfl 7 (by decide) hf_35 (fun _ h9 => h9) rfl (by decide +kernel) rfl rfl (Nat.le_of_ble_eq_true rfl) dX0_deepenTo_23 (fun H locs hP hD hS => ?_)
        have hP : va_P (dC, dI) vwCl (XW cI cZ cA a n am (r + 1) mk wv lo cf tf T2 mt im) H := hP
        have hD : va_D A (XW cI cZ cA a n am (r + 1) mk wv lo cf tf T2 mt im) := hD
        refine lv_goto (tgt := 0) hx hb dX0_deepenTo_26 (by decide) ?_
        refine ih (r + 1) (by omega) (by omega) T2 (fun e he x hx => ?_) H locs hP hD hS ls hl
        by_cases her : e = r
        · rw [her, hw.2 x hx]; exact fv_vv htt hx (fun e2 he2 y hy => h1 e2 (by omega) y hy)
        · rw [hw.1 e her]; exact h1 e (by omega) x hx
  exact loop (9 - rf) rf (by omega) hrf T hv s.heap [] hP hD hS ls hl
end
section
theorem isn_1 {j n : Nat} (hj : j < n) (hn : n < 2 ^ 31) : isn (nI j) n = 1 := by rw [isn, if_neg (nI_pos (by omega)), if_neg (nI_ge hj hn)]
set_option maxHeartbeats 4000000 in
set_option maxRecDepth 100000 in
/-- drop, no such node -/
theorem kX0_drop_n (l : Launch) (dC : Nat → ClassId) (dI : Nat → Nat → Nat) (cI cZ cA : ClassId) (a : Nat → Nat) (n : Nat) (am : Nat) (rf : Nat) (mk : Nat) (wv : Nat → Int32) (lo : Nat → Int32) (cf : Nat → Nat) (tf : Nat → Nat) (T : Nat → Nat → Int32) (mt : Nat → Nat) (im : Nat → Int32) (x : Int32) (hn4 : n ≤ 400) (hno : isn x n = 0) : Met l yX0_drop wsX0_drop ({ frames := 1, cells := 0, slots := 0, locals := 21 }) (va_Pc [.ref (a 0), .int x] (RP dC dI (GT cI cZ cA) (XW cI cZ cA a n am rf mk wv lo cf tf T mt im))) (QcRead 0) 0 0 (fun _ => False) := by
  refine Met.ofW (cc := cX0_drop) (maxL := 2) (ret := (some .boolean)) (by decide) rfl ?_
  intro p e s m args below meth c s₁ B hml hv
  obtain ⟨rfl, hP, hK⟩ := hv
  have hx := B.exec
  have hb := B.bytes
  have hr := B.returns
  have hts := atoms_spec (ws := wsX0_drop) B.pre
  have hown : s.vm.findClass RX0 = some m.cls := findClass_of_methodNamed B.named
  have hlocks := B.notSynchronized
  have hf_17 := hts (.fieldLink RX0 17 "GraphSearch" "moveCounts" "[I") (by decide +kernel)
  have hf_27 := hts (.fieldLink RX0 27 "GraphSearch" "allMoves" "I") (by decide +kernel)
  have hiw : ∀ w ∈ wsX00, w ∈ wsX0_drop := by decide +kernel
  have hl := lv_entry ([.ref (a 0), .int x]) (n := 2) (Nat.le_of_ble_eq_true rfl)
  rw [lg_entry_eq]
  generalize (lg_sl ([.ref (a 0), .int x]) ++ List.replicate (2 - (lg_sl ([.ref (a 0), .int x])).length) Slot.unset).toArray = ls at hl ⊢
  have hl : lv_has ls 2 [(0, .ref (a 0)), (1, .int x)] := hl
  refine lv_aload_n hx hb dX0_drop_0 rfl (lv_at hl 0 rfl) ?_
  refine lv_iload_n hx hb dX0_drop_1 rfl (lv_at hl 1 rfl) ?_
  refine W.callR (r := isn x n) (W.runV (As := [.int x]) (rest := []) ⟨hx, hb, hml, hown, hts⟩ (kX0_isNode l dC dI cI cZ cA a n am rf mk wv lo cf tf T mt im x) (cwV 1 hts gX0_drop_X0_isNode rfl rfl rfl (by decide +kernel) ⟨Nat.le_of_ble_eq_true rfl, Nat.le_of_ble_eq_true rfl⟩) ⟨blindR, va_recv hK hP (ci := 0) (q0 := 0) rfl rfl, preR hP hK⟩ rfl rfl hl.1 rfl (lv_room (Nat.le_of_ble_eq_true rfl)) dX0_drop_2 ⟨Nat.zero_le _, Nat.zero_le _⟩) ?_
  refine W.eq (g2 := F0 m 5 ls [.int (isn x n)]) rfl ?_
  refine lv_if_eq (tgt := 17) hx hb dX0_drop_5 (by decide) (fun h5 => ?_) (fun h5 => absurd hno h5)
  refine lv_iconst (v := 0) hx hb dX0_drop_17 (by decide) ?_
  exact W.zret (v := 0) hx hb hr (by decide) (fun t ht hW => ⟨rfl, ht⟩) (fun _ h => nomatch h) dX0_drop_18
set_option maxHeartbeats 4000000 in
set_option maxRecDepth 100000 in
/-- drop, a node without moves -/
theorem kX0_drop_z (l : Launch) (dC : Nat → ClassId) (dI : Nat → Nat → Nat) (cI cZ cA : ClassId) (a : Nat → Nat) (n : Nat) (am : Nat) (rf : Nat) (mk : Nat) (wv : Nat → Int32) (lo : Nat → Int32) (cf : Nat → Nat) (tf : Nat → Nat) (T : Nat → Nat → Int32) (mt : Nat → Nat) (im : Nat → Int32) (j : Nat) (hn4 : n ≤ 400) (hj : j < n) (hc : cf j = 0) : Met l yX0_drop wsX0_drop ({ frames := 1, cells := 0, slots := 0, locals := 21 }) (va_Pc [.ref (a 0), .int (nI j)] (RP dC dI (GT cI cZ cA) (XW cI cZ cA a n am rf mk wv lo cf tf T mt im))) (QcRead 0) 0 0 (fun _ => False) := by
  refine Met.ofW (cc := cX0_drop) (maxL := 2) (ret := (some .boolean)) (by decide) rfl ?_
  intro p e s m args below meth c s₁ B hml hv
  obtain ⟨rfl, hP, hK⟩ := hv
  have hx := B.exec
  have hb := B.bytes
  have hr := B.returns
  have hts := atoms_spec (ws := wsX0_drop) B.pre
  have hown : s.vm.findClass RX0 = some m.cls := findClass_of_methodNamed B.named
  have hlocks := B.notSynchronized
  have hf_17 := hts (.fieldLink RX0 17 "GraphSearch" "moveCounts" "[I") (by decide +kernel)
  have hf_27 := hts (.fieldLink RX0 27 "GraphSearch" "allMoves" "I") (by decide +kernel)
  have hiw : ∀ w ∈ wsX00, w ∈ wsX0_drop := by decide +kernel
  have hl := lv_entry ([.ref (a 0), .int (nI j)]) (n := 2) (Nat.le_of_ble_eq_true rfl)
  rw [lg_entry_eq]
  generalize (lg_sl ([.ref (a 0), .int (nI j)]) ++ List.replicate (2 - (lg_sl ([.ref (a 0), .int (nI j)])).length) Slot.unset).toArray = ls at hl ⊢
  have hl : lv_has ls 2 [(0, .ref (a 0)), (1, .int (nI j))] := hl
  refine lv_aload_n hx hb dX0_drop_0 rfl (lv_at hl 0 rfl) ?_
  refine lv_iload_n hx hb dX0_drop_1 rfl (lv_at hl 1 rfl) ?_
  refine W.callR (r := isn (nI j) n) (W.runV (As := [.int (nI j)]) (rest := []) ⟨hx, hb, hml, hown, hts⟩ (kX0_isNode l dC dI cI cZ cA a n am rf mk wv lo cf tf T mt im (nI j)) (cwV 1 hts gX0_drop_X0_isNode rfl rfl rfl (by decide +kernel) ⟨Nat.le_of_ble_eq_true rfl, Nat.le_of_ble_eq_true rfl⟩) ⟨blindR, va_recv hK hP (ci := 0) (q0 := 0) rfl rfl, preR hP hK⟩ rfl rfl hl.1 rfl (lv_room (Nat.le_of_ble_eq_true rfl)) dX0_drop_2 ⟨Nat.zero_le _, Nat.zero_le _⟩) ?_
  refine W.eq (g2 := F0 m 5 ls [.int (isn (nI j) n)]) rfl ?_
  refine lv_if_eq (tgt := 17) hx hb dX0_drop_5 (by decide) (fun h5 => absurd h5 (by rw [isn_1 hj (by omega)]; decide)) (fun h5 => ?_)
  refine lv_aload_n hx hb dX0_drop_8 rfl (lv_at hl 0 rfl) ?_
  refine va_get (D := (dC, dI)) (ci := 0) (v := .ref (a 3)) (C := RX0) (T := TX0) (N := 11) hx hb hts hiw hown hK hP 0 rfl rfl 2 (by decide) hf_17 (fun _ h9 => h9) rfl dX0_drop_9 ?_
  refine lv_iload_n hx hb dX0_drop_12 rfl (lv_at hl 1 rfl) ?_
  refine ga_iald hx hb hK hP 3 0 rfl rfl j (v := nI (cf j)) rfl (by omega) (by decide) dX0_drop_13 ?_
  refine lv_if_ne (tgt := 19) hx hb dX0_drop_14 (by decide) (fun h14 => absurd (show nI (cf j) = 0 by rw [hc]; rfl) h14) (fun h14 => ?_)
  refine lv_iconst (v := 0) hx hb dX0_drop_17 (by decide) ?_
  exact W.zret (v := 0) hx hb hr (by decide) (fun t ht hW => ⟨rfl, ht⟩) (fun _ h => nomatch h) dX0_drop_18
set_option maxHeartbeats 4000000 in
set_option maxRecDepth 100000 in
/-- drop -/
theorem kX0_drop (l : Launch) (dC : Nat → ClassId) (dI : Nat → Nat → Nat) (cI cZ cA : ClassId) (a : Nat → Nat) (sz : Nat) (n : Nat) (am : Nat) (rf : Nat) (mk : Nat) (wv : Nat → Int32) (lo : Nat → Int32) (cf : Nat → Nat) (tf : Nat → Nat) (T : Nat → Nat → Int32) (mt : Nat → Nat) (im : Nat → Int32) (j c0 : Nat) (hn4 : n ≤ 400) (hj : j < n) (hc : cf j = c0 + 1) (hc6 : c0 < 6) (ham : 0 < am) : Met l yX0_drop wsX0_drop ({ frames := 1, cells := 0, slots := 0, locals := 21 }) (va_Pc [.ref (a 0), .int (nI j)] (WP dC dI (GT cI cZ cA) (XW cI cZ cA a n am rf mk wv lo cf tf T mt im) sz)) (va_Qi (fun r (_ : Unit) => r = 1) (fun (_ : Unit) => WQ dC dI (GT cI cZ cA) (va_A (XW cI cZ cA a n am rf mk wv lo cf tf T mt im) sz) (XW cI cZ cA a n (am - 1) 0 mk wv lo (va_up cf j c0) tf T mt im)) (va_A (XW cI cZ cA a n am rf mk wv lo cf tf T mt im) sz)) 0 0 (va_A (XW cI cZ cA a n am rf mk wv lo cf tf T mt im) sz) := by
  refine Met.ofW (cc := cX0_drop) (maxL := 2) (ret := (some .boolean)) (by decide) rfl ?_
  intro p e s m args below meth c s₁ B hml hv
  obtain ⟨rfl, hsz, hP, hK, hD0⟩ := hv
  have hx := B.exec
  have hb := B.bytes
  have hr := B.returns
  have hts := atoms_spec (ws := wsX0_drop) B.pre
  have hown : s.vm.findClass RX0 = some m.cls := findClass_of_methodNamed B.named
  have hlocks := B.notSynchronized
  have hf_17 := hts (.fieldLink RX0 17 "GraphSearch" "moveCounts" "[I") (by decide +kernel)
  have hf_27 := hts (.fieldLink RX0 27 "GraphSearch" "allMoves" "I") (by decide +kernel)
  have hiw : ∀ w ∈ wsX00, w ∈ wsX0_drop := by decide +kernel
  subst hsz
  have hD := hD0.self (sz := s.heap.size)
  generalize hAe : va_A (XW cI cZ cA a n am rf mk wv lo cf tf T mt im) s.heap.size = A at hD ⊢
  have hA : ∀ q : Nat, s.heap.size ≤ q → A q := fun q h => by rw [← hAe]; exact Or.inr h
  have hS : va_S A s.heap s.heap [] := va_S.rf
  have hP : va_P (dC, dI) vwCl (XW cI cZ cA a n am rf mk wv lo cf tf T mt im) s.heap := hP
  have hl := lv_entry ([.ref (a 0), .int (nI j)]) (n := 2) (Nat.le_of_ble_eq_true rfl)
  rw [lg_entry_eq]
  generalize (lg_sl ([.ref (a 0), .int (nI j)]) ++ List.replicate (2 - (lg_sl ([.ref (a 0), .int (nI j)])).length) Slot.unset).toArray = ls at hl ⊢
  have hl : lv_has ls 2 [(0, .ref (a 0)), (1, .int (nI j))] := hl
  refine lv_aload_n hx hb dX0_drop_0 rfl (lv_at hl 0 rfl) ?_
  refine lv_iload_n hx hb dX0_drop_1 rfl (lv_at hl 1 rfl) ?_
  refine W.callR (r := isn (nI j) n) (W.runV (As := [.int (nI j)]) (rest := []) ⟨hx, hb, hml, hown, hts⟩ (kX0_isNode l dC dI cI cZ cA a n am rf mk wv lo cf tf T mt im (nI j)) (cwV 1 hts gX0_drop_X0_isNode rfl rfl rfl (by decide +kernel) ⟨Nat.le_of_ble_eq_true rfl, Nat.le_of_ble_eq_true rfl⟩) ⟨blindR, va_recv hK hP (ci := 0) (q0 := 0) rfl rfl, preR hP hK⟩ rfl rfl hl.1 rfl (lv_room (Nat.le_of_ble_eq_true rfl)) dX0_drop_2 ⟨Nat.zero_le _, Nat.zero_le _⟩) ?_
  refine W.eq (g2 := F0 m 5 ls [.int (isn (nI j) n)]) rfl ?_
  refine lv_if_eq (tgt := 17) hx hb dX0_drop_5 (by decide) (fun h5 => absurd h5 (by rw [isn_1 hj (by omega)]; decide)) (fun h5 => ?_)
  refine lv_aload_n hx hb dX0_drop_8 rfl (lv_at hl 0 rfl) ?_
  refine va_get (D := (dC, dI)) (ci := 0) (v := .ref (a 3)) (C := RX0) (T := TX0) (N := 11) hx hb hts hiw hown hK hP 0 rfl rfl 2 (by decide) hf_17 (fun _ h9 => h9) rfl dX0_drop_9 ?_
  refine lv_iload_n hx hb dX0_drop_12 rfl (lv_at hl 1 rfl) ?_
  refine ga_iald hx hb hK hP 3 0 rfl rfl j (v := nI (cf j)) rfl (by omega) (by decide) dX0_drop_13 ?_
  refine lv_if_ne (tgt := 19) hx hb dX0_drop_14 (by decide) (fun h14 => ?_) (fun h14 => absurd h14 (by rw [hc]; exact nI_ne0 (by omega) (by omega)))
  refine lv_aload_n hx hb dX0_drop_19 rfl (lv_at hl 0 rfl) ?_
  refine va_get (D := (dC, dI)) (ci := 0) (v := .ref (a 3)) (C := RX0) (T := TX0) (N := 11) hx hb hts hiw hown hK hP 0 rfl rfl 2 (by decide) hf_17 (fun _ h9 => h9) rfl dX0_drop_20 ?_
  refine lv_iload_n hx hb dX0_drop_23 rfl (lv_at hl 1 rfl) ?_
  refine lv_dup2_11 hx hb dX0_drop_24 rfl rfl ?_
  refine ga_iald hx hb hK hP 3 0 rfl rfl j (v := nI (cf j)) rfl (by omega) (by decide) dX0_drop_25 ?_
  refine lv_iconst (v := 1) hx hb dX0_drop_26 (by decide) ?_
  refine lv_isub hx hb dX0_drop_27 ?_
  refine ga_is (y := nI c0) (by rw [hc]; exact nI_pred c0) ?_
  refine ga_iast hx hb hK hP hD hS 3 0 rfl rfl j (by omega) (by decide) (upd_nI _ _ c0) (ws' := XW cI cZ cA a n am rf mk wv lo (va_up cf j c0) tf T mt im) rfl dX0_drop_28 (fun H locs hP hD hS => ?_)
  refine lv_aload_n hx hb dX0_drop_29 rfl (lv_at hl 0 rfl) ?_
  refine lv_dup hx hb dX0_drop_30 rfl ?_
  refine va_get (D := (dC, dI)) (ci := 0) (v := .int (nI am)) (C := RX0) (T := TX0) (N := 11) hx hb hts hiw hown hK hP 0 rfl rfl 5 (by decide) hf_27 (fun _ h9 => h9) rfl dX0_drop_31 ?_
  refine lv_iconst (v := 1) hx hb dX0_drop_34 (by decide) ?_
  refine lv_isub hx hb dX0_drop_35 ?_
  refine ga_is (y := nI (am - 1)) (by rw [show (1 : Int32) = nI 1 from rfl, pk_sub (by omega)]) ?_
  refine va_put (D := (dC, dI)) (ci := 0) (v := .int (nI (am - 1))) (ty := .int) (C := RX0) (T := TX0) (N := 11) hx hb hts hiw tyX0 tyX0_ok nmX0 hown hK hP hD hS 0 rfl rfl 5 (by decide) hf_27 (fun _ h9 => h9) rfl (by decide +kernel) rfl rfl (Nat.le_of_ble_eq_true rfl) dX0_drop_36 (fun H locs hP hD hS => ?_)
  have hP : va_P (dC, dI) vwCl (XW cI cZ cA a n (am - 1) rf mk wv lo (va_up cf j c0) tf T mt im) H := hP
  have hD : va_D A (XW cI cZ cA a n (am - 1) rf mk wv lo (va_up cf j c0) tf T mt im) := hD
  refine lv_aload_n hx hb dX0_drop_39 rfl (lv_at hl 0 rfl) ?_
  have hF := freeAll hD hS hA
  refine va_callv (va_runV (As := []) (rest := []) ⟨hx, hb, hml, hown, hts⟩ (kX0_forgetTable l dC dI cI cZ cA a H.size n (am - 1) rf mk wv lo (va_up cf j c0) tf T mt im) (cwV 0 hts gX0_drop_X0_forgetTable rfl rfl rfl (by decide +kernel) ⟨Nat.le_of_ble_eq_true rfl, Nat.le_of_ble_eq_true rfl⟩) ⟨blindW, va_recv hK hP (ci := 0) (q0 := 0) rfl rfl, preW hP hK hD⟩ rfl rfl hl.1 rfl (lv_room (Nat.le_of_ble_eq_true rfl)) dX0_drop_40 ⟨Nat.zero_le _, Nat.zero_le _⟩) hS (fun q _ h => hF q h) hF (fun _u tS H1 locs htS hvm hw hB hz1 hk1 hS => ?_)
  obtain ⟨hP1, hK1, hD1⟩ := hB
  rw [htS] at hP1
  have hP : va_P (dC, dI) vwCl (XW cI cZ cA a n (am - 1) 0 mk wv lo (va_up cf j c0) tf T mt im) H1 := hP1
  have hD : va_D A (XW cI cZ cA a n (am - 1) 0 mk wv lo (va_up cf j c0) tf T mt im) := hD1.weaken (fun _ _ _ h => hF _ h)
  generalize H1 = H at hP hS ⊢
  refine W.eq (g2 := F0 m 43 ls []) rfl ?_
  refine lv_iconst (v := 1) hx hb dX0_drop_43 (by decide) ?_
  exact W.zret (v := 1) hx hb hr (by decide) (fun t ht hW => ⟨⟨1, (), rfl, rfl, by rw [ht]; exact hP, va_K.moved hW.alike hK, hD⟩, hS.F ht⟩) hS.2.2 dX0_drop_44
set_option maxHeartbeats 4000000 in
set_option maxRecDepth 100000 in
/-- change, no such node -/
theorem kX0_change_n (l : Launch) (dC : Nat → ClassId) (dI : Nat → Nat → Nat) (cI cZ cA : ClassId) (a : Nat → Nat) (n : Nat) (am : Nat) (rf : Nat) (mk : Nat) (wv : Nat → Int32) (lo : Nat → Int32) (cf : Nat → Nat) (tf : Nat → Nat) (T : Nat → Nat → Int32) (mt : Nat → Nat) (im : Nat → Int32) (x v b : Int32) (hn4 : n ≤ 400) (hno : isn x n = 0) : Met l yX0_change wsX0_change ({ frames := 1, cells := 0, slots := 0, locals := 21 }) (va_Pc [.ref (a 0), .int x, .int v, .int b] (RP dC dI (GT cI cZ cA) (XW cI cZ cA a n am rf mk wv lo cf tf T mt im))) (QcRead 0) 0 0 (fun _ => False) := by
  refine Met.ofW (cc := cX0_change) (maxL := 4) (ret := (some .boolean)) (by decide) rfl ?_
  intro p e s m args below meth c s₁ B hml hv
  obtain ⟨rfl, hP, hK⟩ := hv
  have hx := B.exec
  have hb := B.bytes
  have hr := B.returns
  have hts := atoms_spec (ws := wsX0_change) B.pre
  have hown : s.vm.findClass RX0 = some m.cls := findClass_of_methodNamed B.named
  have hlocks := B.notSynchronized
  have hf_9 := hts (.fieldLink RX0 9 "GraphSearch" "worths" "[I") (by decide +kernel)
  have hf_13 := hts (.fieldLink RX0 13 "GraphSearch" "losts" "[Z") (by decide +kernel)
  have hiw : ∀ w ∈ wsX00, w ∈ wsX0_change := by decide +kernel
  have hl := lv_entry ([.ref (a 0), .int x, .int v, .int b]) (n := 4) (Nat.le_of_ble_eq_true rfl)
  rw [lg_entry_eq]
  generalize (lg_sl ([.ref (a 0), .int x, .int v, .int b]) ++ List.replicate (4 - (lg_sl ([.ref (a 0), .int x, .int v, .int b])).length) Slot.unset).toArray = ls at hl ⊢
  have hl : lv_has ls 4 [(0, .ref (a 0)), (1, .int x), (2, .int v), (3, .int b)] := hl
  refine lv_aload_n hx hb dX0_change_0 rfl (lv_at hl 0 rfl) ?_
  refine lv_iload_n hx hb dX0_change_1 rfl (lv_at hl 1 rfl) ?_
  refine W.callR (r := isn x n) (W.runV (As := [.int x]) (rest := []) ⟨hx, hb, hml, hown, hts⟩ (kX0_isNode l dC dI cI cZ cA a n am rf mk wv lo cf tf T mt im x) (cwV 1 hts gX0_change_X0_isNode rfl rfl rfl (by decide +kernel) ⟨Nat.le_of_ble_eq_true rfl, Nat.le_of_ble_eq_true rfl⟩) ⟨blindR, va_recv hK hP (ci := 0) (q0 := 0) rfl rfl, preR hP hK⟩ rfl rfl hl.1 rfl (lv_room (Nat.le_of_ble_eq_true rfl)) dX0_change_2 ⟨Nat.zero_le _, Nat.zero_le _⟩) ?_
  refine W.eq (g2 := F0 m 5 ls [.int (isn x n)]) rfl ?_
  refine lv_if_eq (tgt := 15) hx hb dX0_change_5 (by decide) (fun h5 => ?_) (fun h5 => absurd hno h5)
  refine lv_iconst (v := 0) hx hb dX0_change_15 (by decide) ?_
  exact W.zret (v := 0) hx hb hr (by decide) (fun t ht hW => ⟨rfl, ht⟩) (fun _ h => nomatch h) dX0_change_16
set_option maxHeartbeats 4000000 in
set_option maxRecDepth 100000 in
/-- change, a wrong worth -/
theorem kX0_change_w (l : Launch) (dC : Nat → ClassId) (dI : Nat → Nat → Nat) (cI cZ cA : ClassId) (a : Nat → Nat) (n : Nat) (am : Nat) (rf : Nat) (mk : Nat) (wv : Nat → Int32) (lo : Nat → Int32) (cf : Nat → Nat) (tf : Nat → Nat) (T : Nat → Nat → Int32) (mt : Nat → Nat) (im : Nat → Int32) (j : Nat) (v b : Int32) (hn4 : n ≤ 400) (hj : j < n) (hno : iw v = 0) : Met l yX0_change wsX0_change ({ frames := 1, cells := 0, slots := 0, locals := 21 }) (va_Pc [.ref (a 0), .int (nI j), .int v, .int b] (RP dC dI (GT cI cZ cA) (XW cI cZ cA a n am rf mk wv lo cf tf T mt im))) (QcRead 0) 0 0 (fun _ => False) := by
  refine Met.ofW (cc := cX0_change) (maxL := 4) (ret := (some .boolean)) (by decide) rfl ?_
  intro p e s m args below meth c s₁ B hml hv
  obtain ⟨rfl, hP, hK⟩ := hv
  have hx := B.exec
  have hb := B.bytes
  have hr := B.returns
  have hts := atoms_spec (ws := wsX0_change) B.pre
  have hown : s.vm.findClass RX0 = some m.cls := findClass_of_methodNamed B.named
  have hlocks := B.notSynchronized
  have hf_9 := hts (.fieldLink RX0 9 "GraphSearch" "worths" "[I") (by decide +kernel)
  have hf_13 := hts (.fieldLink RX0 13 "GraphSearch" "losts" "[Z") (by decide +kernel)
  have hiw : ∀ w ∈ wsX00, w ∈ wsX0_change := by decide +kernel
  have hl := lv_entry ([.ref (a 0), .int (nI j), .int v, .int b]) (n := 4) (Nat.le_of_ble_eq_true rfl)
  rw [lg_entry_eq]
  generalize (lg_sl ([.ref (a 0), .int (nI j), .int v, .int b]) ++ List.replicate (4 - (lg_sl ([.ref (a 0), .int (nI j), .int v, .int b])).length) Slot.unset).toArray = ls at hl ⊢
  have hl : lv_has ls 4 [(0, .ref (a 0)), (1, .int (nI j)), (2, .int v), (3, .int b)] := hl
  refine lv_aload_n hx hb dX0_change_0 rfl (lv_at hl 0 rfl) ?_
  refine lv_iload_n hx hb dX0_change_1 rfl (lv_at hl 1 rfl) ?_
  refine W.callR (r := isn (nI j) n) (W.runV (As := [.int (nI j)]) (rest := []) ⟨hx, hb, hml, hown, hts⟩ (kX0_isNode l dC dI cI cZ cA a n am rf mk wv lo cf tf T mt im (nI j)) (cwV 1 hts gX0_change_X0_isNode rfl rfl rfl (by decide +kernel) ⟨Nat.le_of_ble_eq_true rfl, Nat.le_of_ble_eq_true rfl⟩) ⟨blindR, va_recv hK hP (ci := 0) (q0 := 0) rfl rfl, preR hP hK⟩ rfl rfl hl.1 rfl (lv_room (Nat.le_of_ble_eq_true rfl)) dX0_change_2 ⟨Nat.zero_le _, Nat.zero_le _⟩) ?_
  refine W.eq (g2 := F0 m 5 ls [.int (isn (nI j) n)]) rfl ?_
  refine lv_if_eq (tgt := 15) hx hb dX0_change_5 (by decide) (fun h5 => absurd h5 (by rw [isn_1 hj (by omega)]; decide)) (fun h5 => ?_)
  refine lv_iload_n hx hb dX0_change_8 rfl (lv_at hl 2 rfl) ?_
  refine W.callR (r := iw v) (W.runS (As := [.int v]) (rest := []) ⟨hx, hb, hml, hown, hts⟩ (kX0_isWorth l v) (va_cwS 1 hts gX0_change_X0_isWorth rfl rfl rfl (by decide +kernel) ⟨Nat.le_of_ble_eq_true rfl, Nat.le_of_ble_eq_true rfl⟩) ⟨blindT, fun _ _ _ => ⟨rfl, trivial⟩⟩ rfl rfl hl.1 rfl (lv_room (Nat.le_of_ble_eq_true rfl)) dX0_change_9 ⟨Nat.zero_le _, Nat.zero_le _⟩) ?_
  refine W.eq (g2 := F0 m 12 ls [.int (iw v)]) rfl ?_
  refine lv_if_ne (tgt := 17) hx hb dX0_change_12 (by decide) (fun h12 => absurd hno h12) (fun h12 => ?_)
  refine lv_iconst (v := 0) hx hb dX0_change_15 (by decide) ?_
  exact W.zret (v := 0) hx hb hr (by decide) (fun t ht hW => ⟨rfl, ht⟩) (fun _ h => nomatch h) dX0_change_16
set_option maxHeartbeats 4000000 in
set_option maxRecDepth 100000 in
/-- change -/
theorem kX0_change (l : Launch) (dC : Nat → ClassId) (dI : Nat → Nat → Nat) (cI cZ cA : ClassId) (a : Nat → Nat) (sz : Nat) (n : Nat) (am : Nat) (rf : Nat) (mk : Nat) (wv : Nat → Int32) (lo : Nat → Int32) (cf : Nat → Nat) (tf : Nat → Nat) (T : Nat → Nat → Int32) (mt : Nat → Nat) (im : Nat → Int32) (j : Nat) (v b : Int32) (hn4 : n ≤ 400) (hj : j < n) (hv : iw v = 1) (hz : b = 0 ∨ b = 1) : Met l yX0_change wsX0_change ({ frames := 1, cells := 0, slots := 0, locals := 21 }) (va_Pc [.ref (a 0), .int (nI j), .int v, .int b] (WP dC dI (GT cI cZ cA) (XW cI cZ cA a n am rf mk wv lo cf tf T mt im) sz)) (va_Qi (fun r (_ : Unit) => r = 1) (fun (_ : Unit) => WQ dC dI (GT cI cZ cA) (va_A (XW cI cZ cA a n am rf mk wv lo cf tf T mt im) sz) (XW cI cZ cA a n am 0 mk (upd wv j v) (upd lo j b) cf tf T mt im)) (va_A (XW cI cZ cA a n am rf mk wv lo cf tf T mt im) sz)) 0 0 (va_A (XW cI cZ cA a n am rf mk wv lo cf tf T mt im) sz) := by
  refine Met.ofW (cc := cX0_change) (maxL := 4) (ret := (some .boolean)) (by decide) rfl ?_
  intro p e s m args below meth c s₁ B hml hv
  obtain ⟨rfl, hsz, hP, hK, hD0⟩ := hv
  have hx := B.exec
  have hb := B.bytes
  have hr := B.returns
  have hts := atoms_spec (ws := wsX0_change) B.pre
  have hown : s.vm.findClass RX0 = some m.cls := findClass_of_methodNamed B.named
  have hlocks := B.notSynchronized
  have hf_9 := hts (.fieldLink RX0 9 "GraphSearch" "worths" "[I") (by decide +kernel)
  have hf_13 := hts (.fieldLink RX0 13 "GraphSearch" "losts" "[Z") (by decide +kernel)
  have hiw : ∀ w ∈ wsX00, w ∈ wsX0_change := by decide +kernel
  subst hsz
  have hD := hD0.self (sz := s.heap.size)
  generalize hAe : va_A (XW cI cZ cA a n am rf mk wv lo cf tf T mt im) s.heap.size = A at hD ⊢
  have hA : ∀ q : Nat, s.heap.size ≤ q → A q := fun q h => by rw [← hAe]; exact Or.inr h
  have hS : va_S A s.heap s.heap [] := va_S.rf
  have hP : va_P (dC, dI) vwCl (XW cI cZ cA a n am rf mk wv lo cf tf T mt im) s.heap := hP
  have hl := lv_entry ([.ref (a 0), .int (nI j), .int v, .int b]) (n := 4) (Nat.le_of_ble_eq_true rfl)
  rw [lg_entry_eq]
  generalize (lg_sl ([.ref (a 0), .int (nI j), .int v, .int b]) ++ List.replicate (4 - (lg_sl ([.ref (a 0), .int (nI j), .int v, .int b])).length) Slot.unset).toArray = ls at hl ⊢
  have hl : lv_has ls 4 [(0, .ref (a 0)), (1, .int (nI j)), (2, .int v), (3, .int b)] := hl
  refine lv_aload_n hx hb dX0_change_0 rfl (lv_at hl 0 rfl) ?_
  refine lv_iload_n hx hb dX0_change_1 rfl (lv_at hl 1 rfl) ?_
  refine W.callR (r := isn (nI j) n) (W.runV (As := [.int (nI j)]) (rest := []) ⟨hx, hb, hml, hown, hts⟩ (kX0_isNode l dC dI cI cZ cA a n am rf mk wv lo cf tf T mt im (nI j)) (cwV 1 hts gX0_change_X0_isNode rfl rfl rfl (by decide +kernel) ⟨Nat.le_of_ble_eq_true rfl, Nat.le_of_ble_eq_true rfl⟩) ⟨blindR, va_recv hK hP (ci := 0) (q0 := 0) rfl rfl, preR hP hK⟩ rfl rfl hl.1 rfl (lv_room (Nat.le_of_ble_eq_true rfl)) dX0_change_2 ⟨Nat.zero_le _, Nat.zero_le _⟩) ?_
  refine W.eq (g2 := F0 m 5 ls [.int (isn (nI j) n)]) rfl ?_
  refine lv_if_eq (tgt := 15) hx hb dX0_change_5 (by decide) (fun h5 => absurd h5 (by rw [isn_1 hj (by omega)]; decide)) (fun h5 => ?_)
  refine lv_iload_n hx hb dX0_change_8 rfl (lv_at hl 2 rfl) ?_
  refine W.callR (r := iw v) (W.runS (As := [.int v]) (rest := []) ⟨hx, hb, hml, hown, hts⟩ (kX0_isWorth l v) (va_cwS 1 hts gX0_change_X0_isWorth rfl rfl rfl (by decide +kernel) ⟨Nat.le_of_ble_eq_true rfl, Nat.le_of_ble_eq_true rfl⟩) ⟨blindT, fun _ _ _ => ⟨rfl, trivial⟩⟩ rfl rfl hl.1 rfl (lv_room (Nat.le_of_ble_eq_true rfl)) dX0_change_9 ⟨Nat.zero_le _, Nat.zero_le _⟩) ?_
  refine W.eq (g2 := F0 m 12 ls [.int (iw v)]) rfl ?_
  refine lv_if_ne (tgt := 17) hx hb dX0_change_12 (by decide) (fun h12 => ?_) (fun h12 => absurd h12 (by rw [hv]; decide))
  refine lv_aload_n hx hb dX0_change_17 rfl (lv_at hl 0 rfl) ?_
  refine va_get (D := (dC, dI)) (ci := 0) (v := .ref (a 1)) (C := RX0) (T := TX0) (N := 11) hx hb hts hiw hown hK hP 0 rfl rfl 0 (by decide) hf_9 (fun _ h9 => h9) rfl dX0_change_18 ?_
  refine lv_iload_n hx hb dX0_change_21 rfl (lv_at hl 1 rfl) ?_
  refine lv_iload_n hx hb dX0_change_22 rfl (lv_at hl 2 rfl) ?_
  refine ga_iast hx hb hK hP hD hS 1 0 rfl rfl j (by omega) (by decide) rfl (ws' := XW cI cZ cA a n am rf mk (upd wv j v) lo cf tf T mt im) rfl dX0_change_23 (fun H locs hP hD hS => ?_)
  refine lv_aload_n hx hb dX0_change_24 rfl (lv_at hl 0 rfl) ?_
  refine va_get (D := (dC, dI)) (ci := 0) (v := .ref (a 2)) (C := RX0) (T := TX0) (N := 11) hx hb hts hiw hown hK hP 0 rfl rfl 1 (by decide) hf_13 (fun _ h9 => h9) rfl dX0_change_25 ?_
  refine lv_iload_n hx hb dX0_change_28 rfl (lv_at hl 1 rfl) ?_
  refine lv_iload_n hx hb dX0_change_29 rfl (lv_at hl 3 rfl) ?_
  refine ga_zast hx hb hK hP hD hS 2 1 rfl rfl j hz (by omega) (by decide) rfl (ws' := XW cI cZ cA a n am rf mk (upd wv j v) (upd lo j b) cf tf T mt im) rfl dX0_change_30 (fun H locs hP hD hS => ?_)
  refine lv_aload_n hx hb dX0_change_31 rfl (lv_at hl 0 rfl) ?_
  have hF := freeAll hD hS hA
  refine va_callv (va_runV (As := []) (rest := []) ⟨hx, hb, hml, hown, hts⟩ (kX0_forgetTable l dC dI cI cZ cA a H.size n am rf mk (upd wv j v) (upd lo j b) cf tf T mt im) (cwV 0 hts gX0_change_X0_forgetTable rfl rfl rfl (by decide +kernel) ⟨Nat.le_of_ble_eq_true rfl, Nat.le_of_ble_eq_true rfl⟩) ⟨blindW, va_recv hK hP (ci := 0) (q0 := 0) rfl rfl, preW hP hK hD⟩ rfl rfl hl.1 rfl (lv_room (Nat.le_of_ble_eq_true rfl)) dX0_change_32 ⟨Nat.zero_le _, Nat.zero_le _⟩) hS (fun q _ h => hF q h) hF (fun _u tS H1 locs htS hvm hw hB hz1 hk1 hS => ?_)
  obtain ⟨hP1, hK1, hD1⟩ := hB
  rw [htS] at hP1
  have hP : va_P (dC, dI) vwCl (XW cI cZ cA a n am 0 mk (upd wv j v) (upd lo j b) cf tf T mt im) H1 := hP1
  have hD : va_D A (XW cI cZ cA a n am 0 mk (upd wv j v) (upd lo j b) cf tf T mt im) := hD1.weaken (fun _ _ _ h => hF _ h)
  generalize H1 = H at hP hS ⊢
  refine W.eq (g2 := F0 m 35 ls []) rfl ?_
  refine lv_iconst (v := 1) hx hb dX0_change_35 (by decide) ?_
  exact W.zret (v := 1) hx hb hr (by decide) (fun t ht hW => ⟨⟨1, (), rfl, rfl, by rw [ht]; exact hP, va_K.moved hW.alike hK, hD⟩, hS.F ht⟩) hS.2.2 dX0_change_36
set_option maxHeartbeats 4000000 in
set_option maxRecDepth 100000 in
/-- node -/
theorem kX0_node (l : Launch) (dC : Nat → ClassId) (dI : Nat → Nat → Nat) (cI cZ cA : ClassId) (a : Nat → Nat) (sz : Nat) (n : Nat) (am : Nat) (rf : Nat) (mk : Nat) (wv : Nat → Int32) (lo : Nat → Int32) (cf : Nat → Nat) (tf : Nat → Nat) (T : Nat → Nat → Int32) (mt : Nat → Nat) (im : Nat → Int32) (v b : Int32) (hn4 : n < 400) (hv : iw v = 1) (hz : b = 0 ∨ b = 1) : Met l yX0_node wsX0_node ({ frames := 6, cells := 0, slots := 0, locals := 82 }) (va_Pc [.ref (a 0), .int v, .int b] (WP dC dI (GT cI cZ cA) (XW cI cZ cA a n am rf mk wv lo cf tf T mt im) sz)) (va_Qi (fun r (_ : Unit) => r = nI n) (fun (_ : Unit) => WQ dC dI (GT cI cZ cA) (va_A (XW cI cZ cA a n am rf mk wv lo cf tf T mt im) sz) (XW cI cZ cA a (n + 1) am 0 mk (upd wv n v) (upd lo n b) cf tf T mt im)) (va_A (XW cI cZ cA a n am rf mk wv lo cf tf T mt im) sz)) 0 0 (va_A (XW cI cZ cA a n am rf mk wv lo cf tf T mt im) sz) := by
  refine Met.ofW (cc := cX0_node) (maxL := 4) (ret := (some .int)) (by decide) rfl ?_
  intro p e s m args below meth c s₁ B hml hv
  obtain ⟨rfl, hsz, hP, hK, hD0⟩ := hv
  have hx := B.exec
  have hb := B.bytes
  have hr := B.returns
  have hts := atoms_spec (ws := wsX0_node) B.pre
  have hown : s.vm.findClass RX0 = some m.cls := findClass_of_methodNamed B.named
  have hlocks := B.notSynchronized
  have hf_23 := hts (.fieldLink RX0 23 "GraphSearch" "nodeCount" "I") (by decide +kernel)
  have hf_9 := hts (.fieldLink RX0 9 "GraphSearch" "worths" "[I") (by decide +kernel)
  have hf_13 := hts (.fieldLink RX0 13 "GraphSearch" "losts" "[Z") (by decide +kernel)
  have hiw : ∀ w ∈ wsX00, w ∈ wsX0_node := by decide +kernel
  subst hsz
  have hD := hD0.self (sz := s.heap.size)
  generalize hAe : va_A (XW cI cZ cA a n am rf mk wv lo cf tf T mt im) s.heap.size = A at hD ⊢
  have hA : ∀ q : Nat, s.heap.size ≤ q → A q := fun q h => by rw [← hAe]; exact Or.inr h
  have hS : va_S A s.heap s.heap [] := va_S.rf
  have hP : va_P (dC, dI) vwCl (XW cI cZ cA a n am rf mk wv lo cf tf T mt im) s.heap := hP
  have hl := lv_entry ([.ref (a 0), .int v, .int b]) (n := 4) (Nat.le_of_ble_eq_true rfl)
  rw [lg_entry_eq]
  generalize (lg_sl ([.ref (a 0), .int v, .int b]) ++ List.replicate (4 - (lg_sl ([.ref (a 0), .int v, .int b])).length) Slot.unset).toArray = ls at hl ⊢
  have hl : lv_has ls 4 [(0, .ref (a 0)), (1, .int v), (2, .int b)] := hl
  refine lv_iload_n hx hb dX0_node_0 rfl (lv_at hl 1 rfl) ?_
  refine W.callR (r := iw v) (W.runS (As := [.int v]) (rest := []) ⟨hx, hb, hml, hown, hts⟩ (kX0_isWorth l v) (va_cwS 1 hts gX0_node_X0_isWorth rfl rfl rfl (by decide +kernel) ⟨Nat.le_of_ble_eq_true rfl, Nat.le_of_ble_eq_true rfl⟩) ⟨blindT, fun _ _ _ => ⟨rfl, trivial⟩⟩ rfl rfl hl.1 rfl (lv_room (Nat.le_of_ble_eq_true rfl)) dX0_node_1 ⟨Nat.zero_le _, Nat.zero_le _⟩) ?_
  refine W.eq (g2 := F0 m 4 ls [.int (iw v)]) rfl ?_
  refine lv_if_ne (tgt := 17) hx hb dX0_node_4 (by decide) (fun h4 => ?_) (fun h4 => absurd h4 (by rw [hv]; decide))
  refine lv_aload_n hx hb dX0_node_17 rfl (lv_at hl 0 rfl) ?_
  refine va_get (D := (dC, dI)) (ci := 0) (v := .int (nI n)) (C := RX0) (T := TX0) (N := 11) hx hb hts hiw hown hK hP 0 rfl rfl 4 (by decide) hf_23 (fun _ h9 => h9) rfl dX0_node_18 ?_
  refine lv_sipush (v := 400) hx hb dX0_node_21 (by decide) ?_
  refine lv_icmp_lt (tgt := 37) hx hb dX0_node_24 (by decide) (fun h24 => ?_) (fun h24 => absurd (show nI n < 400 from nI_lt hn4 (by decide)) h24)
  refine lv_aload_n hx hb dX0_node_37 rfl (lv_at hl 0 rfl) ?_
  refine va_get (D := (dC, dI)) (ci := 0) (v := .int (nI n)) (C := RX0) (T := TX0) (N := 11) hx hb hts hiw hown hK hP 0 rfl rfl 4 (by decide) hf_23 (fun _ h9 => h9) rfl dX0_node_38 ?_
  refine lv_istore_n (lv' := [(3, .int (nI n)), (0, .ref (a 0)), (1, .int v), (2, .int b)]) hx hb dX0_node_41 rfl hl (by decide) rfl (fun ls hl => ?_)
  refine lv_aload_n hx hb dX0_node_42 rfl (lv_at hl 1 rfl) ?_
  refine va_get (D := (dC, dI)) (ci := 0) (v := .ref (a 1)) (C := RX0) (T := TX0) (N := 11) hx hb hts hiw hown hK hP 0 rfl rfl 0 (by decide) hf_9 (fun _ h9 => h9) rfl dX0_node_43 ?_
  refine lv_iload_n hx hb dX0_node_46 rfl (lv_at hl 0 rfl) ?_
  refine lv_iload_n hx hb dX0_node_47 rfl (lv_at hl 2 rfl) ?_
  refine ga_iast hx hb hK hP hD hS 1 0 rfl rfl n (by omega) (by decide) rfl (ws' := XW cI cZ cA a n am rf mk (upd wv n v) lo cf tf T mt im) rfl dX0_node_48 (fun H locs hP hD hS => ?_)
  refine lv_aload_n hx hb dX0_node_49 rfl (lv_at hl 1 rfl) ?_
  refine va_get (D := (dC, dI)) (ci := 0) (v := .ref (a 2)) (C := RX0) (T := TX0) (N := 11) hx hb hts hiw hown hK hP 0 rfl rfl 1 (by decide) hf_13 (fun _ h9 => h9) rfl dX0_node_50 ?_
  refine lv_iload_n hx hb dX0_node_53 rfl (lv_at hl 0 rfl) ?_
  refine lv_iload_n hx hb dX0_node_54 rfl (lv_at hl 3 rfl) ?_
  refine ga_zast hx hb hK hP hD hS 2 1 rfl rfl n hz (by omega) (by decide) rfl (ws' := XW cI cZ cA a n am rf mk (upd wv n v) (upd lo n b) cf tf T mt im) rfl dX0_node_55 (fun H locs hP hD hS => ?_)
  refine lv_aload_n hx hb dX0_node_56 rfl (lv_at hl 1 rfl) ?_
  refine lv_dup hx hb dX0_node_57 rfl ?_
  refine va_get (D := (dC, dI)) (ci := 0) (v := .int (nI n)) (C := RX0) (T := TX0) (N := 11) hx hb hts hiw hown hK hP 0 rfl rfl 4 (by decide) hf_23 (fun _ h9 => h9) rfl dX0_node_58 ?_
  refine lv_iconst (v := 1) hx hb dX0_node_61 (by decide) ?_
  refine lv_iadd hx hb dX0_node_62 ?_
  refine ga_is (y := nI (n + 1)) (nI_1 n) ?_
  refine va_put (D := (dC, dI)) (ci := 0) (v := .int (nI (n + 1))) (ty := .int) (C := RX0) (T := TX0) (N := 11) hx hb hts hiw tyX0 tyX0_ok nmX0 hown hK hP hD hS 0 rfl rfl 4 (by decide) hf_23 (fun _ h9 => h9) rfl (by decide +kernel) rfl rfl (Nat.le_of_ble_eq_true rfl) dX0_node_63 (fun H locs hP hD hS => ?_)
  have hP : va_P (dC, dI) vwCl (XW cI cZ cA a (n + 1) am rf mk (upd wv n v) (upd lo n b) cf tf T mt im) H := hP
  have hD : va_D A (XW cI cZ cA a (n + 1) am rf mk (upd wv n v) (upd lo n b) cf tf T mt im) := hD
  refine lv_aload_n hx hb dX0_node_66 rfl (lv_at hl 1 rfl) ?_
  have hF := freeAll hD hS hA
  refine va_callv (va_runV (As := []) (rest := []) ⟨hx, hb, hml, hown, hts⟩ (kX0_forgetTable l dC dI cI cZ cA a H.size (n + 1) am rf mk (upd wv n v) (upd lo n b) cf tf T mt im) (cwV 0 hts gX0_node_X0_forgetTable rfl rfl rfl (by decide +kernel) ⟨Nat.le_of_ble_eq_true rfl, Nat.le_of_ble_eq_true rfl⟩) ⟨blindW, va_recv hK hP (ci := 0) (q0 := 0) rfl rfl, preW hP hK hD⟩ rfl rfl hl.1 rfl (lv_room (Nat.le_of_ble_eq_true rfl)) dX0_node_67 ⟨Nat.zero_le _, Nat.zero_le _⟩) hS (fun q _ h => hF q h) hF (fun _u tS H1 locs htS hvm hw hB hz1 hk1 hS => ?_)
  obtain ⟨hP1, hK1, hD1⟩ := hB
  rw [htS] at hP1
  have hP : va_P (dC, dI) vwCl (XW cI cZ cA a (n + 1) am 0 mk (upd wv n v) (upd lo n b) cf tf T mt im) H1 := hP1
  have hD : va_D A (XW cI cZ cA a (n + 1) am 0 mk (upd wv n v) (upd lo n b) cf tf T mt im) := hD1.weaken (fun _ _ _ h => hF _ h)
  generalize H1 = H at hP hS ⊢
  refine W.eq (g2 := F0 m 70 ls []) rfl ?_
  refine lv_iload_n hx hb dX0_node_70 rfl (lv_at hl 0 rfl) ?_
  exact W.iret (v := (nI n)) hx hb hr (fun t ht hW => ⟨⟨(nI n), (), rfl, rfl, by rw [ht]; exact hP, va_K.moved hW.alike hK, hD⟩, hS.F ht⟩) hS.2.2 dX0_node_71
set_option maxHeartbeats 4000000 in
set_option maxRecDepth 100000 in
/-- move -/
theorem kX0_move (l : Launch) (dC : Nat → ClassId) (dI : Nat → Nat → Nat) (cI cZ cA : ClassId) (a : Nat → Nat) (sz : Nat) (n : Nat) (am : Nat) (rf : Nat) (mk : Nat) (wv : Nat → Int32) (lo : Nat → Int32) (cf : Nat → Nat) (tf : Nat → Nat) (T : Nat → Nat → Int32) (mt : Nat → Nat) (im : Nat → Int32) (i j : Nat) (hn4 : n ≤ 400) (hi : i < n) (hj : j < n) (hc : cf i < 6) : Met l yX0_move wsX0_move ({ frames := 6, cells := 0, slots := 0, locals := 82 }) (va_Pc [.ref (a 0), .int (nI i), .int (nI j)] (WP dC dI (GT cI cZ cA) (XW cI cZ cA a n am rf mk wv lo cf tf T mt im) sz)) (va_Qi (fun r (_ : Unit) => r = nI (cf i)) (fun (_ : Unit) => WQ dC dI (GT cI cZ cA) (va_A (XW cI cZ cA a n am rf mk wv lo cf tf T mt im) sz) (XW cI cZ cA a n (am + 1) 0 mk wv lo (va_up cf i (cf i + 1)) (va_up tf (i * 6 + cf i) j) T mt im)) (va_A (XW cI cZ cA a n am rf mk wv lo cf tf T mt im) sz)) 0 0 (va_A (XW cI cZ cA a n am rf mk wv lo cf tf T mt im) sz) := by
  refine Met.ofW (cc := cX0_move) (maxL := 4) (ret := (some .int)) (by decide) rfl ?_
  intro p e s m args below meth c s₁ B hml hv
  obtain ⟨rfl, hsz, hP, hK, hD0⟩ := hv
  have hx := B.exec
  have hb := B.bytes
  have hr := B.returns
  have hts := atoms_spec (ws := wsX0_move) B.pre
  have hown : s.vm.findClass RX0 = some m.cls := findClass_of_methodNamed B.named
  have hlocks := B.notSynchronized
  have hf_17 := hts (.fieldLink RX0 17 "GraphSearch" "moveCounts" "[I") (by decide +kernel)
  have hf_20 := hts (.fieldLink RX0 20 "GraphSearch" "targets" "[I") (by decide +kernel)
  have hf_27 := hts (.fieldLink RX0 27 "GraphSearch" "allMoves" "I") (by decide +kernel)
  have hiw : ∀ w ∈ wsX00, w ∈ wsX0_move := by decide +kernel
  subst hsz
  have hD := hD0.self (sz := s.heap.size)
  generalize hAe : va_A (XW cI cZ cA a n am rf mk wv lo cf tf T mt im) s.heap.size = A at hD ⊢
  have hA : ∀ q : Nat, s.heap.size ≤ q → A q := fun q h => by rw [← hAe]; exact Or.inr h
  have hS : va_S A s.heap s.heap [] := va_S.rf
  have hP : va_P (dC, dI) vwCl (XW cI cZ cA a n am rf mk wv lo cf tf T mt im) s.heap := hP
  have hl := lv_entry ([.ref (a 0), .int (nI i), .int (nI j)]) (n := 4) (Nat.le_of_ble_eq_true rfl)
  rw [lg_entry_eq]
  generalize (lg_sl ([.ref (a 0), .int (nI i), .int (nI j)]) ++ List.replicate (4 - (lg_sl ([.ref (a 0), .int (nI i), .int (nI j)])).length) Slot.unset).toArray = ls at hl ⊢
  have hl : lv_has ls 4 [(0, .ref (a 0)), (1, .int (nI i)), (2, .int (nI j))] := hl
  refine lv_aload_n hx hb dX0_move_0 rfl (lv_at hl 0 rfl) ?_
  refine lv_iload_n hx hb dX0_move_1 rfl (lv_at hl 1 rfl) ?_
  refine W.callR (r := isn (nI i) n) (W.runV (As := [.int (nI i)]) (rest := []) ⟨hx, hb, hml, hown, hts⟩ (kX0_isNode l dC dI cI cZ cA a n am rf mk wv lo cf tf T mt im (nI i)) (cwV 1 hts gX0_move_X0_isNode rfl rfl rfl (by decide +kernel) ⟨Nat.le_of_ble_eq_true rfl, Nat.le_of_ble_eq_true rfl⟩) ⟨blindR, va_recv hK hP (ci := 0) (q0 := 0) rfl rfl, preR hP hK⟩ rfl rfl hl.1 rfl (lv_room (Nat.le_of_ble_eq_true rfl)) dX0_move_2 ⟨Nat.zero_le _, Nat.zero_le _⟩) ?_
  refine W.eq (g2 := F0 m 5 ls [.int (isn (nI i) n)]) rfl ?_
  refine lv_if_eq (tgt := 16) hx hb dX0_move_5 (by decide) (fun h5 => absurd h5 (by rw [isn_1 hi (by omega)]; decide)) (fun h5 => ?_)
  refine lv_aload_n hx hb dX0_move_8 rfl (lv_at hl 0 rfl) ?_
  refine lv_iload_n hx hb dX0_move_9 rfl (lv_at hl 2 rfl) ?_
  refine W.callR (r := isn (nI j) n) (W.runV (As := [.int (nI j)]) (rest := []) ⟨hx, hb, hml, hown, hts⟩ (kX0_isNode l dC dI cI cZ cA a n am rf mk wv lo cf tf T mt im (nI j)) (cwV 1 hts gX0_move_X0_isNode rfl rfl rfl (by decide +kernel) ⟨Nat.le_of_ble_eq_true rfl, Nat.le_of_ble_eq_true rfl⟩) ⟨blindR, va_recv hK hP (ci := 0) (q0 := 0) rfl rfl, preR hP hK⟩ rfl rfl hl.1 rfl (lv_room (Nat.le_of_ble_eq_true rfl)) dX0_move_10 ⟨Nat.zero_le _, Nat.zero_le _⟩) ?_
  refine W.eq (g2 := F0 m 13 ls [.int (isn (nI j) n)]) rfl ?_
  refine lv_if_ne (tgt := 26) hx hb dX0_move_13 (by decide) (fun h13 => ?_) (fun h13 => absurd h13 (by rw [isn_1 hj (by omega)]; decide))
  refine lv_aload_n hx hb dX0_move_26 rfl (lv_at hl 0 rfl) ?_
  refine va_get (D := (dC, dI)) (ci := 0) (v := .ref (a 3)) (C := RX0) (T := TX0) (N := 11) hx hb hts hiw hown hK hP 0 rfl rfl 2 (by decide) hf_17 (fun _ h9 => h9) rfl dX0_move_27 ?_
  refine lv_iload_n hx hb dX0_move_30 rfl (lv_at hl 1 rfl) ?_
  refine ga_iald hx hb hK hP 3 0 rfl rfl i (v := nI (cf i)) rfl (by omega) (by decide) dX0_move_31 ?_
  refine lv_bipush (v := 6) hx hb dX0_move_32 (by decide) ?_
  refine lv_icmp_lt (tgt := 47) hx hb dX0_move_34 (by decide) (fun h34 => ?_) (fun h34 => absurd (show nI (cf i) < 6 from nI_lt hc (by decide)) h34)
  refine lv_aload_n hx hb dX0_move_47 rfl (lv_at hl 0 rfl) ?_
  refine va_get (D := (dC, dI)) (ci := 0) (v := .ref (a 3)) (C := RX0) (T := TX0) (N := 11) hx hb hts hiw hown hK hP 0 rfl rfl 2 (by decide) hf_17 (fun _ h9 => h9) rfl dX0_move_48 ?_
  refine lv_iload_n hx hb dX0_move_51 rfl (lv_at hl 1 rfl) ?_
  refine ga_iald hx hb hK hP 3 0 rfl rfl i (v := nI (cf i)) rfl (by omega) (by decide) dX0_move_52 ?_
  refine lv_istore_n (lv' := [(3, .int (nI (cf i))), (0, .ref (a 0)), (1, .int (nI i)), (2, .int (nI j))]) hx hb dX0_move_53 rfl hl (by decide) rfl (fun ls hl => ?_)
  refine lv_aload_n hx hb dX0_move_54 rfl (lv_at hl 1 rfl) ?_
  refine va_get (D := (dC, dI)) (ci := 0) (v := .ref (a 4)) (C := RX0) (T := TX0) (N := 11) hx hb hts hiw hown hK hP 0 rfl rfl 3 (by decide) hf_20 (fun _ h9 => h9) rfl dX0_move_55 ?_
  refine lv_iload_n hx hb dX0_move_58 rfl (lv_at hl 2 rfl) ?_
  refine lv_iload_n hx hb dX0_move_59 rfl (lv_at hl 0 rfl) ?_
  refine W.callR (r := nI (i * 6 + cf i)) (W.runS (As := [.int (nI i), .int (nI (cf i))]) (rest := [.ref (a 4)]) ⟨hx, hb, hml, hown, hts⟩ (kX0_place l i (cf i)) (va_cwS 2 hts gX0_move_X0_place rfl rfl rfl (by decide +kernel) ⟨Nat.le_of_ble_eq_true rfl, Nat.le_of_ble_eq_true rfl⟩) ⟨blindT, fun _ _ _ => ⟨rfl, trivial⟩⟩ rfl rfl hl.1 rfl (lv_room (Nat.le_of_ble_eq_true rfl)) dX0_move_60 ⟨Nat.zero_le _, Nat.zero_le _⟩) ?_
  refine W.eq (g2 := F0 m 63 ls [.int (nI (i * 6 + cf i)), .ref (a 4)]) rfl ?_
  refine lv_iload_n hx hb dX0_move_63 rfl (lv_at hl 3 rfl) ?_
  refine ga_iast hx hb hK hP hD hS 4 0 rfl rfl (i * 6 + cf i) (by omega) (by decide) (upd_nI _ _ j) (ws' := XW cI cZ cA a n am rf mk wv lo cf (va_up tf (i * 6 + cf i) j) T mt im) rfl dX0_move_64 (fun H locs hP hD hS => ?_)
  refine lv_aload_n hx hb dX0_move_65 rfl (lv_at hl 1 rfl) ?_
  refine va_get (D := (dC, dI)) (ci := 0) (v := .ref (a 3)) (C := RX0) (T := TX0) (N := 11) hx hb hts hiw hown hK hP 0 rfl rfl 2 (by decide) hf_17 (fun _ h9 => h9) rfl dX0_move_66 ?_
  refine lv_iload_n hx hb dX0_move_69 rfl (lv_at hl 2 rfl) ?_
  refine lv_dup2_11 hx hb dX0_move_70 rfl rfl ?_
  refine ga_iald hx hb hK hP 3 0 rfl rfl i (v := nI (cf i)) rfl (by omega) (by decide) dX0_move_71 ?_
  refine lv_iconst (v := 1) hx hb dX0_move_72 (by decide) ?_
  refine lv_iadd hx hb dX0_move_73 ?_
  refine ga_is (y := nI (cf i + 1)) (nI_1 _) ?_
  refine ga_iast hx hb hK hP hD hS 3 0 rfl rfl i (by omega) (by decide) (upd_nI _ _ (cf i + 1)) (ws' := XW cI cZ cA a n am rf mk wv lo (va_up cf i (cf i + 1)) (va_up tf (i * 6 + cf i) j) T mt im) rfl dX0_move_74 (fun H locs hP hD hS => ?_)
  refine lv_aload_n hx hb dX0_move_75 rfl (lv_at hl 1 rfl) ?_
  refine lv_dup hx hb dX0_move_76 rfl ?_
  refine va_get (D := (dC, dI)) (ci := 0) (v := .int (nI am)) (C := RX0) (T := TX0) (N := 11) hx hb hts hiw hown hK hP 0 rfl rfl 5 (by decide) hf_27 (fun _ h9 => h9) rfl dX0_move_77 ?_
  refine lv_iconst (v := 1) hx hb dX0_move_80 (by decide) ?_
  refine lv_iadd hx hb dX0_move_81 ?_
  refine ga_is (y := nI (am + 1)) (nI_1 am) ?_
  refine va_put (D := (dC, dI)) (ci := 0) (v := .int (nI (am + 1))) (ty := .int) (C := RX0) (T := TX0) (N := 11) hx hb hts hiw tyX0 tyX0_ok nmX0 hown hK hP hD hS 0 rfl rfl 5 (by decide) hf_27 (fun _ h9 => h9) rfl (by decide +kernel) rfl rfl (Nat.le_of_ble_eq_true rfl) dX0_move_82 (fun H locs hP hD hS => ?_)
  have hP : va_P (dC, dI) vwCl (XW cI cZ cA a n (am + 1) rf mk wv lo (va_up cf i (cf i + 1)) (va_up tf (i * 6 + cf i) j) T mt im) H := hP
  have hD : va_D A (XW cI cZ cA a n (am + 1) rf mk wv lo (va_up cf i (cf i + 1)) (va_up tf (i * 6 + cf i) j) T mt im) := hD
  refine lv_aload_n hx hb dX0_move_85 rfl (lv_at hl 1 rfl) ?_
  have hF := freeAll hD hS hA
  refine va_callv (va_runV (As := []) (rest := []) ⟨hx, hb, hml, hown, hts⟩ (kX0_forgetTable l dC dI cI cZ cA a H.size n (am + 1) rf mk wv lo (va_up cf i (cf i + 1)) (va_up tf (i * 6 + cf i) j) T mt im) (cwV 0 hts gX0_move_X0_forgetTable rfl rfl rfl (by decide +kernel) ⟨Nat.le_of_ble_eq_true rfl, Nat.le_of_ble_eq_true rfl⟩) ⟨blindW, va_recv hK hP (ci := 0) (q0 := 0) rfl rfl, preW hP hK hD⟩ rfl rfl hl.1 rfl (lv_room (Nat.le_of_ble_eq_true rfl)) dX0_move_86 ⟨Nat.zero_le _, Nat.zero_le _⟩) hS (fun q _ h => hF q h) hF (fun _u tS H1 locs htS hvm hw hB hz1 hk1 hS => ?_)
  obtain ⟨hP1, hK1, hD1⟩ := hB
  rw [htS] at hP1
  have hP : va_P (dC, dI) vwCl (XW cI cZ cA a n (am + 1) 0 mk wv lo (va_up cf i (cf i + 1)) (va_up tf (i * 6 + cf i) j) T mt im) H1 := hP1
  have hD : va_D A (XW cI cZ cA a n (am + 1) 0 mk wv lo (va_up cf i (cf i + 1)) (va_up tf (i * 6 + cf i) j) T mt im) := hD1.weaken (fun _ _ _ h => hF _ h)
  generalize H1 = H at hP hS ⊢
  refine W.eq (g2 := F0 m 89 ls []) rfl ?_
  refine lv_iload_n hx hb dX0_move_89 rfl (lv_at hl 0 rfl) ?_
  exact W.iret (v := (nI (cf i))) hx hb hr (fun t ht hW => ⟨⟨(nI (cf i)), (), rfl, rfl, by rw [ht]; exact hP, va_K.moved hW.alike hK, hD⟩, hS.F ht⟩) hS.2.2 dX0_move_90
end
section
/-- how many k below n are of a kind -/
noncomputable def cntP (P : Nat → Prop) : Nat → Nat
  | 0 => 0
  | k + 1 => cntP P k + @ite Nat (P k) (Classical.propDecidable _) 1 0
theorem cntP_congr {P Q : Nat → Prop} : ∀ n : Nat, (∀ k, k < n → (P k ↔ Q k)) → cntP P n = cntP Q n
  | 0, _ => rfl
  | n + 1, h => by
    show cntP P n + @ite Nat (P n) (Classical.propDecidable _) 1 0 = cntP Q n + @ite Nat (Q n) (Classical.propDecidable _) 1 0
    rw [cntP_congr n (fun k hk => h k (Nat.lt_succ_of_lt hk))]
    have hn := h n (Nat.lt_succ_self n)
    by_cases hp : P n
    · rw [if_pos hp, if_pos (hn.mp hp)]
    · rw [if_neg hp, if_neg (fun z => hp (hn.mpr z))]
theorem cntP_le {P : Nat → Prop} : ∀ n : Nat, cntP P n ≤ n
  | 0 => Nat.le_refl _
  | n + 1 => by
    show cntP P n + @ite Nat (P n) (Classical.propDecidable _) 1 0 ≤ n + 1
    have := cntP_le (P := P) n
    by_cases hp : P n
    · rw [if_pos hp]; omega
    · rw [if_neg hp]; omega
theorem cntP_0 {P : Nat → Prop} : ∀ n : Nat, (∀ k, k < n → ¬ P k) → cntP P n = 0
  | 0, _ => rfl
  | n + 1, h => by
    show cntP P n + @ite Nat (P n) (Classical.propDecidable _) 1 0 = 0
    rw [cntP_0 n (fun k hk => h k (Nat.lt_succ_of_lt hk)), if_neg (h n (Nat.lt_succ_self n))]
theorem cntP_add {P Q : Nat → Prop} {y : Nat} (hy : ¬ P y) (hQ : ∀ z, Q z ↔ P z ∨ z = y) : ∀ n : Nat, y < n → cntP Q n = cntP P n + 1
  | 0, h => absurd h (by omega)
  | n + 1, h => by
    show cntP Q n + @ite Nat (Q n) (Classical.propDecidable _) 1 0 = cntP P n + @ite Nat (P n) (Classical.propDecidable _) 1 0 + 1
    by_cases e : n = y
    · subst e
      rw [if_neg hy, if_pos ((hQ n).mpr (Or.inr rfl)), cntP_congr (P := Q) (Q := P) n (fun k hk => ⟨fun q => ((hQ k).mp q).resolve_right (by omega), fun q => (hQ k).mpr (Or.inl q)⟩)]
    · rw [cntP_add hy hQ n (by omega)]
      by_cases hp : P n
      · rw [if_pos hp, if_pos ((hQ n).mpr (Or.inl hp))]
      · rw [if_neg hp, if_neg (fun q => ((hQ n).mp q).elim hp e)]
theorem cntP_lt {P : Nat → Prop} {y n : Nat} (hy : ¬ P y) (h : y < n) : cntP P n < n := by
  have h1 := cntP_add (P := P) (Q := fun z => P z ∨ z = y) hy (fun z => Iff.rfl) n h
  have h2 := cntP_le (P := fun z => P z ∨ z = y) n
  omega
/-- the nodes that can be come to by at most so many moves -/
def rch (cf tf : Nat → Nat) (x : Nat) : Nat → Nat → Prop
  | 0, y => y = x
  | d + 1, y => rch cf tf x d y ∨ ∃ z, rch cf tf x d z ∧ ∃ j, j < cf z ∧ tf (z * 6 + j) = y
/-- between two calls of around -/
def Mkeep (mk : Nat) (mt : Nat → Nat) (im : Nat → Int32) : Prop := mk ≤ 400 ∧ (∀ i, i < mk → mt i < 400) ∧ ∀ y, im y = 0 ∨ ∃ i, i < mk ∧ mt i = y
/-- within a call of around -/
def Mrun (n mk : Nat) (mt : Nat → Nat) (im : Nat → Int32) : Prop := (∀ y, im y = 0 ∨ im y = 1) ∧ mk = cntP (fun y => im y = 1) n ∧ (∀ i, i < mk → mt i < n ∧ im (mt i) = 1) ∧ ∀ y, im y = 1 → ∃ i, i < mk ∧ mt i = y
theorem Mrun.keep {n mk : Nat} {mt : Nat → Nat} {im : Nat → Int32} (hn : n ≤ 400) (h : Mrun n mk mt im) : Mkeep mk mt im := by
  obtain ⟨h1, h2, h3, h4⟩ := h
  have := cntP_le (P := fun y => im y = 1) n
  refine ⟨by omega, fun i hi => by have := (h3 i hi).1; omega, fun y => ?_⟩
  rcases h1 y with h | h
  · exact Or.inl h
  · exact Or.inr (h4 y h)
theorem upd_s {f : Nat → Int32} {k : Nat} {x : Int32} : upd f k x k = x := if_pos rfl
theorem upd_n {f : Nat → Int32} {k j : Nat} {x : Int32} (h : j ≠ k) : upd f k x j = f j := if_neg h
theorem Mrun.meet {n mk y : Nat} {mt : Nat → Nat} {im : Nat → Int32} (h : Mrun n mk mt im) (hy : y < n) (h0 : im y = 0) : Mrun n (mk + 1) (va_up mt mk y) (upd im y 1) := by
  obtain ⟨h1, h2, h3, h4⟩ := h
  have hne : ∀ i, i < mk → mt i ≠ y := fun i hi e => by
    have := (h3 i hi).2
    rw [e, h0] at this
    exact absurd this (by decide)
  refine ⟨fun z => ?_, ?_, fun i hi => ?_, fun z hz => ?_⟩
  · by_cases e : z = y
    · rw [e, upd_s]; exact Or.inr rfl
    · rw [upd_n e]; exact h1 z
  · rw [h2]
    refine (cntP_add (y := y) (fun q => ?_) (fun z => ?_) n hy).symm
    · have q1 : im y = 1 := q
      rw [h0] at q1
      exact absurd q1 (by decide)
    · by_cases e : z = y
      · rw [e, upd_s]; exact ⟨fun _ => Or.inr rfl, fun _ => rfl⟩
      · rw [upd_n e]; exact ⟨fun q => Or.inl q, fun q => q.resolve_right e⟩
  · by_cases e : i = mk
    · rw [e, va_up_self, upd_s]; exact ⟨hy, rfl⟩
    · rw [va_up_ne _ _ e, upd_n (hne i (by omega))]; exact h3 i (by omega)
  · by_cases e : z = y
    · exact ⟨mk, by omega, by rw [va_up_self, e]⟩
    · rw [upd_n e] at hz
      obtain ⟨i, hi, e2⟩ := h4 z hz
      exact ⟨i, by omega, by rw [va_up_ne _ _ (by omega)]; exact e2⟩
set_option maxHeartbeats 4000000 in
set_option maxRecDepth 100000 in
/-- forgetMet -/
theorem kX0_forgetMet (l : Launch) (dC : Nat → ClassId) (dI : Nat → Nat → Nat) (cI cZ cA : ClassId) (a : Nat → Nat) (sz : Nat) (n : Nat) (am : Nat) (rf : Nat) (mk : Nat) (wv : Nat → Int32) (lo : Nat → Int32) (cf : Nat → Nat) (tf : Nat → Nat) (T : Nat → Nat → Int32) (mt : Nat → Nat) (im : Nat → Int32)  (hM : Mkeep mk mt im) : Met l yX0_forgetMet wsX0_forgetMet ({ frames := 0, cells := 0, slots := 0, locals := 0 }) (va_Pc [.ref (a 0)] (WP dC dI (GT cI cZ cA) (XW cI cZ cA a n am rf mk wv lo cf tf T mt im) sz)) (va_Qv (fun im1 : Nat → Int32 => ∀ y, im1 y = 0) (fun im1 => WQ dC dI (GT cI cZ cA) (va_A (XW cI cZ cA a n am rf mk wv lo cf tf T mt im) sz) (XW cI cZ cA a n am rf 0 wv lo cf tf T mt im1)) (va_A (XW cI cZ cA a n am rf mk wv lo cf tf T mt im) sz)) 0 0 (va_A (XW cI cZ cA a n am rf mk wv lo cf tf T mt im) sz) := by
  refine Met.ofW (cc := cX0_forgetMet) (maxL := 2) (ret := none) (by decide) rfl ?_
  intro p e s m args below meth c s₁ B hml hv
  obtain ⟨rfl, hsz, hP, hK, hD0⟩ := hv
  have hx := B.exec
  have hb := B.bytes
  have hr := B.returns
  have hts := atoms_spec (ws := wsX0_forgetMet) B.pre
  have hown : s.vm.findClass RX0 = some m.cls := findClass_of_methodNamed B.named
  have hlocks := B.notSynchronized
  have hf_44 := hts (.fieldLink RX0 44 "GraphSearch" "metCount" "I") (by decide +kernel)
  have hf_41 := hts (.fieldLink RX0 41 "GraphSearch" "isMet" "[Z") (by decide +kernel)
  have hf_38 := hts (.fieldLink RX0 38 "GraphSearch" "met" "[I") (by decide +kernel)
  have hiw : ∀ w ∈ wsX00, w ∈ wsX0_forgetMet := by decide +kernel
  subst hsz
  have hD := hD0.self (sz := s.heap.size)
  generalize hAe : va_A (XW cI cZ cA a n am rf mk wv lo cf tf T mt im) s.heap.size = A at hD ⊢
  have hA : ∀ q : Nat, s.heap.size ≤ q → A q := fun q h => by rw [← hAe]; exact Or.inr h
  have hS : va_S A s.heap s.heap [] := va_S.rf
  have hP : va_P (dC, dI) vwCl (XW cI cZ cA a n am rf mk wv lo cf tf T mt im) s.heap := hP
  have hl := lv_entry ([.ref (a 0)]) (n := 2) (Nat.le_of_ble_eq_true rfl)
  rw [lg_entry_eq]
  generalize (lg_sl ([.ref (a 0)]) ++ List.replicate (2 - (lg_sl ([.ref (a 0)])).length) Slot.unset).toArray = ls at hl ⊢
  have hl : lv_has ls 2 [(0, .ref (a 0))] := hl
  obtain ⟨hm4, hm, hmy⟩ := hM
  refine lv_iconst (v := 0) hx hb dX0_forgetMet_0 (by decide) ?_
  refine ga_is (y := nI 0) (rfl) ?_
  refine lv_istore_n (lv' := [(1, .int (nI 0)), (0, .ref (a 0))]) hx hb dX0_forgetMet_1 rfl hl (by decide) rfl (fun ls hl => ?_)
  have loop : ∀ (k j : Nat), j + k = mk → ∀ im1 : Nat → Int32, (∀ y, im1 y = 0 ∨ ∃ i, j ≤ i ∧ i < mk ∧ mt i = y) → ∀ (H : Heap) (locs : List Loc), va_P (dC, dI) vwCl (XW cI cZ cA a n am rf mk wv lo cf tf T mt im1) H → va_D A (XW cI cZ cA a n am rf mk wv lo cf tf T mt im1) → va_S A s.heap H locs → ∀ ls : Array Slot, lv_has ls 2 [(1, .int (nI j)), (0, .ref (a 0))] → W p l e (headSpec wsX0_forgetMet (({ frames := 0, cells := 0, slots := 0, locals := 0 }) : Room)).room s m ([.ref (a 0)] : List Value).toArray below meth c H locs 0 0 (MQ below (va_Qv (fun im1 : Nat → Int32 => ∀ y, im1 y = 0) (fun im1 => WQ dC dI (GT cI cZ cA) A (XW cI cZ cA a n am rf 0 wv lo cf tf T mt im1)) A) ([.ref (a 0)] : List Value).toArray s 0 0 A) (F0 m 2 ls []) := by
    intro k
    induction k with
    | zero =>
      intro j hj im1 h1 H locs hP hD hS ls hl
      obtain rfl : j = mk := by omega
      refine lv_iload_n hx hb dX0_forgetMet_2 rfl (lv_at hl 0 rfl) ?_
      refine lv_aload_n hx hb dX0_forgetMet_3 rfl (lv_at hl 1 rfl) ?_
      refine va_get (D := (dC, dI)) (ci := 0) (v := .int (nI j)) (C := RX0) (T := TX0) (N := 11) hx hb hts hiw hown hK hP 0 rfl rfl 10 (by decide) hf_44 (fun _ h9 => h9) rfl dX0_forgetMet_4 ?_
      refine lv_icmp_ge (tgt := 28) hx hb dX0_forgetMet_7 (by decide) (fun h7 => ?_) (fun h7 => absurd (Int32.le_refl _) h7)
      refine lv_aload_n hx hb dX0_forgetMet_28 rfl (lv_at hl 1 rfl) ?_
      refine lv_iconst (v := 0) hx hb dX0_forgetMet_29 (by decide) ?_
      refine ga_is (y := nI 0) (rfl) ?_
      refine va_put (D := (dC, dI)) (ci := 0) (v := .int (nI 0)) (ty := .int) (C := RX0) (T := TX0) (N := 11) hx hb hts hiw tyX0 tyX0_ok nmX0 hown hK hP hD hS 0 rfl rfl 10 (by decide) hf_44 (fun _ h9 => h9) rfl (by decide +kernel) rfl rfl (Nat.le_of_ble_eq_true rfl) dX0_forgetMet_30 (fun H locs hP hD hS => ?_)
      have hP : va_P (dC, dI) vwCl (XW cI cZ cA a n am rf 0 wv lo cf tf T mt im1) H := hP
      have hD : va_D A (XW cI cZ cA a n am rf 0 wv lo cf tf T mt im1) := hD
      exact W.vret hx hb hr (fun t ht hW => ⟨⟨im1, rfl, fun y => (h1 y).resolve_right (fun ⟨i, a1, a2, _⟩ => absurd a1 (by omega)), by rw [ht]; exact hP, va_K.moved hW.alike hK, hD⟩, hS.F ht⟩) hS.2.2 dX0_forgetMet_33
    | succ k ih =>
      intro j hj im1 h1 H locs hP hD hS ls hl
      have hmj := hm j (by omega)
      refine lv_iload_n hx hb dX0_forgetMet_2 rfl (lv_at hl 0 rfl) ?_
      refine lv_aload_n hx hb dX0_forgetMet_3 rfl (lv_at hl 1 rfl) ?_
      refine va_get (D := (dC, dI)) (ci := 0) (v := .int (nI mk)) (C := RX0) (T := TX0) (N := 11) hx hb hts hiw hown hK hP 0 rfl rfl 10 (by decide) hf_44 (fun _ h9 => h9) rfl dX0_forgetMet_4 ?_
      refine lv_icmp_ge (tgt := 28) hx hb dX0_forgetMet_7 (by decide) (fun h7 => absurd h7 (nI_ge (by omega) (by omega))) (fun h7 => ?_)
      refine lv_aload_n hx hb dX0_forgetMet_10 rfl (lv_at hl 1 rfl) ?_
      refine va_get (D := (dC, dI)) (ci := 0) (v := .ref (a 7)) (C := RX0) (T := TX0) (N := 11) hx hb hts hiw hown hK hP 0 rfl rfl 9 (by decide) hf_41 (fun _ h9 => h9) rfl dX0_forgetMet_11 ?_
      refine lv_aload_n hx hb dX0_forgetMet_14 rfl (lv_at hl 1 rfl) ?_
      refine va_get (D := (dC, dI)) (ci := 0) (v := .ref (a 6)) (C := RX0) (T := TX0) (N := 11) hx hb hts hiw hown hK hP 0 rfl rfl 8 (by decide) hf_38 (fun _ h9 => h9) rfl dX0_forgetMet_15 ?_
      refine lv_iload_n hx hb dX0_forgetMet_18 rfl (lv_at hl 0 rfl) ?_
      refine ga_iald hx hb hK hP 6 0 rfl rfl j (v := nI (mt j)) rfl (by omega) (by decide) dX0_forgetMet_19 ?_
      refine lv_iconst (v := 0) hx hb dX0_forgetMet_20 (by decide) ?_
      refine ga_zast hx hb hK hP hD hS 7 1 rfl rfl (mt j) (Or.inl rfl) (by omega) (by decide) rfl (ws' := XW cI cZ cA a n am rf mk wv lo cf tf T mt (upd im1 (mt j) 0)) rfl dX0_forgetMet_21 (fun H locs hP hD hS => ?_)
      refine lv_iinc (v := nI (j + 1)) (lv' := [(1, .int (nI (j + 1))), (0, .ref (a 0))]) hx hb dX0_forgetMet_22 hl (k := 0) rfl (nI_1 j) (by decide) rfl (fun ls hl => ?_)
      refine lv_goto (tgt := 2) hx hb dX0_forgetMet_25 (by decide) ?_
      refine ih (j + 1) (by omega) _ (fun y => ?_) H locs hP hD hS ls (lv_sub hl [0, 1] rfl)
      by_cases e : y = mt j
      · rw [e, upd_s]; exact Or.inl rfl
      · rw [upd_n e]
        rcases h1 y with q | ⟨i, b1, b2, b3⟩
        · exact Or.inl q
        · refine Or.inr ⟨i, ?_, b2, b3⟩
          have : i ≠ j := fun q => e (by rw [← b3, q])
          omega
  refine loop mk 0 (by omega) im (fun y => ?_) s.heap [] hP hD hS ls (lv_sub hl [0, 1] rfl)
  rcases hmy y with q | ⟨i, b2, b3⟩
  · exact Or.inl q
  · exact Or.inr ⟨i, Nat.zero_le _, b2, b3⟩
set_option maxHeartbeats 4000000 in
set_option maxRecDepth 100000 in
/-- meet -/
theorem kX0_meet (l : Launch) (dC : Nat → ClassId) (dI : Nat → Nat → Nat) (cI cZ cA : ClassId) (a : Nat → Nat) (sz : Nat) (n : Nat) (am : Nat) (rf : Nat) (mk : Nat) (wv : Nat → Int32) (lo : Nat → Int32) (cf : Nat → Nat) (tf : Nat → Nat) (T : Nat → Nat → Int32) (mt : Nat → Nat) (im : Nat → Int32) (y : Nat) (hn4 : n ≤ 400) (hy : y < n) (hM : Mrun n mk mt im) : Met l yX0_meet wsX0_meet ({ frames := 0, cells := 0, slots := 0, locals := 0 }) (va_Pc [.ref (a 0), .int (nI y)] (WP dC dI (GT cI cZ cA) (XW cI cZ cA a n am rf mk wv lo cf tf T mt im) sz)) (va_Qv (fun u : Nat × (Nat → Nat) × (Nat → Int32) => Mrun n u.1 u.2.1 u.2.2 ∧ mk ≤ u.1 ∧ (∀ i, i < mk → u.2.1 i = mt i) ∧ ∀ z, u.2.2 z = 1 ↔ im z = 1 ∨ z = y) (fun u => WQ dC dI (GT cI cZ cA) (va_A (XW cI cZ cA a n am rf mk wv lo cf tf T mt im) sz) (XW cI cZ cA a n am rf (u.1) wv lo cf tf T (u.2.1) (u.2.2))) (va_A (XW cI cZ cA a n am rf mk wv lo cf tf T mt im) sz)) 0 0 (va_A (XW cI cZ cA a n am rf mk wv lo cf tf T mt im) sz) := by
  refine Met.ofW (cc := cX0_meet) (maxL := 2) (ret := none) (by decide) rfl ?_
  intro p e s m args below meth c s₁ B hml hv
  obtain ⟨rfl, hsz, hP, hK, hD0⟩ := hv
  have hx := B.exec
  have hb := B.bytes
  have hr := B.returns
  have hts := atoms_spec (ws := wsX0_meet) B.pre
  have hown : s.vm.findClass RX0 = some m.cls := findClass_of_methodNamed B.named
  have hlocks := B.notSynchronized
  have hf_41 := hts (.fieldLink RX0 41 "GraphSearch" "isMet" "[Z") (by decide +kernel)
  have hf_38 := hts (.fieldLink RX0 38 "GraphSearch" "met" "[I") (by decide +kernel)
  have hf_44 := hts (.fieldLink RX0 44 "GraphSearch" "metCount" "I") (by decide +kernel)
  have hiw : ∀ w ∈ wsX00, w ∈ wsX0_meet := by decide +kernel
  subst hsz
  have hD := hD0.self (sz := s.heap.size)
  generalize hAe : va_A (XW cI cZ cA a n am rf mk wv lo cf tf T mt im) s.heap.size = A at hD ⊢
  have hA : ∀ q : Nat, s.heap.size ≤ q → A q := fun q h => by rw [← hAe]; exact Or.inr h
  have hS : va_S A s.heap s.heap [] := va_S.rf
  have hP : va_P (dC, dI) vwCl (XW cI cZ cA a n am rf mk wv lo cf tf T mt im) s.heap := hP
  have hl := lv_entry ([.ref (a 0), .int (nI y)]) (n := 2) (Nat.le_of_ble_eq_true rfl)
  rw [lg_entry_eq]
  generalize (lg_sl ([.ref (a 0), .int (nI y)]) ++ List.replicate (2 - (lg_sl ([.ref (a 0), .int (nI y)])).length) Slot.unset).toArray = ls at hl ⊢
  have hl : lv_has ls 2 [(0, .ref (a 0)), (1, .int (nI y))] := hl
  refine lv_aload_n hx hb dX0_meet_0 rfl (lv_at hl 0 rfl) ?_
  refine va_get (D := (dC, dI)) (ci := 0) (v := .ref (a 7)) (C := RX0) (T := TX0) (N := 11) hx hb hts hiw hown hK hP 0 rfl rfl 9 (by decide) hf_41 (fun _ h9 => h9) rfl dX0_meet_1 ?_
  refine lv_iload_n hx hb dX0_meet_4 rfl (lv_at hl 1 rfl) ?_
  refine ga_zald hx hb hK hP 7 1 rfl rfl y (v := im y) rfl (by omega) (by decide) dX0_meet_5 ?_
  refine lv_if_ne (tgt := 36) hx hb dX0_meet_6 (by decide) (fun h6 => ?_) (fun h6 => ?_)
  · have hy1 := (hM.1 y).resolve_left h6
    exact W.vret hx hb hr (fun t ht hW => ⟨⟨(mk, mt, im), rfl, ⟨hM, Nat.le_refl _, fun _ _ => rfl, fun z => ⟨fun q => Or.inl q, fun q => q.elim id (fun e => by rw [e]; exact hy1)⟩⟩, by rw [ht]; exact hP, va_K.moved hW.alike hK, hD⟩, hS.F ht⟩) hS.2.2 dX0_meet_36
  · have hmk : mk < n := by rw [hM.2.1]; exact cntP_lt (y := y) (fun q => absurd (h6.symm.trans q) (by decide)) hy
    refine lv_aload_n hx hb dX0_meet_9 rfl (lv_at hl 0 rfl) ?_
    refine va_get (D := (dC, dI)) (ci := 0) (v := .ref (a 7)) (C := RX0) (T := TX0) (N := 11) hx hb hts hiw hown hK hP 0 rfl rfl 9 (by decide) hf_41 (fun _ h9 => h9) rfl dX0_meet_10 ?_
    refine lv_iload_n hx hb dX0_meet_13 rfl (lv_at hl 1 rfl) ?_
    refine lv_iconst (v := 1) hx hb dX0_meet_14 (by decide) ?_
    refine ga_zast hx hb hK hP hD hS 7 1 rfl rfl y (Or.inr rfl) (by omega) (by decide) rfl (ws' := XW cI cZ cA a n am rf mk wv lo cf tf T mt (upd im y 1)) rfl dX0_meet_15 (fun H locs hP hD hS => ?_)
    refine lv_aload_n hx hb dX0_meet_16 rfl (lv_at hl 0 rfl) ?_
    refine va_get (D := (dC, dI)) (ci := 0) (v := .ref (a 6)) (C := RX0) (T := TX0) (N := 11) hx hb hts hiw hown hK hP 0 rfl rfl 8 (by decide) hf_38 (fun _ h9 => h9) rfl dX0_meet_17 ?_
    refine lv_aload_n hx hb dX0_meet_20 rfl (lv_at hl 0 rfl) ?_
    refine va_get (D := (dC, dI)) (ci := 0) (v := .int (nI mk)) (C := RX0) (T := TX0) (N := 11) hx hb hts hiw hown hK hP 0 rfl rfl 10 (by decide) hf_44 (fun _ h9 => h9) rfl dX0_meet_21 ?_
    refine lv_iload_n hx hb dX0_meet_24 rfl (lv_at hl 1 rfl) ?_
    refine ga_iast hx hb hK hP hD hS 6 0 rfl rfl mk (by omega) (by decide) (upd_nI _ _ y) (ws' := XW cI cZ cA a n am rf mk wv lo cf tf T (va_up mt mk y) (upd im y 1)) rfl dX0_meet_25 (fun H locs hP hD hS => ?_)
    refine lv_aload_n hx hb dX0_meet_26 rfl (lv_at hl 0 rfl) ?_
    refine lv_dup hx hb dX0_meet_27 rfl ?_
    refine va_get (D := (dC, dI)) (ci := 0) (v := .int (nI mk)) (C := RX0) (T := TX0) (N := 11) hx hb hts hiw hown hK hP 0 rfl rfl 10 (by decide) hf_44 (fun _ h9 => h9) rfl dX0_meet_28 ?_
    refine lv_iconst (v := 1) hx hb dX0_meet_31 (by decide) ?_
    refine lv_iadd hx hb dX0_meet_32 ?_
    refine ga_is (y := nI (mk + 1)) (nI_1 mk) ?_
    refine va_put (D := (dC, dI)) (ci := 0) (v := .int (nI (mk + 1))) (ty := .int) (C := RX0) (T := TX0) (N := 11) hx hb hts hiw tyX0 tyX0_ok nmX0 hown hK hP hD hS 0 rfl rfl 10 (by decide) hf_44 (fun _ h9 => h9) rfl (by decide +kernel) rfl rfl (Nat.le_of_ble_eq_true rfl) dX0_meet_33 (fun H locs hP hD hS => ?_)
    have hP : va_P (dC, dI) vwCl (XW cI cZ cA a n am rf (mk + 1) wv lo cf tf T (va_up mt mk y) (upd im y 1)) H := hP
    have hD : va_D A (XW cI cZ cA a n am rf (mk + 1) wv lo cf tf T (va_up mt mk y) (upd im y 1)) := hD
    exact W.vret hx hb hr (fun t ht hW => ⟨⟨(mk + 1, va_up mt mk y, upd im y 1), rfl, ⟨hM.meet hy h6, Nat.le_succ _, fun i hi => va_up_ne _ _ (by omega), fun z => by
        show upd im y 1 z = 1 ↔ _
        by_cases e : z = y
        · rw [e, upd_s]; exact ⟨fun _ => Or.inr rfl, fun _ => rfl⟩
        · rw [upd_n e]; exact ⟨fun q => Or.inl q, fun q => q.resolve_right e⟩⟩, by rw [ht]; exact hP, va_K.moved hW.alike hK, hD⟩, hS.F ht⟩) hS.2.2 dX0_meet_36
end
section
/-- the rows of the table that hold -/
def Tok (n : Nat) (wv lo : Nat → Int32) (cf tf : Nat → Nat) (rf : Nat) (T : Nat → Nat → Int32) : Prop := rf ≤ 8 ∧ ∀ e, e < rf → ∀ x, x < n → T e x = vv wv lo cf tf e x
theorem fst_congr {f g : Nat → Int32} {v w : Int32} (hv : v = w) : ∀ k j : Nat, (∀ i, j ≤ i → i < j + k → f i = g i) → fst_ f v k j = fst_ g w k j
  | 0, _, _ => rfl
  | k + 1, j, h => by
    show (if f j = v then nI j else fst_ f v k (j + 1)) = (if g j = w then nI j else fst_ g w k (j + 1))
    rw [h j (Nat.le_refl _) (by omega), hv, fst_congr rfl k (j + 1) (fun i h1 h2 => h i (by omega) (by omega))]
theorem fst_or {f : Nat → Int32} {v : Int32} : ∀ k j : Nat, fst_ f v k j = (-1) ∨ ∃ i, j ≤ i ∧ i < j + k ∧ fst_ f v k j = nI i
  | 0, _ => Or.inl rfl
  | k + 1, j => by
    show (if f j = v then nI j else fst_ f v k (j + 1)) = (-1) ∨ ∃ i, j ≤ i ∧ i < j + (k + 1) ∧ (if f j = v then nI j else fst_ f v k (j + 1)) = nI i
    by_cases h : f j = v
    · rw [if_pos h]; exact Or.inr ⟨j, Nat.le_refl _, by omega, rfl⟩
    · rw [if_neg h]
      rcases fst_or (f := f) (v := v) k (j + 1) with q | ⟨i, h1, h2, h3⟩
      · exact Or.inl q
      · exact Or.inr ⟨i, by omega, by omega, h3⟩
theorem bm_or {cf tf : Nat → Nat} {T : Nat → Nat → Int32} {x : Nat} : ∀ d : Nat, bm cf tf T x d = (-1) ∨ ∃ i, i < cf x ∧ bm cf tf T x d = nI i
  | 0 => Or.inl rfl
  | d + 1 => by
    rcases fst_or (f := gv tf (T d) x) (v := T (d + 1) x) (cf x) 0 with q | ⟨i, h1, h2, h3⟩
    · exact Or.inl q
    · exact Or.inr ⟨i, by omega, h3⟩
theorem bm_congr {n : Nat} {cf tf : Nat → Nat} {T V : Nat → Nat → Int32} {x : Nat} (hx : x < n) (ht : ∀ x, x < n → ∀ j, j < cf x → tf (x * 6 + j) < n) : ∀ d : Nat, (∀ e, e ≤ d → ∀ y, y < n → T e y = V e y) → bm cf tf T x d = bm cf tf V x d
  | 0, _ => rfl
  | d + 1, h => fst_congr (h (d + 1) (Nat.le_refl _) x hx) _ _ (fun i _ h2 => gv_congr (h d (Nat.le_succ _) _ (ht x hx i (by omega))))
theorem cnt_congr {f g : Nat → Int32} {v w : Int32} (hv : v = w) : ∀ k : Nat, (∀ i, i < k → f i = g i) → cnt_ f v k = cnt_ g w k
  | 0, _ => rfl
  | k + 1, h => by
    show cnt_ f v k + (if f k = v then 1 else 0) = cnt_ g w k + (if g k = w then 1 else 0)
    rw [cnt_congr hv k (fun i hi => h i (by omega)), h k (by omega), hv]
theorem set_congr {f g : Nat → Int32} {v w : Int32} (hv : v = w) : ∀ k : Nat, (∀ i, i < k → f i = g i) → set_ f v k = set_ g w k
  | 0, _ => rfl
  | k + 1, h => by
    show (if f k = v then set_ f v k else k + 1) = (if g k = w then set_ g w k else k + 1)
    rw [set_congr hv k (fun i hi => h i (by omega)), h k (by omega), hv]
theorem set_le {f : Nat → Int32} {v : Int32} : ∀ k : Nat, set_ f v k ≤ k
  | 0 => Nat.le_refl _
  | k + 1 => by
    show (if f k = v then set_ f v k else k + 1) ≤ k + 1
    have := set_le (f := f) (v := v) k
    by_cases h : f k = v
    · rw [if_pos h]; omega
    · rw [if_neg h]; omega
theorem cnt_le {f : Nat → Int32} {v : Int32} : ∀ k : Nat, cnt_ f v k ≤ k
  | 0 => Nat.le_refl _
  | k + 1 => by
    show cnt_ f v k + (if f k = v then 1 else 0) ≤ k + 1
    have := cnt_le (f := f) (v := v) k
    by_cases h : f k = v
    · rw [if_pos h]; omega
    · rw [if_neg h]; omega
def rea (V v : Int32) : Int32 := if V < v then 0 else 1
/-- k steps of best play from x at the depth d -/
def lin (cf tf : Nat → Nat) (V : Nat → Nat → Int32) : Nat → Nat → Nat → Int32
  | 0, x, _ => nI x
  | k + 1, x, d => if bm cf tf V x d = (-1) then (-1) else lin cf tf V k (tf (x * 6 + (bm cf tf V x d).toNatClampNeg)) (d - 1)
theorem m1_nI {i : Nat} (h : i < 2 ^ 31) : nI i ≠ (-1) := fun q => nI_pos h (by rw [q]; decide +kernel)
set_option maxHeartbeats 4000000 in
set_option maxRecDepth 100000 in
/-- refuseWrongQuestion, a right one -/
theorem kX0_refuse (l : Launch) (dC : Nat → ClassId) (dI : Nat → Nat → Nat) (cI cZ cA : ClassId) (a : Nat → Nat) (n : Nat) (am : Nat) (rf : Nat) (mk : Nat) (wv : Nat → Int32) (lo : Nat → Int32) (cf : Nat → Nat) (tf : Nat → Nat) (T : Nat → Nat → Int32) (mt : Nat → Nat) (im : Nat → Int32) (j d : Nat) (hn4 : n ≤ 400) (hj : j < n) (hd : d < 8) : Met l yX0_refuseWrongQuestion wsX0_refuseWrongQuestion ({ frames := 6, cells := 0, slots := 0, locals := 82 }) (va_Pc [.ref (a 0), .int (nI j), .int (nI d)] (RP dC dI (GT cI cZ cA) (XW cI cZ cA a n am rf mk wv lo cf tf T mt im))) (va_Sv (fun _ => True)) 0 0 (fun _ => False) := by
  refine Met.ofW (cc := cX0_refuseWrongQuestion) (maxL := 3) (ret := none) (by decide) rfl ?_
  intro p e s m args below meth c s₁ B hml hv
  obtain ⟨rfl, hP, hK⟩ := hv
  have hx := B.exec
  have hb := B.bytes
  have hr := B.returns
  have hts := atoms_spec (ws := wsX0_refuseWrongQuestion) B.pre
  have hown : s.vm.findClass RX0 = some m.cls := findClass_of_methodNamed B.named
  have hlocks := B.notSynchronized
  have hl := lv_entry ([.ref (a 0), .int (nI j), .int (nI d)]) (n := 3) (Nat.le_of_ble_eq_true rfl)
  rw [lg_entry_eq]
  generalize (lg_sl ([.ref (a 0), .int (nI j), .int (nI d)]) ++ List.replicate (3 - (lg_sl ([.ref (a 0), .int (nI j), .int (nI d)])).length) Slot.unset).toArray = ls at hl ⊢
  have hl : lv_has ls 3 [(0, .ref (a 0)), (1, .int (nI j)), (2, .int (nI d))] := hl
  refine lv_aload_n hx hb dX0_refuseWrongQuestion_0 rfl (lv_at hl 0 rfl) ?_
  refine lv_iload_n hx hb dX0_refuseWrongQuestion_1 rfl (lv_at hl 1 rfl) ?_
  refine W.callR (r := isn (nI j) n) (W.runV (As := [.int (nI j)]) (rest := []) ⟨hx, hb, hml, hown, hts⟩ (kX0_isNode l dC dI cI cZ cA a n am rf mk wv lo cf tf T mt im (nI j)) (cwV 1 hts gX0_refuseWrongQuestion_X0_isNode rfl rfl rfl (by decide +kernel) ⟨Nat.le_of_ble_eq_true rfl, Nat.le_of_ble_eq_true rfl⟩) ⟨blindR, va_recv hK hP (ci := 0) (q0 := 0) rfl rfl, preR hP hK⟩ rfl rfl hl.1 rfl (lv_room (Nat.le_of_ble_eq_true rfl)) dX0_refuseWrongQuestion_2 ⟨Nat.zero_le _, Nat.zero_le _⟩) ?_
  refine W.eq (g2 := F0 m 5 ls [.int (isn (nI j) n)]) rfl ?_
  refine lv_if_eq (tgt := 18) hx hb dX0_refuseWrongQuestion_5 (by decide) (fun h5 => absurd h5 (by rw [isn_1 hj (by omega)]; decide)) (fun h5 => ?_)
  refine lv_iload_n hx hb dX0_refuseWrongQuestion_8 rfl (lv_at hl 2 rfl) ?_
  refine lv_if_lt (tgt := 18) hx hb dX0_refuseWrongQuestion_9 (by decide) (fun h9 => absurd h9 (nI_pos (by omega))) (fun h9 => ?_)
  refine lv_iload_n hx hb dX0_refuseWrongQuestion_12 rfl (lv_at hl 2 rfl) ?_
  refine lv_bipush (v := 7) hx hb dX0_refuseWrongQuestion_13 (by decide) ?_
  refine lv_icmp_le (tgt := 28) hx hb dX0_refuseWrongQuestion_15 (by decide) (fun h15 => ?_) (fun h15 => absurd (show nI d ≤ 7 from nI_le (b := 7) (by omega) (by decide)) h15)
  exact W.vret hx hb hr (fun t ht hW => ⟨rfl, trivial, ht⟩) (fun _ h => nomatch h) dX0_refuseWrongQuestion_28
set_option maxHeartbeats 4000000 in
set_option maxRecDepth 100000 in
/-- value -/
theorem kX0_value (l : Launch) (dC : Nat → ClassId) (dI : Nat → Nat → Nat) (cI cZ cA : ClassId) (a : Nat → Nat) (sz : Nat) (n : Nat) (am : Nat) (rf : Nat) (mk : Nat) (wv : Nat → Int32) (lo : Nat → Int32) (cf : Nat → Nat) (tf : Nat → Nat) (T : Nat → Nat → Int32) (mt : Nat → Nat) (im : Nat → Int32) (j d : Nat)  (hd : d < 8) (hG : Gok n wv lo cf tf) (hT : Tok n wv lo cf tf rf T) (hj : j < n)  : Met l yX0_value wsX0_value ({ frames := 7, cells := 0, slots := 0, locals := 111 }) (va_Pc [.ref (a 0), .int (nI j), .int (nI d)] (WP dC dI (GT cI cZ cA) (XW cI cZ cA a n am rf mk wv lo cf tf T mt im) sz)) (va_Qi (fun r (u : Nat × (Nat → Nat → Int32)) => r = vv wv lo cf tf d j ∧ Tok n wv lo cf tf u.1 u.2) (fun u => WQ dC dI (GT cI cZ cA) (va_A (XW cI cZ cA a n am rf mk wv lo cf tf T mt im) sz) (XW cI cZ cA a n am (u.1) mk wv lo cf tf (u.2) mt im)) (va_A (XW cI cZ cA a n am rf mk wv lo cf tf T mt im) sz)) 0 0 (va_A (XW cI cZ cA a n am rf mk wv lo cf tf T mt im) sz) := by
  refine Met.ofW (cc := cX0_value) (maxL := 3) (ret := (some .int)) (by decide) rfl ?_
  intro p e s m args below meth c s₁ B hml hv
  obtain ⟨rfl, hsz, hP, hK, hD0⟩ := hv
  have hx := B.exec
  have hb := B.bytes
  have hr := B.returns
  have hts := atoms_spec (ws := wsX0_value) B.pre
  have hown : s.vm.findClass RX0 = some m.cls := findClass_of_methodNamed B.named
  have hlocks := B.notSynchronized
  have hf_32 := hts (.fieldLink RX0 32 "GraphSearch" "table" "[[I") (by decide +kernel)
  have hiw : ∀ w ∈ wsX00, w ∈ wsX0_value := by decide +kernel
  subst hsz
  have hD := hD0.self (sz := s.heap.size)
  generalize hAe : va_A (XW cI cZ cA a n am rf mk wv lo cf tf T mt im) s.heap.size = A at hD ⊢
  have hA : ∀ q : Nat, s.heap.size ≤ q → A q := fun q h => by rw [← hAe]; exact Or.inr h
  have hS : va_S A s.heap s.heap [] := va_S.rf
  have hP : va_P (dC, dI) vwCl (XW cI cZ cA a n am rf mk wv lo cf tf T mt im) s.heap := hP
  have hl := lv_entry ([.ref (a 0), .int (nI j), .int (nI d)]) (n := 3) (Nat.le_of_ble_eq_true rfl)
  rw [lg_entry_eq]
  generalize (lg_sl ([.ref (a 0), .int (nI j), .int (nI d)]) ++ List.replicate (3 - (lg_sl ([.ref (a 0), .int (nI j), .int (nI d)])).length) Slot.unset).toArray = ls at hl ⊢
  have hl : lv_has ls 3 [(0, .ref (a 0)), (1, .int (nI j)), (2, .int (nI d))] := hl
  obtain ⟨hn4, hwr, hc, htt, hlo, hz0⟩ := id hG
  obtain ⟨hr8, hrv⟩ := id hT
  have hcj := hc j hj
  refine lv_aload_n hx hb dX0_value_0 rfl (lv_at hl 0 rfl) ?_
  refine lv_iload_n hx hb dX0_value_1 rfl (lv_at hl 1 rfl) ?_
  refine lv_iload_n hx hb dX0_value_2 rfl (lv_at hl 2 rfl) ?_
  refine va_csv (W.runV (As := [.int (nI j), .int (nI d)]) (rest := []) ⟨hx, hb, hml, hown, hts⟩ (kX0_refuse l dC dI cI cZ cA a n am rf mk wv lo cf tf T mt im j d hn4 hj hd) (cwV 2 hts gX0_value_X0_refuseWrongQuestion rfl rfl rfl (by decide +kernel) ⟨Nat.le_of_ble_eq_true rfl, Nat.le_of_ble_eq_true rfl⟩) ⟨blindR, va_recv hK hP (ci := 0) (q0 := 0) rfl rfl, preR hP hK⟩ rfl rfl hl.1 rfl (lv_room (Nat.le_of_ble_eq_true rfl)) dX0_value_3 ⟨Nat.zero_le _, Nat.zero_le _⟩) (fun _ => ?_)
  refine W.eq (g2 := F0 m 6 ls []) rfl ?_
  refine lv_aload_n hx hb dX0_value_6 rfl (lv_at hl 0 rfl) ?_
  refine lv_iload_n hx hb dX0_value_7 rfl (lv_at hl 2 rfl) ?_
  have hF := freeAll hD hS hA
  refine va_callv (va_runV (As := [.int (nI d)]) (rest := []) ⟨hx, hb, hml, hown, hts⟩ (kX0_deepenTo l dC dI cI cZ cA a s.heap.size n am rf mk wv lo cf tf T mt im d hd hG hr8 hrv) (cwV 1 hts gX0_value_X0_deepenTo rfl rfl rfl (by decide +kernel) ⟨Nat.le_of_ble_eq_true rfl, Nat.le_of_ble_eq_true rfl⟩) ⟨blindW, va_recv hK hP (ci := 0) (q0 := 0) rfl rfl, preW hP hK hD⟩ rfl rfl hl.1 rfl (lv_room (Nat.le_of_ble_eq_true rfl)) dX0_value_8 ⟨Nat.zero_le _, Nat.zero_le _⟩) hS (fun q _ h => hF q h) hF (fun u tS H1 locs htS hvm hw hB hz1 hk1 hS => ?_)
  obtain ⟨r1, T1⟩ := u
  obtain ⟨hr1, hr18, hv1⟩ : d < r1 ∧ r1 ≤ 8 ∧ ∀ e, e < r1 → ∀ x, x < n → T1 e x = vv wv lo cf tf e x := hw
  obtain ⟨hP1, hK1, hD1⟩ := hB
  rw [htS] at hP1
  have hP : va_P (dC, dI) vwCl (XW cI cZ cA a n am r1 mk wv lo cf tf T1 mt im) H1 := hP1
  have hD : va_D A (XW cI cZ cA a n am r1 mk wv lo cf tf T1 mt im) := hD1.weaken (fun _ _ _ h => hF _ h)
  generalize H1 = H at hP hS ⊢
  refine W.eq (g2 := F0 m 11 ls []) rfl ?_
  refine lv_aload_n hx hb dX0_value_11 rfl (lv_at hl 0 rfl) ?_
  refine va_get (D := (dC, dI)) (ci := 0) (v := .ref (a 5)) (C := RX0) (T := TX0) (N := 11) hx hb hts hiw hown hK hP 0 rfl rfl 6 (by decide) hf_32 (fun _ h9 => h9) rfl dX0_value_12 ?_
  refine lv_iload_n hx hb dX0_value_15 rfl (lv_at hl 2 rfl) ?_
  refine ga_aald hx hb hK hP 5 2 rfl rfl d (a (8 + d)) (if_pos (by omega)) (by omega) (by decide) dX0_value_16 ?_
  refine lv_iload_n hx hb dX0_value_17 rfl (lv_at hl 1 rfl) ?_
  refine ga_iald hx hb hK hP (8 + d) 0 (XW_row (by omega)) rfl j (v := T1 d j) rfl (by omega) (by decide) dX0_value_18 ?_
  exact W.iret (v := (T1 d j)) hx hb hr (fun t ht hW => ⟨⟨(T1 d j), (r1, T1), rfl, ⟨hv1 d hr1 j hj, hr18, hv1⟩, by rw [ht]; exact hP, va_K.moved hW.alike hK, hD⟩, hS.F ht⟩) hS.2.2 dX0_value_19
set_option maxHeartbeats 4000000 in
set_option maxRecDepth 100000 in
/-- best -/
theorem kX0_best (l : Launch) (dC : Nat → ClassId) (dI : Nat → Nat → Nat) (cI cZ cA : ClassId) (a : Nat → Nat) (sz : Nat) (n : Nat) (am : Nat) (rf : Nat) (mk : Nat) (wv : Nat → Int32) (lo : Nat → Int32) (cf : Nat → Nat) (tf : Nat → Nat) (T : Nat → Nat → Int32) (mt : Nat → Nat) (im : Nat → Int32) (j d : Nat)  (hd : d < 8) (hG : Gok n wv lo cf tf) (hT : Tok n wv lo cf tf rf T) (hj : j < n)  : Met l yX0_best wsX0_best ({ frames := 7, cells := 0, slots := 0, locals := 111 }) (va_Pc [.ref (a 0), .int (nI j), .int (nI d)] (WP dC dI (GT cI cZ cA) (XW cI cZ cA a n am rf mk wv lo cf tf T mt im) sz)) (va_Qi (fun r (u : Nat × (Nat → Nat → Int32)) => r = bm cf tf (vv wv lo cf tf) j d ∧ Tok n wv lo cf tf u.1 u.2) (fun u => WQ dC dI (GT cI cZ cA) (va_A (XW cI cZ cA a n am rf mk wv lo cf tf T mt im) sz) (XW cI cZ cA a n am (u.1) mk wv lo cf tf (u.2) mt im)) (va_A (XW cI cZ cA a n am rf mk wv lo cf tf T mt im) sz)) 0 0 (va_A (XW cI cZ cA a n am rf mk wv lo cf tf T mt im) sz) := by
  refine Met.ofW (cc := cX0_best) (maxL := 3) (ret := (some .int)) (by decide) rfl ?_
  intro p e s m args below meth c s₁ B hml hv
  obtain ⟨rfl, hsz, hP, hK, hD0⟩ := hv
  have hx := B.exec
  have hb := B.bytes
  have hr := B.returns
  have hts := atoms_spec (ws := wsX0_best) B.pre
  have hown : s.vm.findClass RX0 = some m.cls := findClass_of_methodNamed B.named
  have hlocks := B.notSynchronized
  subst hsz
  have hD := hD0.self (sz := s.heap.size)
  generalize hAe : va_A (XW cI cZ cA a n am rf mk wv lo cf tf T mt im) s.heap.size = A at hD ⊢
  have hA : ∀ q : Nat, s.heap.size ≤ q → A q := fun q h => by rw [← hAe]; exact Or.inr h
  have hS : va_S A s.heap s.heap [] := va_S.rf
  have hP : va_P (dC, dI) vwCl (XW cI cZ cA a n am rf mk wv lo cf tf T mt im) s.heap := hP
  have hl := lv_entry ([.ref (a 0), .int (nI j), .int (nI d)]) (n := 3) (Nat.le_of_ble_eq_true rfl)
  rw [lg_entry_eq]
  generalize (lg_sl ([.ref (a 0), .int (nI j), .int (nI d)]) ++ List.replicate (3 - (lg_sl ([.ref (a 0), .int (nI j), .int (nI d)])).length) Slot.unset).toArray = ls at hl ⊢
  have hl : lv_has ls 3 [(0, .ref (a 0)), (1, .int (nI j)), (2, .int (nI d))] := hl
  obtain ⟨hn4, hwr, hc, htt, hlo, hz0⟩ := id hG
  obtain ⟨hr8, hrv⟩ := id hT
  have hcj := hc j hj
  refine lv_aload_n hx hb dX0_best_0 rfl (lv_at hl 0 rfl) ?_
  refine lv_iload_n hx hb dX0_best_1 rfl (lv_at hl 1 rfl) ?_
  refine lv_iload_n hx hb dX0_best_2 rfl (lv_at hl 2 rfl) ?_
  refine va_csv (W.runV (As := [.int (nI j), .int (nI d)]) (rest := []) ⟨hx, hb, hml, hown, hts⟩ (kX0_refuse l dC dI cI cZ cA a n am rf mk wv lo cf tf T mt im j d hn4 hj hd) (cwV 2 hts gX0_best_X0_refuseWrongQuestion rfl rfl rfl (by decide +kernel) ⟨Nat.le_of_ble_eq_true rfl, Nat.le_of_ble_eq_true rfl⟩) ⟨blindR, va_recv hK hP (ci := 0) (q0 := 0) rfl rfl, preR hP hK⟩ rfl rfl hl.1 rfl (lv_room (Nat.le_of_ble_eq_true rfl)) dX0_best_3 ⟨Nat.zero_le _, Nat.zero_le _⟩) (fun _ => ?_)
  refine W.eq (g2 := F0 m 6 ls []) rfl ?_
  refine lv_aload_n hx hb dX0_best_6 rfl (lv_at hl 0 rfl) ?_
  refine lv_iload_n hx hb dX0_best_7 rfl (lv_at hl 2 rfl) ?_
  have hF := freeAll hD hS hA
  refine va_callv (va_runV (As := [.int (nI d)]) (rest := []) ⟨hx, hb, hml, hown, hts⟩ (kX0_deepenTo l dC dI cI cZ cA a s.heap.size n am rf mk wv lo cf tf T mt im d hd hG hr8 hrv) (cwV 1 hts gX0_best_X0_deepenTo rfl rfl rfl (by decide +kernel) ⟨Nat.le_of_ble_eq_true rfl, Nat.le_of_ble_eq_true rfl⟩) ⟨blindW, va_recv hK hP (ci := 0) (q0 := 0) rfl rfl, preW hP hK hD⟩ rfl rfl hl.1 rfl (lv_room (Nat.le_of_ble_eq_true rfl)) dX0_best_8 ⟨Nat.zero_le _, Nat.zero_le _⟩) hS (fun q _ h => hF q h) hF (fun u tS H1 locs htS hvm hw hB hz1 hk1 hS => ?_)
  obtain ⟨r1, T1⟩ := u
  obtain ⟨hr1, hr18, hv1⟩ : d < r1 ∧ r1 ≤ 8 ∧ ∀ e, e < r1 → ∀ x, x < n → T1 e x = vv wv lo cf tf e x := hw
  obtain ⟨hP1, hK1, hD1⟩ := hB
  rw [htS] at hP1
  have hP : va_P (dC, dI) vwCl (XW cI cZ cA a n am r1 mk wv lo cf tf T1 mt im) H1 := hP1
  have hD : va_D A (XW cI cZ cA a n am r1 mk wv lo cf tf T1 mt im) := hD1.weaken (fun _ _ _ h => hF _ h)
  generalize H1 = H at hP hS ⊢
  refine W.eq (g2 := F0 m 11 ls []) rfl ?_
  refine lv_aload_n hx hb dX0_best_11 rfl (lv_at hl 0 rfl) ?_
  refine lv_iload_n hx hb dX0_best_12 rfl (lv_at hl 1 rfl) ?_
  refine lv_iload_n hx hb dX0_best_13 rfl (lv_at hl 2 rfl) ?_
  refine W.callR (r := bm cf tf T1 j d) (W.runV (As := [.int (nI j), .int (nI d)]) (rest := []) ⟨hx, hb, hml, hown, hts⟩ (kX0_bestMove l dC dI cI cZ cA a n am r1 mk wv lo cf tf T1 mt im j d hd (by omega) hcj (fun i hi => by have := htt j hj i hi; omega)) (cwV 2 hts gX0_best_X0_bestMove rfl rfl rfl (by decide +kernel) ⟨Nat.le_of_ble_eq_true rfl, Nat.le_of_ble_eq_true rfl⟩) ⟨blindR, va_recv hK hP (ci := 0) (q0 := 0) rfl rfl, preR hP hK⟩ rfl rfl hl.1 rfl (lv_room (Nat.le_of_ble_eq_true rfl)) dX0_best_14 ⟨Nat.zero_le _, Nat.zero_le _⟩) ?_
  refine W.eq (g2 := F0 m 17 ls [.int (bm cf tf T1 j d)]) rfl ?_
  exact W.iret (v := (bm cf tf T1 j d)) hx hb hr (fun t ht hW => ⟨⟨(bm cf tf T1 j d), (r1, T1), rfl, ⟨bm_congr hj htt d (fun e he y hy => hv1 e (by omega) y hy), hr18, hv1⟩, by rw [ht]; exact hP, va_K.moved hW.alike hK, hD⟩, hS.F ht⟩) hS.2.2 dX0_best_17
set_option maxHeartbeats 4000000 in
set_option maxRecDepth 100000 in
/-- reaches -/
theorem kX0_reaches (l : Launch) (dC : Nat → ClassId) (dI : Nat → Nat → Nat) (cI cZ cA : ClassId) (a : Nat → Nat) (sz : Nat) (n : Nat) (am : Nat) (rf : Nat) (mk : Nat) (wv : Nat → Int32) (lo : Nat → Int32) (cf : Nat → Nat) (tf : Nat → Nat) (T : Nat → Nat → Int32) (mt : Nat → Nat) (im : Nat → Int32) (j d : Nat) (v : Int32) (hd : d < 8) (hG : Gok n wv lo cf tf) (hT : Tok n wv lo cf tf rf T) (hj : j < n)  : Met l yX0_reaches wsX0_reaches ({ frames := 7, cells := 0, slots := 0, locals := 111 }) (va_Pc [.ref (a 0), .int (nI j), .int (nI d), .int v] (WP dC dI (GT cI cZ cA) (XW cI cZ cA a n am rf mk wv lo cf tf T mt im) sz)) (va_Qi (fun r (u : Nat × (Nat → Nat → Int32)) => r = rea (vv wv lo cf tf d j) v ∧ Tok n wv lo cf tf u.1 u.2) (fun u => WQ dC dI (GT cI cZ cA) (va_A (XW cI cZ cA a n am rf mk wv lo cf tf T mt im) sz) (XW cI cZ cA a n am (u.1) mk wv lo cf tf (u.2) mt im)) (va_A (XW cI cZ cA a n am rf mk wv lo cf tf T mt im) sz)) 0 0 (va_A (XW cI cZ cA a n am rf mk wv lo cf tf T mt im) sz) := by
  refine Met.ofW (cc := cX0_reaches) (maxL := 4) (ret := (some .boolean)) (by decide) rfl ?_
  intro p e s m args below meth c s₁ B hml hv
  obtain ⟨rfl, hsz, hP, hK, hD0⟩ := hv
  have hx := B.exec
  have hb := B.bytes
  have hr := B.returns
  have hts := atoms_spec (ws := wsX0_reaches) B.pre
  have hown : s.vm.findClass RX0 = some m.cls := findClass_of_methodNamed B.named
  have hlocks := B.notSynchronized
  have hf_32 := hts (.fieldLink RX0 32 "GraphSearch" "table" "[[I") (by decide +kernel)
  have hiw : ∀ w ∈ wsX00, w ∈ wsX0_reaches := by decide +kernel
  subst hsz
  have hD := hD0.self (sz := s.heap.size)
  generalize hAe : va_A (XW cI cZ cA a n am rf mk wv lo cf tf T mt im) s.heap.size = A at hD ⊢
  have hA : ∀ q : Nat, s.heap.size ≤ q → A q := fun q h => by rw [← hAe]; exact Or.inr h
  have hS : va_S A s.heap s.heap [] := va_S.rf
  have hP : va_P (dC, dI) vwCl (XW cI cZ cA a n am rf mk wv lo cf tf T mt im) s.heap := hP
  have hl := lv_entry ([.ref (a 0), .int (nI j), .int (nI d), .int v]) (n := 4) (Nat.le_of_ble_eq_true rfl)
  rw [lg_entry_eq]
  generalize (lg_sl ([.ref (a 0), .int (nI j), .int (nI d), .int v]) ++ List.replicate (4 - (lg_sl ([.ref (a 0), .int (nI j), .int (nI d), .int v])).length) Slot.unset).toArray = ls at hl ⊢
  have hl : lv_has ls 4 [(0, .ref (a 0)), (1, .int (nI j)), (2, .int (nI d)), (3, .int v)] := hl
  obtain ⟨hn4, hwr, hc, htt, hlo, hz0⟩ := id hG
  obtain ⟨hr8, hrv⟩ := id hT
  have hcj := hc j hj
  refine lv_aload_n hx hb dX0_reaches_0 rfl (lv_at hl 0 rfl) ?_
  refine lv_iload_n hx hb dX0_reaches_1 rfl (lv_at hl 1 rfl) ?_
  refine lv_iload_n hx hb dX0_reaches_2 rfl (lv_at hl 2 rfl) ?_
  refine va_csv (W.runV (As := [.int (nI j), .int (nI d)]) (rest := []) ⟨hx, hb, hml, hown, hts⟩ (kX0_refuse l dC dI cI cZ cA a n am rf mk wv lo cf tf T mt im j d hn4 hj hd) (cwV 2 hts gX0_reaches_X0_refuseWrongQuestion rfl rfl rfl (by decide +kernel) ⟨Nat.le_of_ble_eq_true rfl, Nat.le_of_ble_eq_true rfl⟩) ⟨blindR, va_recv hK hP (ci := 0) (q0 := 0) rfl rfl, preR hP hK⟩ rfl rfl hl.1 rfl (lv_room (Nat.le_of_ble_eq_true rfl)) dX0_reaches_3 ⟨Nat.zero_le _, Nat.zero_le _⟩) (fun _ => ?_)
  refine W.eq (g2 := F0 m 6 ls []) rfl ?_
  refine lv_aload_n hx hb dX0_reaches_6 rfl (lv_at hl 0 rfl) ?_
  refine lv_iload_n hx hb dX0_reaches_7 rfl (lv_at hl 2 rfl) ?_
  have hF := freeAll hD hS hA
  refine va_callv (va_runV (As := [.int (nI d)]) (rest := []) ⟨hx, hb, hml, hown, hts⟩ (kX0_deepenTo l dC dI cI cZ cA a s.heap.size n am rf mk wv lo cf tf T mt im d hd hG hr8 hrv) (cwV 1 hts gX0_reaches_X0_deepenTo rfl rfl rfl (by decide +kernel) ⟨Nat.le_of_ble_eq_true rfl, Nat.le_of_ble_eq_true rfl⟩) ⟨blindW, va_recv hK hP (ci := 0) (q0 := 0) rfl rfl, preW hP hK hD⟩ rfl rfl hl.1 rfl (lv_room (Nat.le_of_ble_eq_true rfl)) dX0_reaches_8 ⟨Nat.zero_le _, Nat.zero_le _⟩) hS (fun q _ h => hF q h) hF (fun u tS H1 locs htS hvm hw hB hz1 hk1 hS => ?_)
  obtain ⟨r1, T1⟩ := u
  obtain ⟨hr1, hr18, hv1⟩ : d < r1 ∧ r1 ≤ 8 ∧ ∀ e, e < r1 → ∀ x, x < n → T1 e x = vv wv lo cf tf e x := hw
  obtain ⟨hP1, hK1, hD1⟩ := hB
  rw [htS] at hP1
  have hP : va_P (dC, dI) vwCl (XW cI cZ cA a n am r1 mk wv lo cf tf T1 mt im) H1 := hP1
  have hD : va_D A (XW cI cZ cA a n am r1 mk wv lo cf tf T1 mt im) := hD1.weaken (fun _ _ _ h => hF _ h)
  generalize H1 = H at hP hS ⊢
  refine W.eq (g2 := F0 m 11 ls []) rfl ?_
  refine lv_aload_n hx hb dX0_reaches_11 rfl (lv_at hl 0 rfl) ?_
  refine va_get (D := (dC, dI)) (ci := 0) (v := .ref (a 5)) (C := RX0) (T := TX0) (N := 11) hx hb hts hiw hown hK hP 0 rfl rfl 6 (by decide) hf_32 (fun _ h9 => h9) rfl dX0_reaches_12 ?_
  refine lv_iload_n hx hb dX0_reaches_15 rfl (lv_at hl 2 rfl) ?_
  refine ga_aald hx hb hK hP 5 2 rfl rfl d (a (8 + d)) (if_pos (by omega)) (by omega) (by decide) dX0_reaches_16 ?_
  refine lv_iload_n hx hb dX0_reaches_17 rfl (lv_at hl 1 rfl) ?_
  refine ga_iald hx hb hK hP (8 + d) 0 (XW_row (by omega)) rfl j (v := T1 d j) rfl (by omega) (by decide) dX0_reaches_18 ?_
  refine lv_iload_n hx hb dX0_reaches_19 rfl (lv_at hl 3 rfl) ?_
  refine lv_icmp_lt (tgt := 27) hx hb dX0_reaches_20 (by decide) (fun h20 => ?_) (fun h20 => ?_)
  · refine lv_iconst (v := 0) hx hb dX0_reaches_27 (by decide) ?_
    exact W.zret (v := 0) hx hb hr (by decide) (fun t ht hW => ⟨⟨0, (r1, T1), rfl, ⟨by rw [rea, ← hv1 d hr1 j hj, if_pos h20], hr18, hv1⟩, by rw [ht]; exact hP, va_K.moved hW.alike hK, hD⟩, hS.F ht⟩) hS.2.2 dX0_reaches_28
  · refine lv_iconst (v := 1) hx hb dX0_reaches_23 (by decide) ?_
    refine lv_goto (tgt := 28) hx hb dX0_reaches_24 (by decide) ?_
    exact W.zret (v := 1) hx hb hr (by decide) (fun t ht hW => ⟨⟨1, (r1, T1), rfl, ⟨by rw [rea, ← hv1 d hr1 j hj, if_neg h20], hr18, hv1⟩, by rw [ht]; exact hP, va_K.moved hW.alike hK, hD⟩, hS.F ht⟩) hS.2.2 dX0_reaches_28
set_option maxHeartbeats 4000000 in
set_option maxRecDepth 100000 in
/-- settled -/
theorem kX0_settled (l : Launch) (dC : Nat → ClassId) (dI : Nat → Nat → Nat) (cI cZ cA : ClassId) (a : Nat → Nat) (sz : Nat) (n : Nat) (am : Nat) (rf : Nat) (mk : Nat) (wv : Nat → Int32) (lo : Nat → Int32) (cf : Nat → Nat) (tf : Nat → Nat) (T : Nat → Nat → Int32) (mt : Nat → Nat) (im : Nat → Int32) (j d : Nat)  (hd : d < 8) (hG : Gok n wv lo cf tf) (hT : Tok n wv lo cf tf rf T) (hj : j < n)  : Met l yX0_settled wsX0_settled ({ frames := 7, cells := 0, slots := 0, locals := 111 }) (va_Pc [.ref (a 0), .int (nI j), .int (nI d)] (WP dC dI (GT cI cZ cA) (XW cI cZ cA a n am rf mk wv lo cf tf T mt im) sz)) (va_Qi (fun r (u : Nat × (Nat → Nat → Int32)) => r = nI (set_ (fun e => vv wv lo cf tf e j) (vv wv lo cf tf d j) d) ∧ Tok n wv lo cf tf u.1 u.2) (fun u => WQ dC dI (GT cI cZ cA) (va_A (XW cI cZ cA a n am rf mk wv lo cf tf T mt im) sz) (XW cI cZ cA a n am (u.1) mk wv lo cf tf (u.2) mt im)) (va_A (XW cI cZ cA a n am rf mk wv lo cf tf T mt im) sz)) 0 0 (va_A (XW cI cZ cA a n am rf mk wv lo cf tf T mt im) sz) := by
  refine Met.ofW (cc := cX0_settled) (maxL := 4) (ret := (some .int)) (by decide) rfl ?_
  intro p e s m args below meth c s₁ B hml hv
  obtain ⟨rfl, hsz, hP, hK, hD0⟩ := hv
  have hx := B.exec
  have hb := B.bytes
  have hr := B.returns
  have hts := atoms_spec (ws := wsX0_settled) B.pre
  have hown : s.vm.findClass RX0 = some m.cls := findClass_of_methodNamed B.named
  have hlocks := B.notSynchronized
  have hf_32 := hts (.fieldLink RX0 32 "GraphSearch" "table" "[[I") (by decide +kernel)
  have hiw : ∀ w ∈ wsX00, w ∈ wsX0_settled := by decide +kernel
  subst hsz
  have hD := hD0.self (sz := s.heap.size)
  generalize hAe : va_A (XW cI cZ cA a n am rf mk wv lo cf tf T mt im) s.heap.size = A at hD ⊢
  have hA : ∀ q : Nat, s.heap.size ≤ q → A q := fun q h => by rw [← hAe]; exact Or.inr h
  have hS : va_S A s.heap s.heap [] := va_S.rf
  have hP : va_P (dC, dI) vwCl (XW cI cZ cA a n am rf mk wv lo cf tf T mt im) s.heap := hP
  have hl := lv_entry ([.ref (a 0), .int (nI j), .int (nI d)]) (n := 4) (Nat.le_of_ble_eq_true rfl)
  rw [lg_entry_eq]
  generalize (lg_sl ([.ref (a 0), .int (nI j), .int (nI d)]) ++ List.replicate (4 - (lg_sl ([.ref (a 0), .int (nI j), .int (nI d)])).length) Slot.unset).toArray = ls at hl ⊢
  have hl : lv_has ls 4 [(0, .ref (a 0)), (1, .int (nI j)), (2, .int (nI d))] := hl
  obtain ⟨hn4, hwr, hc, htt, hlo, hz0⟩ := id hG
  obtain ⟨hr8, hrv⟩ := id hT
  have hcj := hc j hj
  refine lv_aload_n hx hb dX0_settled_0 rfl (lv_at hl 0 rfl) ?_
  refine lv_iload_n hx hb dX0_settled_1 rfl (lv_at hl 1 rfl) ?_
  refine lv_iload_n hx hb dX0_settled_2 rfl (lv_at hl 2 rfl) ?_
  refine va_csv (W.runV (As := [.int (nI j), .int (nI d)]) (rest := []) ⟨hx, hb, hml, hown, hts⟩ (kX0_refuse l dC dI cI cZ cA a n am rf mk wv lo cf tf T mt im j d hn4 hj hd) (cwV 2 hts gX0_settled_X0_refuseWrongQuestion rfl rfl rfl (by decide +kernel) ⟨Nat.le_of_ble_eq_true rfl, Nat.le_of_ble_eq_true rfl⟩) ⟨blindR, va_recv hK hP (ci := 0) (q0 := 0) rfl rfl, preR hP hK⟩ rfl rfl hl.1 rfl (lv_room (Nat.le_of_ble_eq_true rfl)) dX0_settled_3 ⟨Nat.zero_le _, Nat.zero_le _⟩) (fun _ => ?_)
  refine W.eq (g2 := F0 m 6 ls []) rfl ?_
  refine lv_aload_n hx hb dX0_settled_6 rfl (lv_at hl 0 rfl) ?_
  refine lv_iload_n hx hb dX0_settled_7 rfl (lv_at hl 2 rfl) ?_
  have hF := freeAll hD hS hA
  refine va_callv (va_runV (As := [.int (nI d)]) (rest := []) ⟨hx, hb, hml, hown, hts⟩ (kX0_deepenTo l dC dI cI cZ cA a s.heap.size n am rf mk wv lo cf tf T mt im d hd hG hr8 hrv) (cwV 1 hts gX0_settled_X0_deepenTo rfl rfl rfl (by decide +kernel) ⟨Nat.le_of_ble_eq_true rfl, Nat.le_of_ble_eq_true rfl⟩) ⟨blindW, va_recv hK hP (ci := 0) (q0 := 0) rfl rfl, preW hP hK hD⟩ rfl rfl hl.1 rfl (lv_room (Nat.le_of_ble_eq_true rfl)) dX0_settled_8 ⟨Nat.zero_le _, Nat.zero_le _⟩) hS (fun q _ h => hF q h) hF (fun u tS H1 locs htS hvm hw hB hz1 hk1 hS => ?_)
  obtain ⟨r1, T1⟩ := u
  obtain ⟨hr1, hr18, hv1⟩ : d < r1 ∧ r1 ≤ 8 ∧ ∀ e, e < r1 → ∀ x, x < n → T1 e x = vv wv lo cf tf e x := hw
  obtain ⟨hP1, hK1, hD1⟩ := hB
  rw [htS] at hP1
  have hP : va_P (dC, dI) vwCl (XW cI cZ cA a n am r1 mk wv lo cf tf T1 mt im) H1 := hP1
  have hD : va_D A (XW cI cZ cA a n am r1 mk wv lo cf tf T1 mt im) := hD1.weaken (fun _ _ _ h => hF _ h)
  generalize H1 = H at hP hS ⊢
  refine W.eq (g2 := F0 m 11 ls []) rfl ?_
  refine lv_iload_n hx hb dX0_settled_11 rfl (lv_at hl 2 rfl) ?_
  refine lv_istore_n (lv' := [(3, .int (nI d)), (0, .ref (a 0)), (1, .int (nI j)), (2, .int (nI d))]) hx hb dX0_settled_12 rfl hl (by decide) rfl (fun ls hl => ?_)
  have loop : ∀ k : Nat, k ≤ d → set_ (fun e => vv wv lo cf tf e j) (vv wv lo cf tf d j) k = set_ (fun e => vv wv lo cf tf e j) (vv wv lo cf tf d j) d → ∀ ls : Array Slot, lv_has ls 4 [(3, .int (nI k)), (0, .ref (a 0)), (1, .int (nI j)), (2, .int (nI d))] → W p l e (headSpec wsX0_settled (({ frames := 7, cells := 0, slots := 0, locals := 111 }) : Room)).room s m ([.ref (a 0), .int (nI j), .int (nI d)] : List Value).toArray below meth c H locs 0 0 (MQ below (va_Qi (fun r (u : Nat × (Nat → Nat → Int32)) => r = nI (set_ (fun e => vv wv lo cf tf e j) (vv wv lo cf tf d j) d) ∧ Tok n wv lo cf tf u.1 u.2) (fun u => WQ dC dI (GT cI cZ cA) A (XW cI cZ cA a n am (u.1) mk wv lo cf tf (u.2) mt im)) A) ([.ref (a 0), .int (nI j), .int (nI d)] : List Value).toArray s 0 0 A) (F0 m 13 ls []) := by
    intro k
    induction k with
    | zero =>
      intro hk he ls hl
      refine lv_iload_n hx hb dX0_settled_13 rfl (lv_at hl 0 rfl) ?_
      refine lv_if_le (tgt := 44) hx hb dX0_settled_14 (by decide) (fun h14 => ?_) (fun h14 => absurd (show nI 0 ≤ 0 from Int32.le_refl _) h14)
      refine lv_iload_n hx hb dX0_settled_44 rfl (lv_at hl 0 rfl) ?_
      exact W.iret (v := (nI 0)) hx hb hr (fun t ht hW => ⟨⟨(nI 0), (r1, T1), rfl, ⟨by rw [← he]; rfl, hr18, hv1⟩, by rw [ht]; exact hP, va_K.moved hW.alike hK, hD⟩, hS.F ht⟩) hS.2.2 dX0_settled_45
    | succ k ih =>
      intro hk he ls hl
      refine lv_iload_n hx hb dX0_settled_13 rfl (lv_at hl 0 rfl) ?_
      refine lv_if_le (tgt := 44) hx hb dX0_settled_14 (by decide) (fun h14 => absurd h14 (nI_nle (by omega) (by omega))) (fun h14 => ?_)
      refine lv_aload_n hx hb dX0_settled_17 rfl (lv_at hl 1 rfl) ?_
      refine va_get (D := (dC, dI)) (ci := 0) (v := .ref (a 5)) (C := RX0) (T := TX0) (N := 11) hx hb hts hiw hown hK hP 0 rfl rfl 6 (by decide) hf_32 (fun _ h9 => h9) rfl dX0_settled_18 ?_
      refine lv_iload_n hx hb dX0_settled_21 rfl (lv_at hl 0 rfl) ?_
      refine lv_iconst (v := 1) hx hb dX0_settled_22 (by decide) ?_
      refine lv_isub hx hb dX0_settled_23 ?_
      refine ga_is (y := nI k) (nI_pred k) ?_
      refine ga_aald hx hb hK hP 5 2 rfl rfl k (a (8 + k)) (if_pos (by omega)) (by omega) (by decide) dX0_settled_24 ?_
      refine lv_iload_n hx hb dX0_settled_25 rfl (lv_at hl 2 rfl) ?_
      refine ga_iald hx hb hK hP (8 + k) 0 (XW_row (by omega)) rfl j (v := T1 k j) rfl (by omega) (by decide) dX0_settled_26 ?_
      refine lv_aload_n hx hb dX0_settled_27 rfl (lv_at hl 1 rfl) ?_
      refine va_get (D := (dC, dI)) (ci := 0) (v := .ref (a 5)) (C := RX0) (T := TX0) (N := 11) hx hb hts hiw hown hK hP 0 rfl rfl 6 (by decide) hf_32 (fun _ h9 => h9) rfl dX0_settled_28 ?_
      refine lv_iload_n hx hb dX0_settled_31 rfl (lv_at hl 3 rfl) ?_
      refine ga_aald hx hb hK hP 5 2 rfl rfl d (a (8 + d)) (if_pos (by omega)) (by omega) (by decide) dX0_settled_32 ?_
      refine lv_iload_n hx hb dX0_settled_33 rfl (lv_at hl 2 rfl) ?_
      refine ga_iald hx hb hK hP (8 + d) 0 (XW_row (by omega)) rfl j (v := T1 d j) rfl (by omega) (by decide) dX0_settled_34 ?_
      refine lv_icmp_ne (tgt := 44) hx hb dX0_settled_35 (by decide) (fun h35 => ?_) (fun h35 => ?_)
      · refine lv_iload_n hx hb dX0_settled_44 rfl (lv_at hl 0 rfl) ?_
        exact W.iret (v := (nI (k + 1))) hx hb hr (fun t ht hW => ⟨⟨(nI (k + 1)), (r1, T1), rfl, ⟨by rw [← he, set_, if_neg (by rw [hv1 k (by omega) j hj, hv1 d hr1 j hj] at h35; exact h35)], hr18, hv1⟩, by rw [ht]; exact hP, va_K.moved hW.alike hK, hD⟩, hS.F ht⟩) hS.2.2 dX0_settled_45
      · refine lv_iinc (v := nI k) (lv' := [(3, .int (nI k)), (0, .ref (a 0)), (1, .int (nI j)), (2, .int (nI d))]) hx hb dX0_settled_38 hl (k := 0) rfl (pk_m1 k) (by decide) rfl (fun ls hl => ?_)
        refine lv_goto (tgt := 13) hx hb dX0_settled_41 (by decide) ?_
        exact ih (by omega) (by rw [← he, set_, if_pos (by rw [hv1 k (by omega) j hj, hv1 d hr1 j hj] at h35; exact h35)]) ls (lv_sub hl [0, 1, 2, 3] rfl)
  exact loop d (Nat.le_refl _) rfl ls (lv_sub hl [0, 1, 2, 3] rfl)
end
section
def tie (cf tf : Nat → Nat) (V : Nat → Nat → Int32) (x : Nat) : Nat → Nat
  | 0 => 0
  | d + 1 => cnt_ (gv tf (V d) x) (V (d + 1) x) (cf x)
set_option maxHeartbeats 4000000 in
set_option maxRecDepth 100000 in
/-- ties -/
theorem kX0_ties (l : Launch) (dC : Nat → ClassId) (dI : Nat → Nat → Nat) (cI cZ cA : ClassId) (a : Nat → Nat) (sz : Nat) (n : Nat) (am : Nat) (rf : Nat) (mk : Nat) (wv : Nat → Int32) (lo : Nat → Int32) (cf : Nat → Nat) (tf : Nat → Nat) (T : Nat → Nat → Int32) (mt : Nat → Nat) (im : Nat → Int32) (j d : Nat)  (hd : d < 8) (hG : Gok n wv lo cf tf) (hT : Tok n wv lo cf tf rf T) (hj : j < n)  : Met l yX0_ties wsX0_ties ({ frames := 7, cells := 0, slots := 0, locals := 111 }) (va_Pc [.ref (a 0), .int (nI j), .int (nI d)] (WP dC dI (GT cI cZ cA) (XW cI cZ cA a n am rf mk wv lo cf tf T mt im) sz)) (va_Qi (fun r (u : Nat × (Nat → Nat → Int32)) => r = nI (tie cf tf (vv wv lo cf tf) j d) ∧ Tok n wv lo cf tf u.1 u.2) (fun u => WQ dC dI (GT cI cZ cA) (va_A (XW cI cZ cA a n am rf mk wv lo cf tf T mt im) sz) (XW cI cZ cA a n am (u.1) mk wv lo cf tf (u.2) mt im)) (va_A (XW cI cZ cA a n am rf mk wv lo cf tf T mt im) sz)) 0 0 (va_A (XW cI cZ cA a n am rf mk wv lo cf tf T mt im) sz) := by
  refine Met.ofW (cc := cX0_ties) (maxL := 5) (ret := (some .int)) (by decide) rfl ?_
  intro p e s m args below meth c s₁ B hml hv
  obtain ⟨rfl, hsz, hP, hK, hD0⟩ := hv
  have hx := B.exec
  have hb := B.bytes
  have hr := B.returns
  have hts := atoms_spec (ws := wsX0_ties) B.pre
  have hown : s.vm.findClass RX0 = some m.cls := findClass_of_methodNamed B.named
  have hlocks := B.notSynchronized
  have hf_17 := hts (.fieldLink RX0 17 "GraphSearch" "moveCounts" "[I") (by decide +kernel)
  have hf_32 := hts (.fieldLink RX0 32 "GraphSearch" "table" "[[I") (by decide +kernel)
  have hiw : ∀ w ∈ wsX00, w ∈ wsX0_ties := by decide +kernel
  subst hsz
  have hD := hD0.self (sz := s.heap.size)
  generalize hAe : va_A (XW cI cZ cA a n am rf mk wv lo cf tf T mt im) s.heap.size = A at hD ⊢
  have hA : ∀ q : Nat, s.heap.size ≤ q → A q := fun q h => by rw [← hAe]; exact Or.inr h
  have hS : va_S A s.heap s.heap [] := va_S.rf
  have hP : va_P (dC, dI) vwCl (XW cI cZ cA a n am rf mk wv lo cf tf T mt im) s.heap := hP
  have hl := lv_entry ([.ref (a 0), .int (nI j), .int (nI d)]) (n := 5) (Nat.le_of_ble_eq_true rfl)
  rw [lg_entry_eq]
  generalize (lg_sl ([.ref (a 0), .int (nI j), .int (nI d)]) ++ List.replicate (5 - (lg_sl ([.ref (a 0), .int (nI j), .int (nI d)])).length) Slot.unset).toArray = ls at hl ⊢
  have hl : lv_has ls 5 [(0, .ref (a 0)), (1, .int (nI j)), (2, .int (nI d))] := hl
  obtain ⟨hn4, hwr, hc, htt, hlo, hz0⟩ := id hG
  obtain ⟨hr8, hrv⟩ := id hT
  have hcj := hc j hj
  refine lv_aload_n hx hb dX0_ties_0 rfl (lv_at hl 0 rfl) ?_
  refine lv_iload_n hx hb dX0_ties_1 rfl (lv_at hl 1 rfl) ?_
  refine lv_iload_n hx hb dX0_ties_2 rfl (lv_at hl 2 rfl) ?_
  refine va_csv (W.runV (As := [.int (nI j), .int (nI d)]) (rest := []) ⟨hx, hb, hml, hown, hts⟩ (kX0_refuse l dC dI cI cZ cA a n am rf mk wv lo cf tf T mt im j d hn4 hj hd) (cwV 2 hts gX0_ties_X0_refuseWrongQuestion rfl rfl rfl (by decide +kernel) ⟨Nat.le_of_ble_eq_true rfl, Nat.le_of_ble_eq_true rfl⟩) ⟨blindR, va_recv hK hP (ci := 0) (q0 := 0) rfl rfl, preR hP hK⟩ rfl rfl hl.1 rfl (lv_room (Nat.le_of_ble_eq_true rfl)) dX0_ties_3 ⟨Nat.zero_le _, Nat.zero_le _⟩) (fun _ => ?_)
  refine W.eq (g2 := F0 m 6 ls []) rfl ?_
  refine lv_iload_n hx hb dX0_ties_6 rfl (lv_at hl 2 rfl) ?_
  refine lv_if_ne (tgt := 12) hx hb dX0_ties_7 (by decide) (fun h7 => ?_) (fun h7 => ?_)
  · obtain ⟨d, rfl⟩ : ∃ k, d = k + 1 := Nat.exists_eq_succ_of_ne_zero (fun z => h7 (by rw [z]; rfl))
    refine lv_aload_n hx hb dX0_ties_12 rfl (lv_at hl 0 rfl) ?_
    refine lv_iload_n hx hb dX0_ties_13 rfl (lv_at hl 2 rfl) ?_
    have hF := freeAll hD hS hA
    refine va_callv (va_runV (As := [.int (nI (d + 1))]) (rest := []) ⟨hx, hb, hml, hown, hts⟩ (kX0_deepenTo l dC dI cI cZ cA a s.heap.size n am rf mk wv lo cf tf T mt im (d + 1) hd hG hr8 hrv) (cwV 1 hts gX0_ties_X0_deepenTo rfl rfl rfl (by decide +kernel) ⟨Nat.le_of_ble_eq_true rfl, Nat.le_of_ble_eq_true rfl⟩) ⟨blindW, va_recv hK hP (ci := 0) (q0 := 0) rfl rfl, preW hP hK hD⟩ rfl rfl hl.1 rfl (lv_room (Nat.le_of_ble_eq_true rfl)) dX0_ties_14 ⟨Nat.zero_le _, Nat.zero_le _⟩) hS (fun q _ h => hF q h) hF (fun u tS H1 locs htS hvm hw hB hz1 hk1 hS => ?_)
    obtain ⟨r1, T1⟩ := u
    obtain ⟨hr1, hr18, hv1⟩ : d + 1 < r1 ∧ r1 ≤ 8 ∧ ∀ e, e < r1 → ∀ x, x < n → T1 e x = vv wv lo cf tf e x := hw
    obtain ⟨hP1, hK1, hD1⟩ := hB
    rw [htS] at hP1
    have hP : va_P (dC, dI) vwCl (XW cI cZ cA a n am r1 mk wv lo cf tf T1 mt im) H1 := hP1
    have hD : va_D A (XW cI cZ cA a n am r1 mk wv lo cf tf T1 mt im) := hD1.weaken (fun _ _ _ h => hF _ h)
    generalize H1 = H at hP hS ⊢
    refine W.eq (g2 := F0 m 17 ls []) rfl ?_
    refine lv_iconst (v := 0) hx hb dX0_ties_17 (by decide) ?_
    refine ga_is (y := nI 0) (rfl) ?_
    refine lv_istore_n (lv' := [(3, .int (nI 0)), (0, .ref (a 0)), (1, .int (nI j)), (2, .int (nI (d + 1)))]) hx hb dX0_ties_18 rfl hl (by decide) rfl (fun ls hl => ?_)
    refine lv_iconst (v := 0) hx hb dX0_ties_19 (by decide) ?_
    refine ga_is (y := nI 0) (rfl) ?_
    refine lv_istore (lv' := [(4, .int (nI 0)), (3, .int (nI 0)), (0, .ref (a 0)), (1, .int (nI j)), (2, .int (nI (d + 1)))]) hx hb dX0_ties_20 hl (by decide) rfl (fun ls hl => ?_)
    have loop : ∀ k i : Nat, i + k = cf j → ∀ ls : Array Slot, lv_has ls 5 [(4, .int (nI i)), (3, .int (nI (cnt_ (gv tf (T1 d) j) (T1 (d + 1) j) i))), (0, .ref (a 0)), (1, .int (nI j)), (2, .int (nI (d + 1)))] → W p l e (headSpec wsX0_ties (({ frames := 7, cells := 0, slots := 0, locals := 111 }) : Room)).room s m ([.ref (a 0), .int (nI j), .int (nI (d + 1))] : List Value).toArray below meth c H locs 0 0 (MQ below (va_Qi (fun r (u : Nat × (Nat → Nat → Int32)) => r = nI (tie cf tf (vv wv lo cf tf) j (d + 1)) ∧ Tok n wv lo cf tf u.1 u.2) (fun u => WQ dC dI (GT cI cZ cA) A (XW cI cZ cA a n am (u.1) mk wv lo cf tf (u.2) mt im)) A) ([.ref (a 0), .int (nI j), .int (nI (d + 1))] : List Value).toArray s 0 0 A) (F0 m 22 ls []) := by
      intro k
      induction k with
      | zero =>
        intro i hi ls hl
        obtain rfl : i = cf j := by omega
        refine lv_iload hx hb dX0_ties_22 (lv_at hl 0 rfl) ?_
        refine lv_aload_n hx hb dX0_ties_24 rfl (lv_at hl 2 rfl) ?_
        refine va_get (D := (dC, dI)) (ci := 0) (v := .ref (a 3)) (C := RX0) (T := TX0) (N := 11) hx hb hts hiw hown hK hP 0 rfl rfl 2 (by decide) hf_17 (fun _ h9 => h9) rfl dX0_ties_25 ?_
        refine lv_iload_n hx hb dX0_ties_28 rfl (lv_at hl 3 rfl) ?_
        refine ga_iald hx hb hK hP 3 0 rfl rfl j (v := nI (cf j)) rfl (by omega) (by decide) dX0_ties_29 ?_
        refine lv_icmp_ge (tgt := 61) hx hb dX0_ties_30 (by decide) (fun h30 => ?_) (fun h30 => absurd (Int32.le_refl _) h30)
        refine lv_iload_n hx hb dX0_ties_61 rfl (lv_at hl 1 rfl) ?_
        exact W.iret (v := (nI (cnt_ (gv tf (T1 d) j) (T1 (d + 1) j) (cf j)))) hx hb hr (fun t ht hW => ⟨⟨(nI (cnt_ (gv tf (T1 d) j) (T1 (d + 1) j) (cf j))), (r1, T1), rfl, ⟨congrArg nI (cnt_congr (hv1 (d + 1) hr1 j hj) _ (fun i hi => gv_congr (hv1 d (by omega) _ (htt j hj i hi)))), hr18, hv1⟩, by rw [ht]; exact hP, va_K.moved hW.alike hK, hD⟩, hS.F ht⟩) hS.2.2 dX0_ties_62
      | succ k ih =>
        intro i hi ls hl
        refine lv_iload hx hb dX0_ties_22 (lv_at hl 0 rfl) ?_
        refine lv_aload_n hx hb dX0_ties_24 rfl (lv_at hl 2 rfl) ?_
        refine va_get (D := (dC, dI)) (ci := 0) (v := .ref (a 3)) (C := RX0) (T := TX0) (N := 11) hx hb hts hiw hown hK hP 0 rfl rfl 2 (by decide) hf_17 (fun _ h9 => h9) rfl dX0_ties_25 ?_
        refine lv_iload_n hx hb dX0_ties_28 rfl (lv_at hl 3 rfl) ?_
        refine ga_iald hx hb hK hP 3 0 rfl rfl j (v := nI (cf j)) rfl (by omega) (by decide) dX0_ties_29 ?_
        refine lv_icmp_ge (tgt := 61) hx hb dX0_ties_30 (by decide) (fun h30 => absurd h30 (nI_ge (by omega) (by omega))) (fun h30 => ?_)
        refine lv_aload_n hx hb dX0_ties_33 rfl (lv_at hl 2 rfl) ?_
        refine lv_iload_n hx hb dX0_ties_34 rfl (lv_at hl 3 rfl) ?_
        refine lv_iload hx hb dX0_ties_35 (lv_at hl 0 rfl) ?_
        refine lv_iload_n hx hb dX0_ties_37 rfl (lv_at hl 4 rfl) ?_
        refine W.callR (r := gv tf (T1 d) j i) (W.runV (As := [.int (nI j), .int (nI i), .int (nI (d + 1))]) (rest := []) ⟨hx, hb, hml, hown, hts⟩ (kX0_moveValue l dC dI cI cZ cA a n am r1 mk wv lo cf tf T1 mt im j i d (by omega) (by omega) (by have := htt j hj i (by omega); omega)) (cwV 3 hts gX0_ties_X0_moveValue rfl rfl rfl (by decide +kernel) ⟨Nat.le_of_ble_eq_true rfl, Nat.le_of_ble_eq_true rfl⟩) ⟨blindR, va_recv hK hP (ci := 0) (q0 := 0) rfl rfl, preR hP hK⟩ rfl rfl hl.1 rfl (lv_room (Nat.le_of_ble_eq_true rfl)) dX0_ties_38 ⟨Nat.zero_le _, Nat.zero_le _⟩) ?_
        refine W.eq (g2 := F0 m 41 ls [.int (gv tf (T1 d) j i)]) rfl ?_
        refine lv_aload_n hx hb dX0_ties_41 rfl (lv_at hl 2 rfl) ?_
        refine va_get (D := (dC, dI)) (ci := 0) (v := .ref (a 5)) (C := RX0) (T := TX0) (N := 11) hx hb hts hiw hown hK hP 0 rfl rfl 6 (by decide) hf_32 (fun _ h9 => h9) rfl dX0_ties_42 ?_
        refine lv_iload_n hx hb dX0_ties_45 rfl (lv_at hl 4 rfl) ?_
        refine ga_aald hx hb hK hP 5 2 rfl rfl (d + 1) (a (8 + (d + 1))) (if_pos (by omega)) (by omega) (by decide) dX0_ties_46 ?_
        refine lv_iload_n hx hb dX0_ties_47 rfl (lv_at hl 3 rfl) ?_
        refine ga_iald hx hb hK hP (8 + (d + 1)) 0 (XW_row (by omega)) rfl j (v := T1 (d + 1) j) rfl (by omega) (by decide) dX0_ties_48 ?_
        refine lv_icmp_ne (tgt := 55) hx hb dX0_ties_49 (by decide) (fun h49 => ?_) (fun h49 => ?_)
        · refine lv_iinc (v := nI (i + 1)) (lv' := [(4, .int (nI (i + 1))), (3, .int (nI (cnt_ (gv tf (T1 d) j) (T1 (d + 1) j) i))), (0, .ref (a 0)), (1, .int (nI j)), (2, .int (nI (d + 1)))]) hx hb dX0_ties_55 hl (k := 0) rfl (nI_1 i) (by decide) rfl (fun ls hl => ?_)
          refine lv_goto (tgt := 22) hx hb dX0_ties_58 (by decide) ?_
          refine ih (i + 1) (by omega) ls ?_
          rw [cnt_, if_neg h49, Nat.add_zero]
          exact lv_sub hl [0, 1, 2, 3, 4] rfl
        · refine lv_iinc (v := nI (cnt_ (gv tf (T1 d) j) (T1 (d + 1) j) i + 1)) (lv' := [(3, .int (nI (cnt_ (gv tf (T1 d) j) (T1 (d + 1) j) i + 1))), (4, .int (nI i)), (0, .ref (a 0)), (1, .int (nI j)), (2, .int (nI (d + 1)))]) hx hb dX0_ties_52 hl (k := 1) rfl (nI_1 _) (by decide) rfl (fun ls hl => ?_)
          refine lv_iinc (v := nI (i + 1)) (lv' := [(4, .int (nI (i + 1))), (3, .int (nI (cnt_ (gv tf (T1 d) j) (T1 (d + 1) j) i + 1))), (0, .ref (a 0)), (1, .int (nI j)), (2, .int (nI (d + 1)))]) hx hb dX0_ties_55 hl (k := 1) rfl (nI_1 i) (by decide) rfl (fun ls hl => ?_)
          refine lv_goto (tgt := 22) hx hb dX0_ties_58 (by decide) ?_
          refine ih (i + 1) (by omega) ls ?_
          rw [cnt_, if_pos h49]
          exact lv_sub hl [0, 1, 2, 3, 4] rfl
    exact loop (cf j) 0 (by omega) ls (lv_sub hl [0, 1, 2, 3, 4] rfl)
  · refine lv_iconst (v := 0) hx hb dX0_ties_10 (by decide) ?_
    obtain rfl : d = 0 := (nI_eq (by omega) (by decide)).mp h7
    exact W.iret (v := 0) hx hb hr (fun t ht hW => ⟨⟨0, (rf, T), rfl, ⟨rfl, hr8, hrv⟩, by rw [ht]; exact hP, va_K.moved hW.alike hK, hD⟩, hS.F ht⟩) hS.2.2 dX0_ties_11
set_option maxHeartbeats 4000000 in
set_option maxRecDepth 100000 in
/-- line, no such place -/
theorem kX0_line_no (l : Launch) (dC : Nat → ClassId) (dI : Nat → Nat → Nat) (cI cZ cA : ClassId) (a : Nat → Nat) (n : Nat) (am : Nat) (rf : Nat) (mk : Nat) (wv : Nat → Int32) (lo : Nat → Int32) (cf : Nat → Nat) (tf : Nat → Nat) (T : Nat → Nat → Int32) (mt : Nat → Nat) (im : Nat → Int32) (j d : Nat) (i : Int32) (hn4 : n ≤ 400) (hj : j < n) (hd : d < 8) (hi : i < 0 ∨ nI d < i) : Met l yX0_line wsX0_line ({ frames := 7, cells := 0, slots := 0, locals := 111 }) (va_Pc [.ref (a 0), .int (nI j), .int (nI d), .int i] (RP dC dI (GT cI cZ cA) (XW cI cZ cA a n am rf mk wv lo cf tf T mt im))) (QcRead (-1)) 0 0 (fun _ => False) := by
  refine Met.ofW (cc := cX0_line) (maxL := 7) (ret := (some .int)) (by decide) rfl ?_
  intro p e s m args below meth c s₁ B hml hv
  obtain ⟨rfl, hP, hK⟩ := hv
  have hx := B.exec
  have hb := B.bytes
  have hr := B.returns
  have hts := atoms_spec (ws := wsX0_line) B.pre
  have hown : s.vm.findClass RX0 = some m.cls := findClass_of_methodNamed B.named
  have hlocks := B.notSynchronized
  have hf_20 := hts (.fieldLink RX0 20 "GraphSearch" "targets" "[I") (by decide +kernel)
  have hiw : ∀ w ∈ wsX00, w ∈ wsX0_line := by decide +kernel
  have hl := lv_entry ([.ref (a 0), .int (nI j), .int (nI d), .int i]) (n := 7) (Nat.le_of_ble_eq_true rfl)
  rw [lg_entry_eq]
  generalize (lg_sl ([.ref (a 0), .int (nI j), .int (nI d), .int i]) ++ List.replicate (7 - (lg_sl ([.ref (a 0), .int (nI j), .int (nI d), .int i])).length) Slot.unset).toArray = ls at hl ⊢
  have hl : lv_has ls 7 [(0, .ref (a 0)), (1, .int (nI j)), (2, .int (nI d)), (3, .int i)] := hl
  refine lv_aload_n hx hb dX0_line_0 rfl (lv_at hl 0 rfl) ?_
  refine lv_iload_n hx hb dX0_line_1 rfl (lv_at hl 1 rfl) ?_
  refine lv_iload_n hx hb dX0_line_2 rfl (lv_at hl 2 rfl) ?_
  refine va_csv (W.runV (As := [.int (nI j), .int (nI d)]) (rest := []) ⟨hx, hb, hml, hown, hts⟩ (kX0_refuse l dC dI cI cZ cA a n am rf mk wv lo cf tf T mt im j d hn4 hj hd) (cwV 2 hts gX0_line_X0_refuseWrongQuestion rfl rfl rfl (by decide +kernel) ⟨Nat.le_of_ble_eq_true rfl, Nat.le_of_ble_eq_true rfl⟩) ⟨blindR, va_recv hK hP (ci := 0) (q0 := 0) rfl rfl, preR hP hK⟩ rfl rfl hl.1 rfl (lv_room (Nat.le_of_ble_eq_true rfl)) dX0_line_3 ⟨Nat.zero_le _, Nat.zero_le _⟩) (fun _ => ?_)
  refine W.eq (g2 := F0 m 6 ls []) rfl ?_
  refine lv_iload_n hx hb dX0_line_6 rfl (lv_at hl 3 rfl) ?_
  refine lv_if_lt (tgt := 15) hx hb dX0_line_7 (by decide) (fun h7 => ?_) (fun h7 => ?_)
  · refine lv_iconst (v := (-1)) hx hb dX0_line_15 (by decide) ?_
    exact W.iret (v := (-1)) hx hb hr (fun t ht hW => ⟨rfl, ht⟩) (fun _ h => nomatch h) dX0_line_16
  · refine lv_iload_n hx hb dX0_line_10 rfl (lv_at hl 3 rfl) ?_
    refine lv_iload_n hx hb dX0_line_11 rfl (lv_at hl 2 rfl) ?_
    refine lv_icmp_le (tgt := 17) hx hb dX0_line_12 (by decide) (fun h12 => absurd h12 (fun q => by rcases hi with z | z; exact h7 z; rw [Int32.le_iff_toInt_le] at q; rw [Int32.lt_iff_toInt_lt] at z; omega)) (fun h12 => ?_)
    refine lv_iconst (v := (-1)) hx hb dX0_line_15 (by decide) ?_
    exact W.iret (v := (-1)) hx hb hr (fun t ht hW => ⟨rfl, ht⟩) (fun _ h => nomatch h) dX0_line_16
set_option maxHeartbeats 4000000 in
set_option maxRecDepth 100000 in
/-- line -/
theorem kX0_line (l : Launch) (dC : Nat → ClassId) (dI : Nat → Nat → Nat) (cI cZ cA : ClassId) (a : Nat → Nat) (sz : Nat) (n : Nat) (am : Nat) (rf : Nat) (mk : Nat) (wv : Nat → Int32) (lo : Nat → Int32) (cf : Nat → Nat) (tf : Nat → Nat) (T : Nat → Nat → Int32) (mt : Nat → Nat) (im : Nat → Int32) (j d : Nat) (i : Nat) (hd : d < 8) (hG : Gok n wv lo cf tf) (hT : Tok n wv lo cf tf rf T) (hj : j < n) (hi : i ≤ d) : Met l yX0_line wsX0_line ({ frames := 7, cells := 0, slots := 0, locals := 111 }) (va_Pc [.ref (a 0), .int (nI j), .int (nI d), .int (nI i)] (WP dC dI (GT cI cZ cA) (XW cI cZ cA a n am rf mk wv lo cf tf T mt im) sz)) (va_Qi (fun r (u : Nat × (Nat → Nat → Int32)) => r = lin cf tf (vv wv lo cf tf) i j d ∧ Tok n wv lo cf tf u.1 u.2) (fun u => WQ dC dI (GT cI cZ cA) (va_A (XW cI cZ cA a n am rf mk wv lo cf tf T mt im) sz) (XW cI cZ cA a n am (u.1) mk wv lo cf tf (u.2) mt im)) (va_A (XW cI cZ cA a n am rf mk wv lo cf tf T mt im) sz)) 0 0 (va_A (XW cI cZ cA a n am rf mk wv lo cf tf T mt im) sz) := by
  refine Met.ofW (cc := cX0_line) (maxL := 7) (ret := (some .int)) (by decide) rfl ?_
  intro p e s m args below meth c s₁ B hml hv
  obtain ⟨rfl, hsz, hP, hK, hD0⟩ := hv
  have hx := B.exec
  have hb := B.bytes
  have hr := B.returns
  have hts := atoms_spec (ws := wsX0_line) B.pre
  have hown : s.vm.findClass RX0 = some m.cls := findClass_of_methodNamed B.named
  have hlocks := B.notSynchronized
  have hf_20 := hts (.fieldLink RX0 20 "GraphSearch" "targets" "[I") (by decide +kernel)
  have hiw : ∀ w ∈ wsX00, w ∈ wsX0_line := by decide +kernel
  subst hsz
  have hD := hD0.self (sz := s.heap.size)
  generalize hAe : va_A (XW cI cZ cA a n am rf mk wv lo cf tf T mt im) s.heap.size = A at hD ⊢
  have hA : ∀ q : Nat, s.heap.size ≤ q → A q := fun q h => by rw [← hAe]; exact Or.inr h
  have hS : va_S A s.heap s.heap [] := va_S.rf
  have hP : va_P (dC, dI) vwCl (XW cI cZ cA a n am rf mk wv lo cf tf T mt im) s.heap := hP
  have hl := lv_entry ([.ref (a 0), .int (nI j), .int (nI d), .int (nI i)]) (n := 7) (Nat.le_of_ble_eq_true rfl)
  rw [lg_entry_eq]
  generalize (lg_sl ([.ref (a 0), .int (nI j), .int (nI d), .int (nI i)]) ++ List.replicate (7 - (lg_sl ([.ref (a 0), .int (nI j), .int (nI d), .int (nI i)])).length) Slot.unset).toArray = ls at hl ⊢
  have hl : lv_has ls 7 [(0, .ref (a 0)), (1, .int (nI j)), (2, .int (nI d)), (3, .int (nI i))] := hl
  obtain ⟨hn4, hwr, hc, htt, hlo, hz0⟩ := id hG
  obtain ⟨hr8, hrv⟩ := id hT
  have hcj := hc j hj
  refine lv_aload_n hx hb dX0_line_0 rfl (lv_at hl 0 rfl) ?_
  refine lv_iload_n hx hb dX0_line_1 rfl (lv_at hl 1 rfl) ?_
  refine lv_iload_n hx hb dX0_line_2 rfl (lv_at hl 2 rfl) ?_
  refine va_csv (W.runV (As := [.int (nI j), .int (nI d)]) (rest := []) ⟨hx, hb, hml, hown, hts⟩ (kX0_refuse l dC dI cI cZ cA a n am rf mk wv lo cf tf T mt im j d hn4 hj hd) (cwV 2 hts gX0_line_X0_refuseWrongQuestion rfl rfl rfl (by decide +kernel) ⟨Nat.le_of_ble_eq_true rfl, Nat.le_of_ble_eq_true rfl⟩) ⟨blindR, va_recv hK hP (ci := 0) (q0 := 0) rfl rfl, preR hP hK⟩ rfl rfl hl.1 rfl (lv_room (Nat.le_of_ble_eq_true rfl)) dX0_line_3 ⟨Nat.zero_le _, Nat.zero_le _⟩) (fun _ => ?_)
  refine W.eq (g2 := F0 m 6 ls []) rfl ?_
  refine lv_iload_n hx hb dX0_line_6 rfl (lv_at hl 3 rfl) ?_
  refine lv_if_lt (tgt := 15) hx hb dX0_line_7 (by decide) (fun h7 => absurd h7 (nI_pos (by omega))) (fun h7 => ?_)
  refine lv_iload_n hx hb dX0_line_10 rfl (lv_at hl 3 rfl) ?_
  refine lv_iload_n hx hb dX0_line_11 rfl (lv_at hl 2 rfl) ?_
  refine lv_icmp_le (tgt := 17) hx hb dX0_line_12 (by decide) (fun h12 => ?_) (fun h12 => absurd (nI_le hi (by omega)) h12)
  refine lv_aload_n hx hb dX0_line_17 rfl (lv_at hl 0 rfl) ?_
  refine lv_iload_n hx hb dX0_line_18 rfl (lv_at hl 2 rfl) ?_
  have hF := freeAll hD hS hA
  refine va_callv (va_runV (As := [.int (nI d)]) (rest := []) ⟨hx, hb, hml, hown, hts⟩ (kX0_deepenTo l dC dI cI cZ cA a s.heap.size n am rf mk wv lo cf tf T mt im d hd hG hr8 hrv) (cwV 1 hts gX0_line_X0_deepenTo rfl rfl rfl (by decide +kernel) ⟨Nat.le_of_ble_eq_true rfl, Nat.le_of_ble_eq_true rfl⟩) ⟨blindW, va_recv hK hP (ci := 0) (q0 := 0) rfl rfl, preW hP hK hD⟩ rfl rfl hl.1 rfl (lv_room (Nat.le_of_ble_eq_true rfl)) dX0_line_19 ⟨Nat.zero_le _, Nat.zero_le _⟩) hS (fun q _ h => hF q h) hF (fun u tS H1 locs htS hvm hw hB hz1 hk1 hS => ?_)
  obtain ⟨r1, T1⟩ := u
  obtain ⟨hr1, hr18, hv1⟩ : d < r1 ∧ r1 ≤ 8 ∧ ∀ e, e < r1 → ∀ x, x < n → T1 e x = vv wv lo cf tf e x := hw
  obtain ⟨hP1, hK1, hD1⟩ := hB
  rw [htS] at hP1
  have hP : va_P (dC, dI) vwCl (XW cI cZ cA a n am r1 mk wv lo cf tf T1 mt im) H1 := hP1
  have hD : va_D A (XW cI cZ cA a n am r1 mk wv lo cf tf T1 mt im) := hD1.weaken (fun _ _ _ h => hF _ h)
  generalize H1 = H at hP hS ⊢
  refine W.eq (g2 := F0 m 22 ls []) rfl ?_
  refine lv_iload_n hx hb dX0_line_22 rfl (lv_at hl 1 rfl) ?_
  refine lv_istore (lv' := [(4, .int (nI j)), (0, .ref (a 0)), (1, .int (nI j)), (2, .int (nI d)), (3, .int (nI i))]) hx hb dX0_line_23 hl (by decide) rfl (fun ls hl => ?_)
  refine lv_iconst (v := 0) hx hb dX0_line_25 (by decide) ?_
  refine ga_is (y := nI 0) (rfl) ?_
  refine lv_istore (lv' := [(5, .int (nI 0)), (4, .int (nI j)), (0, .ref (a 0)), (1, .int (nI j)), (2, .int (nI d)), (3, .int (nI i))]) hx hb dX0_line_26 hl (by decide) rfl (fun ls hl => ?_)
  have loop : ∀ k t x : Nat, t + k = i → x < n → lin cf tf (vv wv lo cf tf) k x (d - t) = lin cf tf (vv wv lo cf tf) i j d → ∀ ls : Array Slot, lv_has ls 7 [(5, .int (nI t)), (4, .int (nI x)), (0, .ref (a 0)), (1, .int (nI j)), (2, .int (nI d)), (3, .int (nI i))] → W p l e (headSpec wsX0_line (({ frames := 7, cells := 0, slots := 0, locals := 111 }) : Room)).room s m ([.ref (a 0), .int (nI j), .int (nI d), .int (nI i)] : List Value).toArray below meth c H locs 0 0 (MQ below (va_Qi (fun r (u : Nat × (Nat → Nat → Int32)) => r = lin cf tf (vv wv lo cf tf) i j d ∧ Tok n wv lo cf tf u.1 u.2) (fun u => WQ dC dI (GT cI cZ cA) A (XW cI cZ cA a n am (u.1) mk wv lo cf tf (u.2) mt im)) A) ([.ref (a 0), .int (nI j), .int (nI d), .int (nI i)] : List Value).toArray s 0 0 A) (F0 m 28 ls []) := by
    intro k
    induction k with
    | zero =>
      intro t x ht hxn he ls hl
      obtain rfl : t = i := by omega
      refine lv_iload hx hb dX0_line_28 (lv_at hl 0 rfl) ?_
      refine lv_iload_n hx hb dX0_line_30 rfl (lv_at hl 5 rfl) ?_
      refine lv_icmp_ge (tgt := 74) hx hb dX0_line_31 (by decide) (fun h31 => ?_) (fun h31 => absurd (Int32.le_refl _) h31)
      refine lv_iload hx hb dX0_line_74 (lv_at hl 1 rfl) ?_
      exact W.iret (v := (nI x)) hx hb hr (fun t ht hW => ⟨⟨(nI x), (r1, T1), rfl, ⟨by rw [← he]; rfl, hr18, hv1⟩, by rw [ht]; exact hP, va_K.moved hW.alike hK, hD⟩, hS.F ht⟩) hS.2.2 dX0_line_76
    | succ k ih =>
      intro t x ht hxn he ls hl
      have hcx := hc x hxn
      have hbm := bm_congr hxn htt (d - t) (fun e he y hy => hv1 e (by omega) y hy)
      refine lv_iload hx hb dX0_line_28 (lv_at hl 0 rfl) ?_
      refine lv_iload_n hx hb dX0_line_30 rfl (lv_at hl 5 rfl) ?_
      refine lv_icmp_ge (tgt := 74) hx hb dX0_line_31 (by decide) (fun h31 => absurd h31 (nI_ge (by omega) (by omega))) (fun h31 => ?_)
      refine lv_aload_n hx hb dX0_line_34 rfl (lv_at hl 2 rfl) ?_
      refine lv_iload hx hb dX0_line_35 (lv_at hl 1 rfl) ?_
      refine lv_iload_n hx hb dX0_line_37 rfl (lv_at hl 4 rfl) ?_
      refine lv_iload hx hb dX0_line_38 (lv_at hl 0 rfl) ?_
      refine lv_isub hx hb dX0_line_40 ?_
      refine ga_is (y := nI (d - t)) (pk_sub (by omega)) ?_
      refine W.callR (r := bm cf tf T1 x (d - t)) (W.runV (As := [.int (nI x), .int (nI (d - t))]) (rest := []) ⟨hx, hb, hml, hown, hts⟩ (kX0_bestMove l dC dI cI cZ cA a n am r1 mk wv lo cf tf T1 mt im x (d - t) (by omega) (by omega) hcx (fun i hi => by have := htt x hxn i hi; omega)) (cwV 2 hts gX0_line_X0_bestMove rfl rfl rfl (by decide +kernel) ⟨Nat.le_of_ble_eq_true rfl, Nat.le_of_ble_eq_true rfl⟩) ⟨blindR, va_recv hK hP (ci := 0) (q0 := 0) rfl rfl, preR hP hK⟩ rfl rfl hl.1 rfl (lv_room (Nat.le_of_ble_eq_true rfl)) dX0_line_41 ⟨Nat.zero_le _, Nat.zero_le _⟩) ?_
      refine W.eq (g2 := F0 m 44 ls [.int (bm cf tf T1 x (d - t))]) rfl ?_
      refine ga_is (y := bm cf tf (vv wv lo cf tf) x (d - t)) (hbm) ?_
      refine lv_istore (lv' := [(6, .int (bm cf tf (vv wv lo cf tf) x (d - t))), (5, .int (nI t)), (4, .int (nI x)), (0, .ref (a 0)), (1, .int (nI j)), (2, .int (nI d)), (3, .int (nI i))]) hx hb dX0_line_44 hl (by decide) rfl (fun ls hl => ?_)
      refine lv_iload hx hb dX0_line_46 (lv_at hl 0 rfl) ?_
      refine lv_iconst (v := (-1)) hx hb dX0_line_48 (by decide) ?_
      refine lv_icmp_ne (tgt := 54) hx hb dX0_line_49 (by decide) (fun h49 => ?_) (fun h49 => ?_)
      · obtain ⟨b, hb6, hbe⟩ := (bm_or (cf := cf) (tf := tf) (T := vv wv lo cf tf) (x := x) (d - t)).resolve_left h49
        have htb := htt x hxn b hb6
        rw [lin, if_neg h49, hbe, nI_clamp (by omega)] at he
        rw [hbe] at hl
        refine lv_aload_n hx hb dX0_line_54 rfl (lv_at hl 3 rfl) ?_
        refine va_get (D := (dC, dI)) (ci := 0) (v := .ref (a 4)) (C := RX0) (T := TX0) (N := 11) hx hb hts hiw hown hK hP 0 rfl rfl 3 (by decide) hf_20 (fun _ h9 => h9) rfl dX0_line_55 ?_
        refine lv_iload hx hb dX0_line_58 (lv_at hl 2 rfl) ?_
        refine lv_iload hx hb dX0_line_60 (lv_at hl 0 rfl) ?_
        refine W.callR (r := nI (x * 6 + b)) (W.runS (As := [.int (nI x), .int (nI b)]) (rest := [.ref (a 4)]) ⟨hx, hb, hml, hown, hts⟩ (kX0_place l x b) (va_cwS 2 hts gX0_line_X0_place rfl rfl rfl (by decide +kernel) ⟨Nat.le_of_ble_eq_true rfl, Nat.le_of_ble_eq_true rfl⟩) ⟨blindT, fun _ _ _ => ⟨rfl, trivial⟩⟩ rfl rfl hl.1 rfl (lv_room (Nat.le_of_ble_eq_true rfl)) dX0_line_62 ⟨Nat.zero_le _, Nat.zero_le _⟩) ?_
        refine W.eq (g2 := F0 m 65 ls [.int (nI (x * 6 + b)), .ref (a 4)]) rfl ?_
        refine ga_iald hx hb hK hP 4 0 rfl rfl (x * 6 + b) (v := nI (tf (x * 6 + b))) rfl (by omega) (by decide) dX0_line_65 ?_
        refine lv_istore (lv' := [(4, .int (nI (tf (x * 6 + b)))), (6, .int (nI b)), (5, .int (nI t)), (0, .ref (a 0)), (1, .int (nI j)), (2, .int (nI d)), (3, .int (nI i))]) hx hb dX0_line_66 hl (by decide) rfl (fun ls hl => ?_)
        refine lv_iinc (v := nI (t + 1)) (lv' := [(5, .int (nI (t + 1))), (4, .int (nI (tf (x * 6 + b)))), (6, .int (nI b)), (0, .ref (a 0)), (1, .int (nI j)), (2, .int (nI d)), (3, .int (nI i))]) hx hb dX0_line_68 hl (k := 2) rfl (nI_1 t) (by decide) rfl (fun ls hl => ?_)
        refine lv_goto (tgt := 28) hx hb dX0_line_71 (by decide) ?_
        exact ih (t + 1) _ (by omega) htb (by rw [← he]; congr 1) ls (lv_sub hl [0, 1, 3, 4, 5, 6] rfl)
      · refine lv_iconst (v := (-1)) hx hb dX0_line_52 (by decide) ?_
        exact W.iret (v := (-1)) hx hb hr (fun t ht hW => ⟨⟨(-1), (r1, T1), rfl, ⟨by rw [← he, lin, if_pos h49], hr18, hv1⟩, by rw [ht]; exact hP, va_K.moved hW.alike hK, hD⟩, hS.F ht⟩) hS.2.2 dX0_line_53
  exact loop i 0 j (by omega) hj rfl ls (lv_sub hl [0, 1, 2, 3, 4, 5] rfl)
end
section
set_option maxHeartbeats 4000000 in
set_option maxRecDepth 100000 in
/-- meetTargets -/
theorem kX0_meetTargets (l : Launch) (dC : Nat → ClassId) (dI : Nat → Nat → Nat) (cI cZ cA : ClassId) (a : Nat → Nat) (sz : Nat) (n : Nat) (am : Nat) (rf : Nat) (mk : Nat) (wv : Nat → Int32) (lo : Nat → Int32) (cf : Nat → Nat) (tf : Nat → Nat) (T : Nat → Nat → Int32) (mt : Nat → Nat) (im : Nat → Int32) (x : Nat) (hG : Gok n wv lo cf tf) (hxn : x < n) (hM : Mrun n mk mt im) : Met l yX0_meetTargets wsX0_meetTargets ({ frames := 1, cells := 0, slots := 0, locals := 21 }) (va_Pc [.ref (a 0), .int (nI x)] (WP dC dI (GT cI cZ cA) (XW cI cZ cA a n am rf mk wv lo cf tf T mt im) sz)) (va_Qv (fun u : Nat × (Nat → Nat) × (Nat → Int32) => Mrun n u.1 u.2.1 u.2.2 ∧ mk ≤ u.1 ∧ (∀ i, i < mk → u.2.1 i = mt i) ∧ ∀ z, u.2.2 z = 1 ↔ im z = 1 ∨ ∃ j, j < cf x ∧ tf (x * 6 + j) = z) (fun u => WQ dC dI (GT cI cZ cA) (va_A (XW cI cZ cA a n am rf mk wv lo cf tf T mt im) sz) (XW cI cZ cA a n am rf (u.1) wv lo cf tf T (u.2.1) (u.2.2))) (va_A (XW cI cZ cA a n am rf mk wv lo cf tf T mt im) sz)) 0 0 (va_A (XW cI cZ cA a n am rf mk wv lo cf tf T mt im) sz) := by
  refine Met.ofW (cc := cX0_meetTargets) (maxL := 3) (ret := none) (by decide) rfl ?_
  intro p e s m args below meth c s₁ B hml hv
  obtain ⟨rfl, hsz, hP, hK, hD0⟩ := hv
  have hx := B.exec
  have hb := B.bytes
  have hr := B.returns
  have hts := atoms_spec (ws := wsX0_meetTargets) B.pre
  have hown : s.vm.findClass RX0 = some m.cls := findClass_of_methodNamed B.named
  have hlocks := B.notSynchronized
  have hf_17 := hts (.fieldLink RX0 17 "GraphSearch" "moveCounts" "[I") (by decide +kernel)
  have hf_20 := hts (.fieldLink RX0 20 "GraphSearch" "targets" "[I") (by decide +kernel)
  have hiw : ∀ w ∈ wsX00, w ∈ wsX0_meetTargets := by decide +kernel
  subst hsz
  have hD := hD0.self (sz := s.heap.size)
  generalize hAe : va_A (XW cI cZ cA a n am rf mk wv lo cf tf T mt im) s.heap.size = A at hD ⊢
  have hA : ∀ q : Nat, s.heap.size ≤ q → A q := fun q h => by rw [← hAe]; exact Or.inr h
  have hS : va_S A s.heap s.heap [] := va_S.rf
  have hP : va_P (dC, dI) vwCl (XW cI cZ cA a n am rf mk wv lo cf tf T mt im) s.heap := hP
  have hl := lv_entry ([.ref (a 0), .int (nI x)]) (n := 3) (Nat.le_of_ble_eq_true rfl)
  rw [lg_entry_eq]
  generalize (lg_sl ([.ref (a 0), .int (nI x)]) ++ List.replicate (3 - (lg_sl ([.ref (a 0), .int (nI x)])).length) Slot.unset).toArray = ls at hl ⊢
  have hl : lv_has ls 3 [(0, .ref (a 0)), (1, .int (nI x))] := hl
  obtain ⟨hn4, hwr, hc, htt, hlo, hz0⟩ := id hG
  have hcx := hc x hxn
  refine lv_iconst (v := 0) hx hb dX0_meetTargets_0 (by decide) ?_
  refine ga_is (y := nI 0) (rfl) ?_
  refine lv_istore_n (lv' := [(2, .int (nI 0)), (0, .ref (a 0)), (1, .int (nI x))]) hx hb dX0_meetTargets_1 rfl hl (by decide) rfl (fun ls hl => ?_)
  have loop : ∀ (k j : Nat), j + k = cf x → ∀ (mk1 : Nat) (mt1 : Nat → Nat) (im1 : Nat → Int32), Mrun n mk1 mt1 im1 → mk ≤ mk1 → (∀ i, i < mk → mt1 i = mt i) → (∀ z, im1 z = 1 ↔ im z = 1 ∨ ∃ i, i < j ∧ tf (x * 6 + i) = z) → ∀ (H : Heap) (locs : List Loc), va_P (dC, dI) vwCl (XW cI cZ cA a n am rf mk1 wv lo cf tf T mt1 im1) H → va_D A (XW cI cZ cA a n am rf mk1 wv lo cf tf T mt1 im1) → va_S A s.heap H locs → ∀ ls : Array Slot, lv_has ls 3 [(2, .int (nI j)), (0, .ref (a 0)), (1, .int (nI x))] → W p l e (headSpec wsX0_meetTargets (({ frames := 1, cells := 0, slots := 0, locals := 21 }) : Room)).room s m ([.ref (a 0), .int (nI x)] : List Value).toArray below meth c H locs 0 0 (MQ below (va_Qv (fun u : Nat × (Nat → Nat) × (Nat → Int32) => Mrun n u.1 u.2.1 u.2.2 ∧ mk ≤ u.1 ∧ (∀ i, i < mk → u.2.1 i = mt i) ∧ ∀ z, u.2.2 z = 1 ↔ im z = 1 ∨ ∃ j, j < cf x ∧ tf (x * 6 + j) = z) (fun u => WQ dC dI (GT cI cZ cA) A (XW cI cZ cA a n am rf (u.1) wv lo cf tf T (u.2.1) (u.2.2))) A) ([.ref (a 0), .int (nI x)] : List Value).toArray s 0 0 A) (F0 m 2 ls []) := by
    intro k
    induction k with
    | zero =>
      intro j hj mk1 mt1 im1 h1 h2 h3 h4 H locs hP hD hS ls hl
      obtain rfl : j = cf x := by omega
      refine lv_iload_n hx hb dX0_meetTargets_2 rfl (lv_at hl 0 rfl) ?_
      refine lv_aload_n hx hb dX0_meetTargets_3 rfl (lv_at hl 1 rfl) ?_
      refine va_get (D := (dC, dI)) (ci := 0) (v := .ref (a 3)) (C := RX0) (T := TX0) (N := 11) hx hb hts hiw hown hK hP 0 rfl rfl 2 (by decide) hf_17 (fun _ h9 => h9) rfl dX0_meetTargets_4 ?_
      refine lv_iload_n hx hb dX0_meetTargets_7 rfl (lv_at hl 2 rfl) ?_
      refine ga_iald hx hb hK hP 3 0 rfl rfl x (v := nI (cf x)) rfl (by omega) (by decide) dX0_meetTargets_8 ?_
      refine lv_icmp_ge (tgt := 32) hx hb dX0_meetTargets_9 (by decide) (fun h9 => ?_) (fun h9 => absurd (Int32.le_refl _) h9)
      exact W.vret hx hb hr (fun t ht hW => ⟨⟨(mk1, mt1, im1), rfl, ⟨h1, h2, h3, h4⟩, by rw [ht]; exact hP, va_K.moved hW.alike hK, hD⟩, hS.F ht⟩) hS.2.2 dX0_meetTargets_32
    | succ k ih =>
      intro j hj mk1 mt1 im1 h1 h2 h3 h4 H locs hP hD hS ls hl
      have htj := htt x hxn j (by omega)
      refine lv_iload_n hx hb dX0_meetTargets_2 rfl (lv_at hl 0 rfl) ?_
      refine lv_aload_n hx hb dX0_meetTargets_3 rfl (lv_at hl 1 rfl) ?_
      refine va_get (D := (dC, dI)) (ci := 0) (v := .ref (a 3)) (C := RX0) (T := TX0) (N := 11) hx hb hts hiw hown hK hP 0 rfl rfl 2 (by decide) hf_17 (fun _ h9 => h9) rfl dX0_meetTargets_4 ?_
      refine lv_iload_n hx hb dX0_meetTargets_7 rfl (lv_at hl 2 rfl) ?_
      refine ga_iald hx hb hK hP 3 0 rfl rfl x (v := nI (cf x)) rfl (by omega) (by decide) dX0_meetTargets_8 ?_
      refine lv_icmp_ge (tgt := 32) hx hb dX0_meetTargets_9 (by decide) (fun h9 => absurd h9 (nI_ge (by omega) (by omega))) (fun h9 => ?_)
      refine lv_aload_n hx hb dX0_meetTargets_12 rfl (lv_at hl 1 rfl) ?_
      refine lv_aload_n hx hb dX0_meetTargets_13 rfl (lv_at hl 1 rfl) ?_
      refine va_get (D := (dC, dI)) (ci := 0) (v := .ref (a 4)) (C := RX0) (T := TX0) (N := 11) hx hb hts hiw hown hK hP 0 rfl rfl 3 (by decide) hf_20 (fun _ h9 => h9) rfl dX0_meetTargets_14 ?_
      refine lv_iload_n hx hb dX0_meetTargets_17 rfl (lv_at hl 2 rfl) ?_
      refine lv_iload_n hx hb dX0_meetTargets_18 rfl (lv_at hl 0 rfl) ?_
      refine W.callR (r := nI (x * 6 + j)) (W.runS (As := [.int (nI x), .int (nI j)]) (rest := [.ref (a 4), .ref (a 0)]) ⟨hx, hb, hml, hown, hts⟩ (kX0_place l x j) (va_cwS 2 hts gX0_meetTargets_X0_place rfl rfl rfl (by decide +kernel) ⟨Nat.le_of_ble_eq_true rfl, Nat.le_of_ble_eq_true rfl⟩) ⟨blindT, fun _ _ _ => ⟨rfl, trivial⟩⟩ rfl rfl hl.1 rfl (lv_room (Nat.le_of_ble_eq_true rfl)) dX0_meetTargets_19 ⟨Nat.zero_le _, Nat.zero_le _⟩) ?_
      refine W.eq (g2 := F0 m 22 ls [.int (nI (x * 6 + j)), .ref (a 4), .ref (a 0)]) rfl ?_
      refine ga_iald hx hb hK hP 4 0 rfl rfl (x * 6 + j) (v := nI (tf (x * 6 + j))) rfl (by omega) (by decide) dX0_meetTargets_22 ?_
      have hF := freeAll hD hS hA
      refine va_callv (va_runV (As := [.int (nI (tf (x * 6 + j)))]) (rest := []) ⟨hx, hb, hml, hown, hts⟩ (kX0_meet l dC dI cI cZ cA a H.size n am rf mk1 wv lo cf tf T mt1 im1 (tf (x * 6 + j)) hn4 htj h1) (cwV 1 hts gX0_meetTargets_X0_meet rfl rfl rfl (by decide +kernel) ⟨Nat.le_of_ble_eq_true rfl, Nat.le_of_ble_eq_true rfl⟩) ⟨blindW, va_recv hK hP (ci := 0) (q0 := 0) rfl rfl, preW hP hK hD⟩ rfl rfl hl.1 rfl (lv_room (Nat.le_of_ble_eq_true rfl)) dX0_meetTargets_23 ⟨Nat.zero_le _, Nat.zero_le _⟩) hS (fun q _ h => hF q h) hF (fun u tS H1 locs htS hvm hw hB hz1 hk1 hS => ?_)
      obtain ⟨mk2, mt2, im2⟩ := u
      obtain ⟨b1, b2, b3, b4⟩ : Mrun n mk2 mt2 im2 ∧ mk1 ≤ mk2 ∧ (∀ i, i < mk1 → mt2 i = mt1 i) ∧ ∀ z, im2 z = 1 ↔ im1 z = 1 ∨ z = tf (x * 6 + j) := hw
      obtain ⟨hP1, hK1, hD1⟩ := hB
      rw [htS] at hP1
      have hP : va_P (dC, dI) vwCl (XW cI cZ cA a n am rf mk2 wv lo cf tf T mt2 im2) H1 := hP1
      have hD : va_D A (XW cI cZ cA a n am rf mk2 wv lo cf tf T mt2 im2) := hD1.weaken (fun _ _ _ h => hF _ h)
      generalize H1 = H at hP hS ⊢
      refine W.eq (g2 := F0 m 26 ls []) rfl ?_
      refine lv_iinc (v := nI (j + 1)) (lv' := [(2, .int (nI (j + 1))), (0, .ref (a 0)), (1, .int (nI x))]) hx hb dX0_meetTargets_26 hl (k := 0) rfl (nI_1 j) (by decide) rfl (fun ls hl => ?_)
      refine lv_goto (tgt := 2) hx hb dX0_meetTargets_29 (by decide) ?_
      refine ih (j + 1) (by omega) mk2 mt2 im2 b1 (by omega) (fun i hi => by rw [b3 i (by omega), h3 i hi]) (fun z => ?_) H locs hP hD hS ls (lv_sub hl [0, 1, 2] rfl)
      rw [b4 z, h4 z]
      constructor
      · rintro ((q | ⟨i, q1, q2⟩) | q)
        · exact Or.inl q
        · exact Or.inr ⟨i, by omega, q2⟩
        · exact Or.inr ⟨j, by omega, q.symm⟩
      · rintro (q | ⟨i, q1, q2⟩)
        · exact Or.inl (Or.inl q)
        · by_cases e : i = j
          · exact Or.inr (by rw [← q2, e])
          · exact Or.inl (Or.inr ⟨i, by omega, q2⟩)
  exact loop (cf x) 0 (by omega) mk mt im hM (Nat.le_refl _) (fun _ _ => rfl) (fun z => ⟨fun q => Or.inl q, fun q => q.elim id (fun ⟨i, q1, _⟩ => absurd q1 (by omega))⟩) s.heap [] hP hD hS ls (lv_sub hl [0, 1, 2] rfl)
set_option maxHeartbeats 4000000 in
set_option maxRecDepth 100000 in
/-- around -/
theorem kX0_around (l : Launch) (dC : Nat → ClassId) (dI : Nat → Nat → Nat) (cI cZ cA : ClassId) (a : Nat → Nat) (sz : Nat) (n : Nat) (am : Nat) (rf : Nat) (mk : Nat) (wv : Nat → Int32) (lo : Nat → Int32) (cf : Nat → Nat) (tf : Nat → Nat) (T : Nat → Nat → Int32) (mt : Nat → Nat) (im : Nat → Int32) (x d : Nat) (hd : d < 8) (hG : Gok n wv lo cf tf) (hM : Mkeep mk mt im) (hxn : x < n) : Met l yX0_around wsX0_around ({ frames := 7, cells := 0, slots := 0, locals := 104 }) (va_Pc [.ref (a 0), .int (nI x), .int (nI d)] (WP dC dI (GT cI cZ cA) (XW cI cZ cA a n am rf mk wv lo cf tf T mt im) sz)) (va_Qi (fun r (u : Nat × (Nat → Nat) × (Nat → Int32)) => r = nI (cntP (rch cf tf x d) n) ∧ Mkeep u.1 u.2.1 u.2.2) (fun u => WQ dC dI (GT cI cZ cA) (va_A (XW cI cZ cA a n am rf mk wv lo cf tf T mt im) sz) (XW cI cZ cA a n am rf (u.1) wv lo cf tf T (u.2.1) (u.2.2))) (va_A (XW cI cZ cA a n am rf mk wv lo cf tf T mt im) sz)) 0 0 (va_A (XW cI cZ cA a n am rf mk wv lo cf tf T mt im) sz) := by
  refine Met.ofW (cc := cX0_around) (maxL := 6) (ret := (some .int)) (by decide) rfl ?_
  intro p e s m args below meth c s₁ B hml hv
  obtain ⟨rfl, hsz, hP, hK, hD0⟩ := hv
  have hx := B.exec
  have hb := B.bytes
  have hr := B.returns
  have hts := atoms_spec (ws := wsX0_around) B.pre
  have hown : s.vm.findClass RX0 = some m.cls := findClass_of_methodNamed B.named
  have hlocks := B.notSynchronized
  have hf_44 := hts (.fieldLink RX0 44 "GraphSearch" "metCount" "I") (by decide +kernel)
  have hf_38 := hts (.fieldLink RX0 38 "GraphSearch" "met" "[I") (by decide +kernel)
  have hiw : ∀ w ∈ wsX00, w ∈ wsX0_around := by decide +kernel
  subst hsz
  have hD := hD0.self (sz := s.heap.size)
  generalize hAe : va_A (XW cI cZ cA a n am rf mk wv lo cf tf T mt im) s.heap.size = A at hD ⊢
  have hA : ∀ q : Nat, s.heap.size ≤ q → A q := fun q h => by rw [← hAe]; exact Or.inr h
  have hS : va_S A s.heap s.heap [] := va_S.rf
  have hP : va_P (dC, dI) vwCl (XW cI cZ cA a n am rf mk wv lo cf tf T mt im) s.heap := hP
  have hl := lv_entry ([.ref (a 0), .int (nI x), .int (nI d)]) (n := 6) (Nat.le_of_ble_eq_true rfl)
  rw [lg_entry_eq]
  generalize (lg_sl ([.ref (a 0), .int (nI x), .int (nI d)]) ++ List.replicate (6 - (lg_sl ([.ref (a 0), .int (nI x), .int (nI d)])).length) Slot.unset).toArray = ls at hl ⊢
  have hl : lv_has ls 6 [(0, .ref (a 0)), (1, .int (nI x)), (2, .int (nI d))] := hl
  obtain ⟨hn4, hwr, hc, htt, hlo, hz0⟩ := id hG
  refine lv_aload_n hx hb dX0_around_0 rfl (lv_at hl 0 rfl) ?_
  refine lv_iload_n hx hb dX0_around_1 rfl (lv_at hl 1 rfl) ?_
  refine lv_iload_n hx hb dX0_around_2 rfl (lv_at hl 2 rfl) ?_
  refine va_csv (W.runV (As := [.int (nI x), .int (nI d)]) (rest := []) ⟨hx, hb, hml, hown, hts⟩ (kX0_refuse l dC dI cI cZ cA a n am rf mk wv lo cf tf T mt im x d hn4 hxn hd) (cwV 2 hts gX0_around_X0_refuseWrongQuestion rfl rfl rfl (by decide +kernel) ⟨Nat.le_of_ble_eq_true rfl, Nat.le_of_ble_eq_true rfl⟩) ⟨blindR, va_recv hK hP (ci := 0) (q0 := 0) rfl rfl, preR hP hK⟩ rfl rfl hl.1 rfl (lv_room (Nat.le_of_ble_eq_true rfl)) dX0_around_3 ⟨Nat.zero_le _, Nat.zero_le _⟩) (fun _ => ?_)
  refine W.eq (g2 := F0 m 6 ls []) rfl ?_
  refine lv_aload_n hx hb dX0_around_6 rfl (lv_at hl 0 rfl) ?_
  have hF := freeAll hD hS hA
  refine va_callv (va_runV (As := []) (rest := []) ⟨hx, hb, hml, hown, hts⟩ (kX0_forgetMet l dC dI cI cZ cA a s.heap.size n am rf mk wv lo cf tf T mt im hM) (cwV 0 hts gX0_around_X0_forgetMet rfl rfl rfl (by decide +kernel) ⟨Nat.le_of_ble_eq_true rfl, Nat.le_of_ble_eq_true rfl⟩) ⟨blindW, va_recv hK hP (ci := 0) (q0 := 0) rfl rfl, preW hP hK hD⟩ rfl rfl hl.1 rfl (lv_room (Nat.le_of_ble_eq_true rfl)) dX0_around_7 ⟨Nat.zero_le _, Nat.zero_le _⟩) hS (fun q _ h => hF q h) hF (fun im0 tS H1 locs htS hvm hw hB hz1 hk1 hS => ?_)
  have hi0 : ∀ y, im0 y = 0 := hw
  obtain ⟨hP1, hK1, hD1⟩ := hB
  rw [htS] at hP1
  have hP : va_P (dC, dI) vwCl (XW cI cZ cA a n am rf 0 wv lo cf tf T mt im0) H1 := hP1
  have hD : va_D A (XW cI cZ cA a n am rf 0 wv lo cf tf T mt im0) := hD1.weaken (fun _ _ _ h => hF _ h)
  generalize H1 = H at hP hS ⊢
  refine W.eq (g2 := F0 m 10 ls []) rfl ?_
  have hR0 : Mrun n 0 mt im0 := ⟨fun y => Or.inl (hi0 y), (cntP_0 n (fun k _ q => absurd ((hi0 k).symm.trans q) (by decide))).symm, fun i hi => absurd hi (by omega), fun y q => absurd ((hi0 y).symm.trans q) (by decide)⟩
  refine lv_aload_n hx hb dX0_around_10 rfl (lv_at hl 0 rfl) ?_
  refine lv_iload_n hx hb dX0_around_11 rfl (lv_at hl 1 rfl) ?_
  have hF := freeAll hD hS hA
  refine va_callv (va_runV (As := [.int (nI x)]) (rest := []) ⟨hx, hb, hml, hown, hts⟩ (kX0_meet l dC dI cI cZ cA a H.size n am rf 0 wv lo cf tf T mt im0 x hn4 hxn hR0) (cwV 1 hts gX0_around_X0_meet rfl rfl rfl (by decide +kernel) ⟨Nat.le_of_ble_eq_true rfl, Nat.le_of_ble_eq_true rfl⟩) ⟨blindW, va_recv hK hP (ci := 0) (q0 := 0) rfl rfl, preW hP hK hD⟩ rfl rfl hl.1 rfl (lv_room (Nat.le_of_ble_eq_true rfl)) dX0_around_12 ⟨Nat.zero_le _, Nat.zero_le _⟩) hS (fun q _ h => hF q h) hF (fun u tS H1 locs htS hvm hw hB hz1 hk1 hS => ?_)
  obtain ⟨mk1, mt1, im1⟩ := u
  obtain ⟨b1, -, -, b4⟩ : Mrun n mk1 mt1 im1 ∧ 0 ≤ mk1 ∧ (∀ i, i < 0 → mt1 i = mt i) ∧ ∀ z, im1 z = 1 ↔ im0 z = 1 ∨ z = x := hw
  obtain ⟨hP1, hK1, hD1⟩ := hB
  rw [htS] at hP1
  have hP : va_P (dC, dI) vwCl (XW cI cZ cA a n am rf mk1 wv lo cf tf T mt1 im1) H1 := hP1
  have hD : va_D A (XW cI cZ cA a n am rf mk1 wv lo cf tf T mt1 im1) := hD1.weaken (fun _ _ _ h => hF _ h)
  generalize H1 = H at hP hS ⊢
  refine W.eq (g2 := F0 m 15 ls []) rfl ?_
  refine lv_iconst (v := 0) hx hb dX0_around_15 (by decide) ?_
  refine ga_is (y := nI 0) (rfl) ?_
  refine lv_istore_n (lv' := [(3, .int (nI 0)), (0, .ref (a 0)), (1, .int (nI x)), (2, .int (nI d))]) hx hb dX0_around_16 rfl hl (by decide) rfl (fun ls hl => ?_)
  refine lv_iconst (v := 0) hx hb dX0_around_17 (by decide) ?_
  refine ga_is (y := nI 0) (rfl) ?_
  refine lv_istore (lv' := [(4, .int (nI 0)), (3, .int (nI 0)), (0, .ref (a 0)), (1, .int (nI x)), (2, .int (nI d))]) hx hb dX0_around_18 hl (by decide) rfl (fun ls hl => ?_)
  have outer : ∀ (k t : Nat), t + k = d → ∀ (p0 mk1 : Nat) (mt1 : Nat → Nat) (im1 : Nat → Int32), Mrun n mk1 mt1 im1 → (∀ z, im1 z = 1 ↔ rch cf tf x t z) → p0 ≤ mk1 → (∀ i, i < p0 → ∀ j, j < cf (mt1 i) → im1 (tf (mt1 i * 6 + j)) = 1) → ∀ (H : Heap) (locs : List Loc), va_P (dC, dI) vwCl (XW cI cZ cA a n am rf mk1 wv lo cf tf T mt1 im1) H → va_D A (XW cI cZ cA a n am rf mk1 wv lo cf tf T mt1 im1) → va_S A s.heap H locs → ∀ ls : Array Slot, lv_has ls 6 [(4, .int (nI t)), (3, .int (nI p0)), (0, .ref (a 0)), (1, .int (nI x)), (2, .int (nI d))] → W p l e (headSpec wsX0_around (({ frames := 7, cells := 0, slots := 0, locals := 104 }) : Room)).room s m ([.ref (a 0), .int (nI x), .int (nI d)] : List Value).toArray below meth c H locs 0 0 (MQ below (va_Qi (fun r (u : Nat × (Nat → Nat) × (Nat → Int32)) => r = nI (cntP (rch cf tf x d) n) ∧ Mkeep u.1 u.2.1 u.2.2) (fun u => WQ dC dI (GT cI cZ cA) A (XW cI cZ cA a n am rf (u.1) wv lo cf tf T (u.2.1) (u.2.2))) A) ([.ref (a 0), .int (nI x), .int (nI d)] : List Value).toArray s 0 0 A) (F0 m 20 ls []) := by
    intro k
    induction k with
    | zero =>
      intro t ht p0 mk1 mt1 im1 h1 h2 h3 h4 H locs hP hD hS ls hl
      obtain rfl : t = d := by omega
      refine lv_iload hx hb dX0_around_20 (lv_at hl 0 rfl) ?_
      refine lv_iload_n hx hb dX0_around_22 rfl (lv_at hl 4 rfl) ?_
      refine lv_icmp_ge (tgt := 60) hx hb dX0_around_23 (by decide) (fun h23 => ?_) (fun h23 => absurd (Int32.le_refl _) h23)
      refine lv_aload_n hx hb dX0_around_60 rfl (lv_at hl 2 rfl) ?_
      refine va_get (D := (dC, dI)) (ci := 0) (v := .int (nI mk1)) (C := RX0) (T := TX0) (N := 11) hx hb hts hiw hown hK hP 0 rfl rfl 10 (by decide) hf_44 (fun _ h9 => h9) rfl dX0_around_61 ?_
      exact W.iret (v := (nI mk1)) hx hb hr (fun t ht hW => ⟨⟨(nI mk1), (mk1, mt1, im1), rfl, ⟨by rw [h1.2.1, cntP_congr n (fun k _ => h2 k)], h1.keep hn4⟩, by rw [ht]; exact hP, va_K.moved hW.alike hK, hD⟩, hS.F ht⟩) hS.2.2 dX0_around_64
    | succ k ih =>
      intro t ht p0 mk1 mt1 im1 h1 h2 h3 h4 H locs hP hD hS ls hl
      have hmn : mk1 ≤ n := by rw [h1.2.1]; exact cntP_le n
      refine lv_iload hx hb dX0_around_20 (lv_at hl 0 rfl) ?_
      refine lv_iload_n hx hb dX0_around_22 rfl (lv_at hl 4 rfl) ?_
      refine lv_icmp_ge (tgt := 60) hx hb dX0_around_23 (by decide) (fun h23 => absurd h23 (nI_ge (by omega) (by omega))) (fun h23 => ?_)
      refine lv_aload_n hx hb dX0_around_26 rfl (lv_at hl 2 rfl) ?_
      refine va_get (D := (dC, dI)) (ci := 0) (v := .int (nI mk1)) (C := RX0) (T := TX0) (N := 11) hx hb hts hiw hown hK hP 0 rfl rfl 10 (by decide) hf_44 (fun _ h9 => h9) rfl dX0_around_27 ?_
      refine lv_istore (lv' := [(5, .int (nI mk1)), (4, .int (nI t)), (3, .int (nI p0)), (0, .ref (a 0)), (1, .int (nI x)), (2, .int (nI d))]) hx hb dX0_around_30 hl (by decide) rfl (fun ls hl => ?_)
      have inner : ∀ (k2 p1 : Nat), p1 + k2 = mk1 → ∀ (mk2 : Nat) (mt2 : Nat → Nat) (im2 : Nat → Int32), Mrun n mk2 mt2 im2 → mk1 ≤ mk2 → (∀ i, i < mk1 → mt2 i = mt1 i) → (∀ z, im2 z = 1 ↔ rch cf tf x t z ∨ ∃ i, i < p1 ∧ ∃ j, j < cf (mt1 i) ∧ tf (mt1 i * 6 + j) = z) → ∀ (H : Heap) (locs : List Loc), va_P (dC, dI) vwCl (XW cI cZ cA a n am rf mk2 wv lo cf tf T mt2 im2) H → va_D A (XW cI cZ cA a n am rf mk2 wv lo cf tf T mt2 im2) → va_S A s.heap H locs → ∀ ls : Array Slot, lv_has ls 6 [(3, .int (nI p1)), (5, .int (nI mk1)), (4, .int (nI t)), (0, .ref (a 0)), (1, .int (nI x)), (2, .int (nI d))] → W p l e (headSpec wsX0_around (({ frames := 7, cells := 0, slots := 0, locals := 104 }) : Room)).room s m ([.ref (a 0), .int (nI x), .int (nI d)] : List Value).toArray below meth c H locs 0 0 (MQ below (va_Qi (fun r (u : Nat × (Nat → Nat) × (Nat → Int32)) => r = nI (cntP (rch cf tf x d) n) ∧ Mkeep u.1 u.2.1 u.2.2) (fun u => WQ dC dI (GT cI cZ cA) A (XW cI cZ cA a n am rf (u.1) wv lo cf tf T (u.2.1) (u.2.2))) A) ([.ref (a 0), .int (nI x), .int (nI d)] : List Value).toArray s 0 0 A) (F0 m 32 ls []) := by
        intro k2
        induction k2 with
        | zero =>
          intro p1 hp mk2 mt2 im2 c1 c2 c3 c4 H locs hP hD hS ls hl
          obtain rfl : mk1 = p1 := by omega
          refine lv_iload_n hx hb dX0_around_32 rfl (lv_at hl 0 rfl) ?_
          refine lv_iload hx hb dX0_around_33 (lv_at hl 1 rfl) ?_
          refine lv_icmp_ge (tgt := 54) hx hb dX0_around_35 (by decide) (fun h35 => ?_) (fun h35 => absurd (Int32.le_refl _) h35)
          refine lv_iinc (v := nI (t + 1)) (lv' := [(4, .int (nI (t + 1))), (3, .int (nI mk1)), (5, .int (nI mk1)), (0, .ref (a 0)), (1, .int (nI x)), (2, .int (nI d))]) hx hb dX0_around_54 hl (k := 2) rfl (nI_1 t) (by decide) rfl (fun ls hl => ?_)
          refine lv_goto (tgt := 20) hx hb dX0_around_57 (by decide) ?_
          refine ih (t + 1) (by omega) mk1 mk2 mt2 im2 c1 (fun z => ?_) c2 (fun i hi j hj => ?_) H locs hP hD hS ls (lv_sub hl [0, 1, 3, 4, 5] rfl)
          · rw [c4 z]
            show _ ↔ rch cf tf x t z ∨ ∃ q, rch cf tf x t q ∧ ∃ j, j < cf q ∧ tf (q * 6 + j) = z
            constructor
            · rintro (q | ⟨i, q1, j, q2, q3⟩)
              · exact Or.inl q
              · exact Or.inr ⟨mt1 i, (h2 _).mp (h1.2.2.1 i q1).2, j, q2, q3⟩
            · rintro (q | ⟨v, q0, j, q2, q3⟩)
              · exact Or.inl q
              · obtain ⟨i, e1, e2⟩ := h1.2.2.2 v ((h2 v).mpr q0)
                exact Or.inr ⟨i, e1, j, by rw [e2]; exact q2, by rw [e2]; exact q3⟩
          · rw [c3 i hi] at hj ⊢
            exact (c4 _).mpr (Or.inr ⟨i, hi, j, hj, rfl⟩)
        | succ k2 ih2 =>
          intro p1 hp mk2 mt2 im2 c1 c2 c3 c4 H locs hP hD hS ls hl
          have e1 := c3 p1 (by omega)
          have hm1 := (c1.2.2.1 p1 (by omega)).1
          refine lv_iload_n hx hb dX0_around_32 rfl (lv_at hl 0 rfl) ?_
          refine lv_iload hx hb dX0_around_33 (lv_at hl 1 rfl) ?_
          refine lv_icmp_ge (tgt := 54) hx hb dX0_around_35 (by decide) (fun h35 => absurd h35 (nI_ge (by omega) (by omega))) (fun h35 => ?_)
          refine lv_aload_n hx hb dX0_around_38 rfl (lv_at hl 3 rfl) ?_
          refine lv_aload_n hx hb dX0_around_39 rfl (lv_at hl 3 rfl) ?_
          refine va_get (D := (dC, dI)) (ci := 0) (v := .ref (a 6)) (C := RX0) (T := TX0) (N := 11) hx hb hts hiw hown hK hP 0 rfl rfl 8 (by decide) hf_38 (fun _ h9 => h9) rfl dX0_around_40 ?_
          refine lv_iload_n hx hb dX0_around_43 rfl (lv_at hl 0 rfl) ?_
          refine ga_iald hx hb hK hP 6 0 rfl rfl p1 (v := nI (mt2 p1)) rfl (by omega) (by decide) dX0_around_44 ?_
          have hF := freeAll hD hS hA
          refine va_callv (va_runV (As := [.int (nI (mt2 p1))]) (rest := []) ⟨hx, hb, hml, hown, hts⟩ (kX0_meetTargets l dC dI cI cZ cA a H.size n am rf mk2 wv lo cf tf T mt2 im2 (mt2 p1) hG hm1 c1) (cwV 1 hts gX0_around_X0_meetTargets rfl rfl rfl (by decide +kernel) ⟨Nat.le_of_ble_eq_true rfl, Nat.le_of_ble_eq_true rfl⟩) ⟨blindW, va_recv hK hP (ci := 0) (q0 := 0) rfl rfl, preW hP hK hD⟩ rfl rfl hl.1 rfl (lv_room (Nat.le_of_ble_eq_true rfl)) dX0_around_45 ⟨Nat.zero_le _, Nat.zero_le _⟩) hS (fun q _ h => hF q h) hF (fun u tS H1 locs htS hvm hw hB hz1 hk1 hS => ?_)
          obtain ⟨mk3, mt3, im3⟩ := u
          obtain ⟨g1, g2, g3, g4⟩ : Mrun n mk3 mt3 im3 ∧ mk2 ≤ mk3 ∧ (∀ i, i < mk2 → mt3 i = mt2 i) ∧ ∀ z, im3 z = 1 ↔ im2 z = 1 ∨ ∃ j, j < cf (mt2 p1) ∧ tf (mt2 p1 * 6 + j) = z := hw
          obtain ⟨hP1, hK1, hD1⟩ := hB
          rw [htS] at hP1
          have hP : va_P (dC, dI) vwCl (XW cI cZ cA a n am rf mk3 wv lo cf tf T mt3 im3) H1 := hP1
          have hD : va_D A (XW cI cZ cA a n am rf mk3 wv lo cf tf T mt3 im3) := hD1.weaken (fun _ _ _ h => hF _ h)
          generalize H1 = H at hP hS ⊢
          refine W.eq (g2 := F0 m 48 ls []) rfl ?_
          refine lv_iinc (v := nI (p1 + 1)) (lv' := [(3, .int (nI (p1 + 1))), (5, .int (nI mk1)), (4, .int (nI t)), (0, .ref (a 0)), (1, .int (nI x)), (2, .int (nI d))]) hx hb dX0_around_48 hl (k := 0) rfl (nI_1 p1) (by decide) rfl (fun ls hl => ?_)
          refine lv_goto (tgt := 32) hx hb dX0_around_51 (by decide) ?_
          refine ih2 (p1 + 1) (by omega) mk3 mt3 im3 g1 (by omega) (fun i hi => by rw [g3 i (by omega), c3 i hi]) (fun z => ?_) H locs hP hD hS ls (lv_sub hl [0, 1, 2, 3, 4, 5] rfl)
          rw [g4 z, c4 z, e1]
          constructor
          · rintro ((q | ⟨i, q1, q2⟩) | q)
            · exact Or.inl q
            · exact Or.inr ⟨i, by omega, q2⟩
            · exact Or.inr ⟨p1, by omega, q⟩
          · rintro (q | ⟨i, q1, q2⟩)
            · exact Or.inl (Or.inl q)
            · by_cases e : i = p1
              · exact Or.inr (by rw [e] at q2; exact q2)
              · exact Or.inl (Or.inr ⟨i, by omega, q2⟩)
      refine inner (mk1 - p0) p0 (by omega) mk1 mt1 im1 h1 (Nat.le_refl _) (fun _ _ => rfl) (fun z => ?_) H locs hP hD hS ls (lv_sub hl [2, 0, 1, 3, 4, 5] rfl)
      constructor
      · intro q; exact Or.inl ((h2 z).mp q)
      · rintro (q | ⟨i, q1, j, q2, q3⟩)
        · exact (h2 z).mpr q
        · rw [← q3]; exact h4 i q1 j q2
  exact outer d 0 (by omega) 0 mk1 mt1 im1 b1 (fun z => by rw [b4 z]; exact ⟨fun q => q.elim (fun h => absurd ((hi0 z).symm.trans h) (by decide)) id, Or.inr⟩) (Nat.zero_le _) (fun i hi => absurd hi (by omega)) H locs hP hD hS ls (lv_sub hl [0, 1, 2, 3, 4] rfl)
end
section
set_option maxHeartbeats 4000000 in
set_option maxRecDepth 100000 in
/-- thrown -/
theorem kX1_thrown (l : Launch) (dC : Nat → ClassId) (dI : Nat → Nat → Nat) (cI cZ cA : ClassId) (a : Nat → Nat) (th : Nat) (n : Nat) (wv : Nat → Int32) (lo : Nat → Int32) (cf : Nat → Nat) (tf : Nat → Nat) (vs : Nat → Int32) (nr : Nat → Nat)   : Met l yX1_thrown wsX1_thrown ({ frames := 0, cells := 0, slots := 0, locals := 0 }) (va_Pc [.ref (a 0)] (RP dC dI (GT cI cZ cA) (MW cI cZ a th n wv lo cf tf vs nr))) (QcRead (nI th)) 0 0 (fun _ => False) := by
  refine Met.ofW (cc := cX1_thrown) (maxL := 1) (ret := (some .int)) (by decide) rfl ?_
  intro p e s m args below meth c s₁ B hml hv
  obtain ⟨rfl, hP, hK⟩ := hv
  have hx := B.exec
  have hb := B.bytes
  have hr := B.returns
  have hts := atoms_spec (ws := wsX1_thrown) B.pre
  have hown : s.vm.findClass RX1 = some m.cls := findClass_of_methodNamed B.named
  have hlocks := B.notSynchronized
  have hf_29 := hts (.fieldLink RX1 29 "GraphSearchModel" "thrown" "I") (by decide +kernel)
  have hiw : ∀ w ∈ wsX10, w ∈ wsX1_thrown := by decide +kernel
  have hl := lv_entry ([.ref (a 0)]) (n := 1) (Nat.le_of_ble_eq_true rfl)
  rw [lg_entry_eq]
  generalize (lg_sl ([.ref (a 0)]) ++ List.replicate (1 - (lg_sl ([.ref (a 0)])).length) Slot.unset).toArray = ls at hl ⊢
  have hl : lv_has ls 1 [(0, .ref (a 0))] := hl
  refine lv_aload_n hx hb dX1_thrown_0 rfl (lv_at hl 0 rfl) ?_
  refine va_get (D := (dC, dI)) (ci := 1) (v := .int (nI th)) (C := RX1) (T := TX1) (N := 8) hx hb hts hiw hown hK hP 0 rfl rfl 0 (by decide) hf_29 (fun _ h9 => h9) rfl dX1_thrown_1 ?_
  exact W.iret (v := (nI th)) hx hb hr (fun t ht hW => ⟨rfl, ht⟩) (fun _ h => nomatch h) dX1_thrown_4
set_option maxHeartbeats 4000000 in
set_option maxRecDepth 100000 in
/-- isWorth -/
theorem kX1_isWorth (l : Launch) (w : Int32)  : Met l yX1_isWorth wsX1_isWorth ({ frames := 0, cells := 0, slots := 0, locals := 0 }) (va_Pc [.int w] (fun _ => True)) (QcRead (iw w)) 0 0 (fun _ => False) := by
  refine Met.ofW (cc := cX1_isWorth) (maxL := 1) (ret := (some .boolean)) (by decide) rfl ?_
  intro p e s m args below meth c s₁ B hml hv
  obtain ⟨rfl, -⟩ := hv
  have hx := B.exec
  have hb := B.bytes
  have hr := B.returns
  have hts := atoms_spec (ws := wsX1_isWorth) B.pre
  have hown : s.vm.findClass RX1 = some m.cls := findClass_of_methodNamed B.named
  have hlocks := B.notSynchronized
  have hl := lv_entry ([.int w]) (n := 1) (Nat.le_of_ble_eq_true rfl)
  rw [lg_entry_eq]
  generalize (lg_sl ([.int w]) ++ List.replicate (1 - (lg_sl ([.int w])).length) Slot.unset).toArray = ls at hl ⊢
  have hl : lv_has ls 1 [(0, .int w)] := hl
  refine lv_iload_n hx hb dX1_isWorth_0 rfl (lv_at hl 0 rfl) ?_
  refine lv_sipush (v := (-500)) hx hb dX1_isWorth_1 (by decide) ?_
  refine lv_icmp_lt (tgt := 18) hx hb dX1_isWorth_4 (by decide) (fun h4 => ?_) (fun h4 => ?_)
  · refine lv_iconst (v := 0) hx hb dX1_isWorth_18 (by decide) ?_
    exact W.zret (v := 0) hx hb hr (by decide) (fun t ht hW => ⟨by rw [iw, if_pos h4], ht⟩) (fun _ h => nomatch h) dX1_isWorth_19
  · refine lv_iload_n hx hb dX1_isWorth_7 rfl (lv_at hl 0 rfl) ?_
    refine lv_sipush (v := 500) hx hb dX1_isWorth_8 (by decide) ?_
    refine lv_icmp_gt (tgt := 18) hx hb dX1_isWorth_11 (by decide) (fun h11 => ?_) (fun h11 => ?_)
    · refine lv_iconst (v := 0) hx hb dX1_isWorth_18 (by decide) ?_
      exact W.zret (v := 0) hx hb hr (by decide) (fun t ht hW => ⟨by rw [iw, if_neg h4, if_pos h11], ht⟩) (fun _ h => nomatch h) dX1_isWorth_19
    · refine lv_iconst (v := 1) hx hb dX1_isWorth_14 (by decide) ?_
      refine lv_goto (tgt := 19) hx hb dX1_isWorth_15 (by decide) ?_
      exact W.zret (v := 1) hx hb hr (by decide) (fun t ht hW => ⟨by rw [iw, if_neg h4, if_neg h11], ht⟩) (fun _ h => nomatch h) dX1_isWorth_19
set_option maxHeartbeats 4000000 in
set_option maxRecDepth 100000 in
/-- isNode -/
theorem kX1_isNode (l : Launch) (dC : Nat → ClassId) (dI : Nat → Nat → Nat) (cI cZ cA : ClassId) (a : Nat → Nat) (th : Nat) (n : Nat) (wv : Nat → Int32) (lo : Nat → Int32) (cf : Nat → Nat) (tf : Nat → Nat) (vs : Nat → Int32) (nr : Nat → Nat) (x : Int32)  : Met l yX1_isNode wsX1_isNode ({ frames := 0, cells := 0, slots := 0, locals := 0 }) (va_Pc [.ref (a 0), .int x] (RP dC dI (GT cI cZ cA) (MW cI cZ a th n wv lo cf tf vs nr))) (QcRead (isn x n)) 0 0 (fun _ => False) := by
  refine Met.ofW (cc := cX1_isNode) (maxL := 2) (ret := (some .boolean)) (by decide) rfl ?_
  intro p e s m args below meth c s₁ B hml hv
  obtain ⟨rfl, hP, hK⟩ := hv
  have hx := B.exec
  have hb := B.bytes
  have hr := B.returns
  have hts := atoms_spec (ws := wsX1_isNode) B.pre
  have hown : s.vm.findClass RX1 = some m.cls := findClass_of_methodNamed B.named
  have hlocks := B.notSynchronized
  have hf_33 := hts (.fieldLink RX1 33 "GraphSearchModel" "nodes" "I") (by decide +kernel)
  have hiw : ∀ w ∈ wsX10, w ∈ wsX1_isNode := by decide +kernel
  have hl := lv_entry ([.ref (a 0), .int x]) (n := 2) (Nat.le_of_ble_eq_true rfl)
  rw [lg_entry_eq]
  generalize (lg_sl ([.ref (a 0), .int x]) ++ List.replicate (2 - (lg_sl ([.ref (a 0), .int x])).length) Slot.unset).toArray = ls at hl ⊢
  have hl : lv_has ls 2 [(0, .ref (a 0)), (1, .int x)] := hl
  refine lv_iload_n hx hb dX1_isNode_0 rfl (lv_at hl 1 rfl) ?_
  refine lv_if_lt (tgt := 16) hx hb dX1_isNode_1 (by decide) (fun h1 => ?_) (fun h1 => ?_)
  · refine lv_iconst (v := 0) hx hb dX1_isNode_16 (by decide) ?_
    exact W.zret (v := 0) hx hb hr (by decide) (fun t ht hW => ⟨by rw [isn, if_pos h1], ht⟩) (fun _ h => nomatch h) dX1_isNode_17
  · refine lv_iload_n hx hb dX1_isNode_4 rfl (lv_at hl 1 rfl) ?_
    refine lv_aload_n hx hb dX1_isNode_5 rfl (lv_at hl 0 rfl) ?_
    refine va_get (D := (dC, dI)) (ci := 1) (v := .int (nI n)) (C := RX1) (T := TX1) (N := 8) hx hb hts hiw hown hK hP 0 rfl rfl 1 (by decide) hf_33 (fun _ h9 => h9) rfl dX1_isNode_6 ?_
    refine lv_icmp_ge (tgt := 16) hx hb dX1_isNode_9 (by decide) (fun h9 => ?_) (fun h9 => ?_)
    · refine lv_iconst (v := 0) hx hb dX1_isNode_16 (by decide) ?_
      exact W.zret (v := 0) hx hb hr (by decide) (fun t ht hW => ⟨by rw [isn, if_neg h1, if_pos h9], ht⟩) (fun _ h => nomatch h) dX1_isNode_17
    · refine lv_iconst (v := 1) hx hb dX1_isNode_12 (by decide) ?_
      refine lv_goto (tgt := 17) hx hb dX1_isNode_13 (by decide) ?_
      exact W.zret (v := 1) hx hb hr (by decide) (fun t ht hW => ⟨by rw [isn, if_neg h1, if_neg h9], ht⟩) (fun _ h => nomatch h) dX1_isNode_17
set_option maxHeartbeats 4000000 in
set_option maxRecDepth 100000 in
/-- behind -/
theorem kX1_behind (l : Launch) (v : Int32)  : Met l yX1_behind wsX1_behind ({ frames := 0, cells := 0, slots := 0, locals := 0 }) (va_Pc [.int v] (fun _ => True)) (QcRead (B32 v)) 0 0 (fun _ => False) := by
  refine Met.ofW (cc := cX1_behind) (maxL := 1) (ret := (some .int)) (by decide) rfl ?_
  intro p e s m args below meth c s₁ B hml hv
  obtain ⟨rfl, -⟩ := hv
  have hx := B.exec
  have hb := B.bytes
  have hr := B.returns
  have hts := atoms_spec (ws := wsX1_behind) B.pre
  have hown : s.vm.findClass RX1 = some m.cls := findClass_of_methodNamed B.named
  have hlocks := B.notSynchronized
  have hl := lv_entry ([.int v]) (n := 1) (Nat.le_of_ble_eq_true rfl)
  rw [lg_entry_eq]
  generalize (lg_sl ([.int v]) ++ List.replicate (1 - (lg_sl ([.int v])).length) Slot.unset).toArray = ls at hl ⊢
  have hl : lv_has ls 1 [(0, .int v)] := hl
  refine lv_iload_n hx hb dX1_behind_0 rfl (lv_at hl 0 rfl) ?_
  refine lv_ineg hx hb dX1_behind_1 ?_
  refine lv_sipush (v := (-900)) hx hb dX1_behind_2 (by decide) ?_
  refine lv_icmp_ge (tgt := 15) hx hb dX1_behind_5 (by decide) (fun h5 => ?_) (fun h5 => ?_)
  · refine lv_iload_n hx hb dX1_behind_15 rfl (lv_at hl 0 rfl) ?_
    refine lv_ineg hx hb dX1_behind_16 ?_
    refine lv_sipush (v := 900) hx hb dX1_behind_17 (by decide) ?_
    refine lv_icmp_le (tgt := 30) hx hb dX1_behind_20 (by decide) (fun h20 => ?_) (fun h20 => ?_)
    · refine lv_iload_n hx hb dX1_behind_30 rfl (lv_at hl 0 rfl) ?_
      refine lv_ineg hx hb dX1_behind_31 ?_
      exact W.iret (v := (-v)) hx hb hr (fun t ht hW => ⟨by rw [B32, if_pos h5, if_pos h20], ht⟩) (fun _ h => nomatch h) dX1_behind_32
    · refine lv_iload_n hx hb dX1_behind_23 rfl (lv_at hl 0 rfl) ?_
      refine lv_ineg hx hb dX1_behind_24 ?_
      refine lv_iconst (v := 1) hx hb dX1_behind_25 (by decide) ?_
      refine lv_isub hx hb dX1_behind_26 ?_
      refine lv_goto (tgt := 32) hx hb dX1_behind_27 (by decide) ?_
      exact W.iret (v := ((-v) - 1)) hx hb hr (fun t ht hW => ⟨by rw [B32, if_pos h5, if_neg h20], ht⟩) (fun _ h => nomatch h) dX1_behind_32
  · refine lv_iload_n hx hb dX1_behind_8 rfl (lv_at hl 0 rfl) ?_
    refine lv_ineg hx hb dX1_behind_9 ?_
    refine lv_iconst (v := 1) hx hb dX1_behind_10 (by decide) ?_
    refine lv_iadd hx hb dX1_behind_11 ?_
    refine lv_goto (tgt := 32) hx hb dX1_behind_12 (by decide) ?_
    exact W.iret (v := ((-v) + 1)) hx hb hr (fun t ht hW => ⟨by rw [B32, if_neg h5], ht⟩) (fun _ h => nomatch h) dX1_behind_32
set_option maxHeartbeats 4000000 in
set_option maxRecDepth 100000 in
/-- valueOf -/
theorem kX1_valueOf (l : Launch) (dC : Nat → ClassId) (dI : Nat → Nat → Nat) (cI cZ cA : ClassId) (a : Nat → Nat) (th : Nat) (n : Nat) (wv : Nat → Int32) (lo : Nat → Int32) (cf : Nat → Nat) (tf : Nat → Nat) (vs : Nat → Int32) (nr : Nat → Nat) (x d : Nat) (hd : d < 8) (hx4 : x < 400) : Met l yX1_valueOf wsX1_valueOf ({ frames := 0, cells := 0, slots := 0, locals := 0 }) (va_Pc [.ref (a 0), .int (nI x), .int (nI d)] (RP dC dI (GT cI cZ cA) (MW cI cZ a th n wv lo cf tf vs nr))) (QcRead (vs (400 * d + x))) 0 0 (fun _ => False) := by
  refine Met.ofW (cc := cX1_valueOf) (maxL := 3) (ret := (some .int)) (by decide) rfl ?_
  intro p e s m args below meth c s₁ B hml hv
  obtain ⟨rfl, hP, hK⟩ := hv
  have hx := B.exec
  have hb := B.bytes
  have hr := B.returns
  have hts := atoms_spec (ws := wsX1_valueOf) B.pre
  have hown : s.vm.findClass RX1 = some m.cls := findClass_of_methodNamed B.named
  have hlocks := B.notSynchronized
  have hf_23 := hts (.fieldLink RX1 23 "GraphSearchModel" "values" "[I") (by decide +kernel)
  have hiw : ∀ w ∈ wsX10, w ∈ wsX1_valueOf := by decide +kernel
  have hl := lv_entry ([.ref (a 0), .int (nI x), .int (nI d)]) (n := 3) (Nat.le_of_ble_eq_true rfl)
  rw [lg_entry_eq]
  generalize (lg_sl ([.ref (a 0), .int (nI x), .int (nI d)]) ++ List.replicate (3 - (lg_sl ([.ref (a 0), .int (nI x), .int (nI d)])).length) Slot.unset).toArray = ls at hl ⊢
  have hl : lv_has ls 3 [(0, .ref (a 0)), (1, .int (nI x)), (2, .int (nI d))] := hl
  refine lv_aload_n hx hb dX1_valueOf_0 rfl (lv_at hl 0 rfl) ?_
  refine va_get (D := (dC, dI)) (ci := 1) (v := .ref (a 5)) (C := RX1) (T := TX1) (N := 8) hx hb hts hiw hown hK hP 0 rfl rfl 6 (by decide) hf_23 (fun _ h9 => h9) rfl dX1_valueOf_1 ?_
  refine lv_sipush (v := 400) hx hb dX1_valueOf_4 (by decide) ?_
  refine lv_iload_n hx hb dX1_valueOf_7 rfl (lv_at hl 2 rfl) ?_
  refine lv_imul hx hb dX1_valueOf_8 ?_
  refine ga_is (y := nI (400 * d)) (by rw [show (400 : Int32) = nI 400 from rfl, pk_mul]) ?_
  refine lv_iload_n hx hb dX1_valueOf_9 rfl (lv_at hl 1 rfl) ?_
  refine lv_iadd hx hb dX1_valueOf_10 ?_
  refine ga_is (y := nI (400 * d + x)) (nI_add _ _) ?_
  refine ga_iald hx hb hK hP 5 0 rfl rfl (400 * d + x) (v := vs (400 * d + x)) rfl (by omega) (by decide) dX1_valueOf_11 ?_
  exact W.iret (v := (vs (400 * d + x))) hx hb hr (fun t ht hW => ⟨rfl, ht⟩) (fun _ h => nomatch h) dX1_valueOf_12
set_option maxHeartbeats 4000000 in
set_option maxRecDepth 100000 in
/-- given -/
theorem kX1_given (l : Launch) (dC : Nat → ClassId) (dI : Nat → Nat → Nat) (cI cZ cA : ClassId) (a : Nat → Nat) (th : Nat) (n : Nat) (wv : Nat → Int32) (lo : Nat → Int32) (cf : Nat → Nat) (tf : Nat → Nat) (vs : Nat → Int32) (nr : Nat → Nat) (x j d : Nat) (hd : d < 8) (hx6 : x * 6 + j < 2400) (ht : tf (x * 6 + j) < 400) : Met l yX1_given wsX1_given ({ frames := 1, cells := 0, slots := 0, locals := 20 }) (va_Pc [.ref (a 0), .int (nI x), .int (nI j), .int (nI (d + 1))] (RP dC dI (GT cI cZ cA) (MW cI cZ a th n wv lo cf tf vs nr))) (QcRead (gv tf (fun y => vs (400 * d + y)) x j)) 0 0 (fun _ => False) := by
  refine Met.ofW (cc := cX1_given) (maxL := 4) (ret := (some .int)) (by decide) rfl ?_
  intro p e s m args below meth c s₁ B hml hv
  obtain ⟨rfl, hP, hK⟩ := hv
  have hx := B.exec
  have hb := B.bytes
  have hr := B.returns
  have hts := atoms_spec (ws := wsX1_given) B.pre
  have hown : s.vm.findClass RX1 = some m.cls := findClass_of_methodNamed B.named
  have hlocks := B.notSynchronized
  have hf_23 := hts (.fieldLink RX1 23 "GraphSearchModel" "values" "[I") (by decide +kernel)
  have hf_20 := hts (.fieldLink RX1 20 "GraphSearchModel" "to" "[I") (by decide +kernel)
  have hiw : ∀ w ∈ wsX10, w ∈ wsX1_given := by decide +kernel
  have hl := lv_entry ([.ref (a 0), .int (nI x), .int (nI j), .int (nI (d + 1))]) (n := 4) (Nat.le_of_ble_eq_true rfl)
  rw [lg_entry_eq]
  generalize (lg_sl ([.ref (a 0), .int (nI x), .int (nI j), .int (nI (d + 1))]) ++ List.replicate (4 - (lg_sl ([.ref (a 0), .int (nI x), .int (nI j), .int (nI (d + 1))])).length) Slot.unset).toArray = ls at hl ⊢
  have hl : lv_has ls 4 [(0, .ref (a 0)), (1, .int (nI x)), (2, .int (nI j)), (3, .int (nI (d + 1)))] := hl
  refine lv_aload_n hx hb dX1_given_0 rfl (lv_at hl 0 rfl) ?_
  refine va_get (D := (dC, dI)) (ci := 1) (v := .ref (a 5)) (C := RX1) (T := TX1) (N := 8) hx hb hts hiw hown hK hP 0 rfl rfl 6 (by decide) hf_23 (fun _ h9 => h9) rfl dX1_given_1 ?_
  refine lv_sipush (v := 400) hx hb dX1_given_4 (by decide) ?_
  refine lv_iload_n hx hb dX1_given_7 rfl (lv_at hl 3 rfl) ?_
  refine lv_iconst (v := 1) hx hb dX1_given_8 (by decide) ?_
  refine lv_isub hx hb dX1_given_9 ?_
  refine ga_is (y := nI d) (nI_pred d) ?_
  refine lv_imul hx hb dX1_given_10 ?_
  refine ga_is (y := nI (400 * d)) (by rw [show (400 : Int32) = nI 400 from rfl, pk_mul]) ?_
  refine lv_aload_n hx hb dX1_given_11 rfl (lv_at hl 0 rfl) ?_
  refine va_get (D := (dC, dI)) (ci := 1) (v := .ref (a 4)) (C := RX1) (T := TX1) (N := 8) hx hb hts hiw hown hK hP 0 rfl rfl 5 (by decide) hf_20 (fun _ h9 => h9) rfl dX1_given_12 ?_
  refine lv_bipush (v := 6) hx hb dX1_given_15 (by decide) ?_
  refine lv_iload_n hx hb dX1_given_17 rfl (lv_at hl 1 rfl) ?_
  refine lv_imul hx hb dX1_given_18 ?_
  refine lv_iload_n hx hb dX1_given_19 rfl (lv_at hl 2 rfl) ?_
  refine lv_iadd hx hb dX1_given_20 ?_
  refine ga_is (y := nI (x * 6 + j)) (by rw [show (6 : Int32) = nI 6 from rfl, pk_mul, nI_add, Nat.mul_comm 6 x]) ?_
  refine ga_iald hx hb hK hP 4 0 rfl rfl (x * 6 + j) (v := nI (tf (x * 6 + j))) rfl (by omega) (by decide) dX1_given_21 ?_
  refine lv_iadd hx hb dX1_given_22 ?_
  refine ga_is (y := nI (400 * d + tf (x * 6 + j))) (nI_add _ _) ?_
  refine ga_iald hx hb hK hP 5 0 rfl rfl (400 * d + tf (x * 6 + j)) (v := vs (400 * d + tf (x * 6 + j))) rfl (by omega) (by decide) dX1_given_23 ?_
  refine W.callR (r := B32 (vs (400 * d + tf (x * 6 + j)))) (W.runS (As := [.int (vs (400 * d + tf (x * 6 + j)))]) (rest := []) ⟨hx, hb, hml, hown, hts⟩ (kX1_behind l (vs (400 * d + tf (x * 6 + j)))) (va_cwS 1 hts gX1_given_X1_behind rfl rfl rfl (by decide +kernel) ⟨Nat.le_of_ble_eq_true rfl, Nat.le_of_ble_eq_true rfl⟩) ⟨blindT, fun _ _ _ => ⟨rfl, trivial⟩⟩ rfl rfl hl.1 rfl (lv_room (Nat.le_of_ble_eq_true rfl)) dX1_given_24 ⟨Nat.zero_le _, Nat.zero_le _⟩) ?_
  refine W.eq (g2 := F0 m 27 ls [.int (B32 (vs (400 * d + tf (x * 6 + j))))]) rfl ?_
  exact W.iret (v := (B32 (vs (400 * d + tf (x * 6 + j))))) hx hb hr (fun t ht hW => ⟨rfl, ht⟩) (fun _ h => nomatch h) dX1_given_27
set_option maxHeartbeats 4000000 in
set_option maxRecDepth 100000 in
/-- greatest -/
theorem kX1_greatest (l : Launch) (dC : Nat → ClassId) (dI : Nat → Nat → Nat) (cI cZ cA : ClassId) (a : Nat → Nat) (th : Nat) (n : Nat) (wv : Nat → Int32) (lo : Nat → Int32) (cf : Nat → Nat) (tf : Nat → Nat) (vs : Nat → Int32) (nr : Nat → Nat) (x d : Nat) (hd : d < 8) (hx4 : x < 400) (hc : cf x ≤ 6) (hc0 : 0 < cf x) (ht : ∀ j, j < cf x → tf (x * 6 + j) < 400) : Met l yX1_greatest wsX1_greatest ({ frames := 2, cells := 0, slots := 0, locals := 43 }) (va_Pc [.ref (a 0), .int (nI x), .int (nI (d + 1))] (RP dC dI (GT cI cZ cA) (MW cI cZ a th n wv lo cf tf vs nr))) (QcRead (gm tf (fun y => vs (400 * d + y)) x (cf x - 1))) 0 0 (fun _ => False) := by
  refine Met.ofW (cc := cX1_greatest) (maxL := 5) (ret := (some .int)) (by decide) rfl ?_
  intro p e s m args below meth c s₁ B hml hv
  obtain ⟨rfl, hP, hK⟩ := hv
  have hx := B.exec
  have hb := B.bytes
  have hr := B.returns
  have hts := atoms_spec (ws := wsX1_greatest) B.pre
  have hown : s.vm.findClass RX1 = some m.cls := findClass_of_methodNamed B.named
  have hlocks := B.notSynchronized
  have hf_17 := hts (.fieldLink RX1 17 "GraphSearchModel" "many" "[I") (by decide +kernel)
  have hiw : ∀ w ∈ wsX10, w ∈ wsX1_greatest := by decide +kernel
  have hl := lv_entry ([.ref (a 0), .int (nI x), .int (nI (d + 1))]) (n := 5) (Nat.le_of_ble_eq_true rfl)
  rw [lg_entry_eq]
  generalize (lg_sl ([.ref (a 0), .int (nI x), .int (nI (d + 1))]) ++ List.replicate (5 - (lg_sl ([.ref (a 0), .int (nI x), .int (nI (d + 1))])).length) Slot.unset).toArray = ls at hl ⊢
  have hl : lv_has ls 5 [(0, .ref (a 0)), (1, .int (nI x)), (2, .int (nI (d + 1)))] := hl
  refine lv_aload_n hx hb dX1_greatest_0 rfl (lv_at hl 0 rfl) ?_
  refine lv_iload_n hx hb dX1_greatest_1 rfl (lv_at hl 1 rfl) ?_
  refine lv_iconst (v := 0) hx hb dX1_greatest_2 (by decide) ?_
  refine ga_is (y := nI 0) (rfl) ?_
  refine lv_iload_n hx hb dX1_greatest_3 rfl (lv_at hl 2 rfl) ?_
  refine W.callR (r := gv tf (fun y => vs (400 * d + y)) x 0) (W.runV (As := [.int (nI x), .int (nI 0), .int (nI (d + 1))]) (rest := []) ⟨hx, hb, hml, hown, hts⟩ (kX1_given l dC dI cI cZ cA a th n wv lo cf tf vs nr x 0 d hd (by omega) (ht 0 (by omega))) (cwV 3 hts gX1_greatest_X1_given rfl rfl rfl (by decide +kernel) ⟨Nat.le_of_ble_eq_true rfl, Nat.le_of_ble_eq_true rfl⟩) ⟨blindR, va_recv hK hP (ci := 1) (q0 := 0) rfl rfl, preR hP hK⟩ rfl rfl hl.1 rfl (lv_room (Nat.le_of_ble_eq_true rfl)) dX1_greatest_4 ⟨Nat.zero_le _, Nat.zero_le _⟩) ?_
  refine W.eq (g2 := F0 m 7 ls [.int (gv tf (fun y => vs (400 * d + y)) x 0)]) rfl ?_
  refine lv_istore_n (lv' := [(3, .int (gv tf (fun y => vs (400 * d + y)) x 0)), (0, .ref (a 0)), (1, .int (nI x)), (2, .int (nI (d + 1)))]) hx hb dX1_greatest_7 rfl hl (by decide) rfl (fun ls hl => ?_)
  refine lv_iconst (v := 1) hx hb dX1_greatest_8 (by decide) ?_
  refine ga_is (y := nI 1) (rfl) ?_
  refine lv_istore (lv' := [(4, .int (nI 1)), (3, .int (gv tf (fun y => vs (400 * d + y)) x 0)), (0, .ref (a 0)), (1, .int (nI x)), (2, .int (nI (d + 1)))]) hx hb dX1_greatest_9 hl (by decide) rfl (fun ls hl => ?_)
  have loop : ∀ (k j : Nat), j + k = cf x → 0 < j → ∀ ls : Array Slot, lv_has ls 5 [(4, .int (nI j)), (3, .int (gm tf (fun y => vs (400 * d + y)) x (j - 1))), (0, .ref (a 0)), (1, .int (nI x)), (2, .int (nI (d + 1)))] → W p l e (headSpec wsX1_greatest (({ frames := 2, cells := 0, slots := 0, locals := 43 }) : Room)).room s m ([.ref (a 0), .int (nI x), .int (nI (d + 1))] : List Value).toArray below meth c s.heap [] 0 0 (MQ below (QcRead (gm tf (fun y => vs (400 * d + y)) x (cf x - 1))) ([.ref (a 0), .int (nI x), .int (nI (d + 1))] : List Value).toArray s 0 0 (fun _ => False)) (F0 m 11 ls []) := by
    intro k
    induction k with
    | zero =>
      intro j hj h0 ls hl
      obtain rfl : j = cf x := by omega
      refine lv_iload hx hb dX1_greatest_11 (lv_at hl 0 rfl) ?_
      refine lv_aload_n hx hb dX1_greatest_13 rfl (lv_at hl 2 rfl) ?_
      refine va_get (D := (dC, dI)) (ci := 1) (v := .ref (a 3)) (C := RX1) (T := TX1) (N := 8) hx hb hts hiw hown hK hP 0 rfl rfl 4 (by decide) hf_17 (fun _ h9 => h9) rfl dX1_greatest_14 ?_
      refine lv_iload_n hx hb dX1_greatest_17 rfl (lv_at hl 3 rfl) ?_
      refine ga_iald hx hb hK hP 3 0 rfl rfl x (v := nI (cf x)) rfl (by omega) (by decide) dX1_greatest_18 ?_
      refine lv_icmp_ge (tgt := 53) hx hb dX1_greatest_19 (by decide) (fun h19 => ?_) (fun h19 => absurd (Int32.le_refl _) h19)
      refine lv_iload_n hx hb dX1_greatest_53 rfl (lv_at hl 1 rfl) ?_
      exact W.iret (v := (gm tf (fun y => vs (400 * d + y)) x (cf x - 1))) hx hb hr (fun t ht hW => ⟨rfl, ht⟩) (fun _ h => nomatch h) dX1_greatest_54
    | succ k ih =>
      intro j hj h0 ls hl
      refine lv_iload hx hb dX1_greatest_11 (lv_at hl 0 rfl) ?_
      refine lv_aload_n hx hb dX1_greatest_13 rfl (lv_at hl 2 rfl) ?_
      refine va_get (D := (dC, dI)) (ci := 1) (v := .ref (a 3)) (C := RX1) (T := TX1) (N := 8) hx hb hts hiw hown hK hP 0 rfl rfl 4 (by decide) hf_17 (fun _ h9 => h9) rfl dX1_greatest_14 ?_
      refine lv_iload_n hx hb dX1_greatest_17 rfl (lv_at hl 3 rfl) ?_
      refine ga_iald hx hb hK hP 3 0 rfl rfl x (v := nI (cf x)) rfl (by omega) (by decide) dX1_greatest_18 ?_
      refine lv_icmp_ge (tgt := 53) hx hb dX1_greatest_19 (by decide) (fun h19 => absurd h19 (nI_ge (by omega) (by omega))) (fun h19 => ?_)
      refine lv_aload_n hx hb dX1_greatest_22 rfl (lv_at hl 2 rfl) ?_
      refine lv_iload_n hx hb dX1_greatest_23 rfl (lv_at hl 3 rfl) ?_
      refine lv_iload hx hb dX1_greatest_24 (lv_at hl 0 rfl) ?_
      refine lv_iload_n hx hb dX1_greatest_26 rfl (lv_at hl 4 rfl) ?_
      refine W.callR (r := gv tf (fun y => vs (400 * d + y)) x j) (W.runV (As := [.int (nI x), .int (nI j), .int (nI (d + 1))]) (rest := []) ⟨hx, hb, hml, hown, hts⟩ (kX1_given l dC dI cI cZ cA a th n wv lo cf tf vs nr x j d hd (by omega) (ht j (by omega))) (cwV 3 hts gX1_greatest_X1_given rfl rfl rfl (by decide +kernel) ⟨Nat.le_of_ble_eq_true rfl, Nat.le_of_ble_eq_true rfl⟩) ⟨blindR, va_recv hK hP (ci := 1) (q0 := 0) rfl rfl, preR hP hK⟩ rfl rfl hl.1 rfl (lv_room (Nat.le_of_ble_eq_true rfl)) dX1_greatest_27 ⟨Nat.zero_le _, Nat.zero_le _⟩) ?_
      refine W.eq (g2 := F0 m 30 ls [.int (gv tf (fun y => vs (400 * d + y)) x j)]) rfl ?_
      refine lv_iload_n hx hb dX1_greatest_30 rfl (lv_at hl 1 rfl) ?_
      refine lv_icmp_le (tgt := 45) hx hb dX1_greatest_31 (by decide) (fun h31 => ?_) (fun h31 => ?_)
      · refine lv_iload_n hx hb dX1_greatest_45 rfl (lv_at hl 1 rfl) ?_
        refine ga_is (y := gm tf (fun y => vs (400 * d + y)) x (j + 1 - 1)) (by rw [show j + 1 - 1 = (j - 1) + 1 by omega]; show _ = mx (gm tf (fun y => vs (400 * d + y)) x (j - 1)) (gv tf (fun y => vs (400 * d + y)) x (j - 1 + 1)); rw [show j - 1 + 1 = j by omega, mx, if_neg (fun q => by rw [Int32.lt_iff_toInt_lt] at q; rw [Int32.le_iff_toInt_le] at h31; omega)]) ?_
        refine lv_istore_n (lv' := [(3, .int (gm tf (fun y => vs (400 * d + y)) x (j + 1 - 1))), (4, .int (nI j)), (0, .ref (a 0)), (1, .int (nI x)), (2, .int (nI (d + 1)))]) hx hb dX1_greatest_46 rfl hl (by decide) rfl (fun ls hl => ?_)
        refine lv_iinc (v := nI (j + 1)) (lv' := [(4, .int (nI (j + 1))), (3, .int (gm tf (fun y => vs (400 * d + y)) x (j + 1 - 1))), (0, .ref (a 0)), (1, .int (nI x)), (2, .int (nI (d + 1)))]) hx hb dX1_greatest_47 hl (k := 1) rfl (nI_1 j) (by decide) rfl (fun ls hl => ?_)
        refine lv_goto (tgt := 11) hx hb dX1_greatest_50 (by decide) ?_
        exact ih (j + 1) (by omega) (by omega) ls (lv_sub hl [0, 1, 2, 3, 4] rfl)
      · refine lv_aload_n hx hb dX1_greatest_34 rfl (lv_at hl 2 rfl) ?_
        refine lv_iload_n hx hb dX1_greatest_35 rfl (lv_at hl 3 rfl) ?_
        refine lv_iload hx hb dX1_greatest_36 (lv_at hl 0 rfl) ?_
        refine lv_iload_n hx hb dX1_greatest_38 rfl (lv_at hl 4 rfl) ?_
        refine W.callR (r := gv tf (fun y => vs (400 * d + y)) x j) (W.runV (As := [.int (nI x), .int (nI j), .int (nI (d + 1))]) (rest := []) ⟨hx, hb, hml, hown, hts⟩ (kX1_given l dC dI cI cZ cA a th n wv lo cf tf vs nr x j d hd (by omega) (ht j (by omega))) (cwV 3 hts gX1_greatest_X1_given rfl rfl rfl (by decide +kernel) ⟨Nat.le_of_ble_eq_true rfl, Nat.le_of_ble_eq_true rfl⟩) ⟨blindR, va_recv hK hP (ci := 1) (q0 := 0) rfl rfl, preR hP hK⟩ rfl rfl hl.1 rfl (lv_room (Nat.le_of_ble_eq_true rfl)) dX1_greatest_39 ⟨Nat.zero_le _, Nat.zero_le _⟩) ?_
        refine W.eq (g2 := F0 m 42 ls [.int (gv tf (fun y => vs (400 * d + y)) x j)]) rfl ?_
        refine lv_goto (tgt := 46) hx hb dX1_greatest_42 (by decide) ?_
        refine ga_is (y := gm tf (fun y => vs (400 * d + y)) x (j + 1 - 1)) (by rw [show j + 1 - 1 = (j - 1) + 1 by omega]; show _ = mx (gm tf (fun y => vs (400 * d + y)) x (j - 1)) (gv tf (fun y => vs (400 * d + y)) x (j - 1 + 1)); rw [show j - 1 + 1 = j by omega, mx, if_pos (i32_nle h31)]) ?_
        refine lv_istore_n (lv' := [(3, .int (gm tf (fun y => vs (400 * d + y)) x (j + 1 - 1))), (4, .int (nI j)), (0, .ref (a 0)), (1, .int (nI x)), (2, .int (nI (d + 1)))]) hx hb dX1_greatest_46 rfl hl (by decide) rfl (fun ls hl => ?_)
        refine lv_iinc (v := nI (j + 1)) (lv' := [(4, .int (nI (j + 1))), (3, .int (gm tf (fun y => vs (400 * d + y)) x (j + 1 - 1))), (0, .ref (a 0)), (1, .int (nI x)), (2, .int (nI (d + 1)))]) hx hb dX1_greatest_47 hl (k := 1) rfl (nI_1 j) (by decide) rfl (fun ls hl => ?_)
        refine lv_goto (tgt := 11) hx hb dX1_greatest_50 (by decide) ?_
        exact ih (j + 1) (by omega) (by omega) ls (lv_sub hl [0, 1, 2, 3, 4] rfl)
  exact loop (cf x - 1) 1 (by omega) (by omega) ls (lv_sub hl [0, 1, 2, 3, 4] rfl)
/-- the values of the model, by depth -/
def rw_ (vs : Nat → Int32) : Nat → Nat → Int32 := fun d y => vs (400 * d + y)
set_option maxHeartbeats 4000000 in
set_option maxRecDepth 100000 in
/-- bestOf -/
theorem kX1_bestOf (l : Launch) (dC : Nat → ClassId) (dI : Nat → Nat → Nat) (cI cZ cA : ClassId) (a : Nat → Nat) (th : Nat) (n : Nat) (wv : Nat → Int32) (lo : Nat → Int32) (cf : Nat → Nat) (tf : Nat → Nat) (vs : Nat → Int32) (nr : Nat → Nat) (x d : Nat) (hd : d < 8) (hx4 : x < 400) (hc : cf x ≤ 6) (ht : ∀ j, j < cf x → tf (x * 6 + j) < 400) : Met l yX1_bestOf wsX1_bestOf ({ frames := 2, cells := 0, slots := 0, locals := 43 }) (va_Pc [.ref (a 0), .int (nI x), .int (nI d)] (RP dC dI (GT cI cZ cA) (MW cI cZ a th n wv lo cf tf vs nr))) (QcRead (bm cf tf (rw_ vs) x d)) 0 0 (fun _ => False) := by
  refine Met.ofW (cc := cX1_bestOf) (maxL := 4) (ret := (some .int)) (by decide) rfl ?_
  intro p e s m args below meth c s₁ B hml hv
  obtain ⟨rfl, hP, hK⟩ := hv
  have hx := B.exec
  have hb := B.bytes
  have hr := B.returns
  have hts := atoms_spec (ws := wsX1_bestOf) B.pre
  have hown : s.vm.findClass RX1 = some m.cls := findClass_of_methodNamed B.named
  have hlocks := B.notSynchronized
  have hf_17 := hts (.fieldLink RX1 17 "GraphSearchModel" "many" "[I") (by decide +kernel)
  have hiw : ∀ w ∈ wsX10, w ∈ wsX1_bestOf := by decide +kernel
  have hl := lv_entry ([.ref (a 0), .int (nI x), .int (nI d)]) (n := 4) (Nat.le_of_ble_eq_true rfl)
  rw [lg_entry_eq]
  generalize (lg_sl ([.ref (a 0), .int (nI x), .int (nI d)]) ++ List.replicate (4 - (lg_sl ([.ref (a 0), .int (nI x), .int (nI d)])).length) Slot.unset).toArray = ls at hl ⊢
  have hl : lv_has ls 4 [(0, .ref (a 0)), (1, .int (nI x)), (2, .int (nI d))] := hl
  refine lv_iconst (v := 0) hx hb dX1_bestOf_0 (by decide) ?_
  refine ga_is (y := nI 0) (rfl) ?_
  refine lv_istore_n (lv' := [(3, .int (nI 0)), (0, .ref (a 0)), (1, .int (nI x)), (2, .int (nI d))]) hx hb dX1_bestOf_1 rfl hl (by decide) rfl (fun ls hl => ?_)
  cases d with
  | zero =>
    refine lv_iload_n hx hb dX1_bestOf_2 rfl (lv_at hl 0 rfl) ?_
    refine lv_aload_n hx hb dX1_bestOf_3 rfl (lv_at hl 1 rfl) ?_
    refine va_get (D := (dC, dI)) (ci := 1) (v := .ref (a 3)) (C := RX1) (T := TX1) (N := 8) hx hb hts hiw hown hK hP 0 rfl rfl 4 (by decide) hf_17 (fun _ h9 => h9) rfl dX1_bestOf_4 ?_
    refine lv_iload_n hx hb dX1_bestOf_7 rfl (lv_at hl 2 rfl) ?_
    refine ga_iald hx hb hK hP 3 0 rfl rfl x (v := nI (cf x)) rfl (by omega) (by decide) dX1_bestOf_8 ?_
    refine lv_icmp_ge (tgt := 40) hx hb dX1_bestOf_9 (by decide) (fun h9 => ?_) (fun h9 => ?_)
    · refine lv_iconst (v := (-1)) hx hb dX1_bestOf_40 (by decide) ?_
      exact W.iret (v := (-1)) hx hb hr (fun t ht hW => ⟨rfl, ht⟩) (fun _ h => nomatch h) dX1_bestOf_41
    · refine lv_iload_n hx hb dX1_bestOf_12 rfl (lv_at hl 3 rfl) ?_
      refine lv_if_le (tgt := 40) hx hb dX1_bestOf_13 (by decide) (fun h13 => ?_) (fun h13 => absurd (show nI 0 ≤ 0 from Int32.le_refl _) h13)
      refine lv_iconst (v := (-1)) hx hb dX1_bestOf_40 (by decide) ?_
      exact W.iret (v := (-1)) hx hb hr (fun t ht hW => ⟨rfl, ht⟩) (fun _ h => nomatch h) dX1_bestOf_41
  | succ d =>
    have loop : ∀ (k j : Nat), j + k = cf x → ∀ ls : Array Slot, lv_has ls 4 [(3, .int (nI j)), (0, .ref (a 0)), (1, .int (nI x)), (2, .int (nI (d + 1)))] → W p l e (headSpec wsX1_bestOf (({ frames := 2, cells := 0, slots := 0, locals := 43 }) : Room)).room s m ([.ref (a 0), .int (nI x), .int (nI (d + 1))] : List Value).toArray below meth c s.heap [] 0 0 (MQ below (QcRead (fst_ (gv tf (rw_ vs d) x) (rw_ vs (d + 1) x) k j)) ([.ref (a 0), .int (nI x), .int (nI (d + 1))] : List Value).toArray s 0 0 (fun _ => False)) (F0 m 2 ls []) := by
      intro k
      induction k with
      | zero =>
        intro j hj ls hl
        obtain rfl : j = cf x := by omega
        refine lv_iload_n hx hb dX1_bestOf_2 rfl (lv_at hl 0 rfl) ?_
        refine lv_aload_n hx hb dX1_bestOf_3 rfl (lv_at hl 1 rfl) ?_
        refine va_get (D := (dC, dI)) (ci := 1) (v := .ref (a 3)) (C := RX1) (T := TX1) (N := 8) hx hb hts hiw hown hK hP 0 rfl rfl 4 (by decide) hf_17 (fun _ h9 => h9) rfl dX1_bestOf_4 ?_
        refine lv_iload_n hx hb dX1_bestOf_7 rfl (lv_at hl 2 rfl) ?_
        refine ga_iald hx hb hK hP 3 0 rfl rfl x (v := nI (cf x)) rfl (by omega) (by decide) dX1_bestOf_8 ?_
        refine lv_icmp_ge (tgt := 40) hx hb dX1_bestOf_9 (by decide) (fun h9 => ?_) (fun h9 => absurd (Int32.le_refl _) h9)
        refine lv_iconst (v := (-1)) hx hb dX1_bestOf_40 (by decide) ?_
        exact W.iret (v := (-1)) hx hb hr (fun t ht hW => ⟨rfl, ht⟩) (fun _ h => nomatch h) dX1_bestOf_41
      | succ k ih =>
        intro j hj ls hl
        refine lv_iload_n hx hb dX1_bestOf_2 rfl (lv_at hl 0 rfl) ?_
        refine lv_aload_n hx hb dX1_bestOf_3 rfl (lv_at hl 1 rfl) ?_
        refine va_get (D := (dC, dI)) (ci := 1) (v := .ref (a 3)) (C := RX1) (T := TX1) (N := 8) hx hb hts hiw hown hK hP 0 rfl rfl 4 (by decide) hf_17 (fun _ h9 => h9) rfl dX1_bestOf_4 ?_
        refine lv_iload_n hx hb dX1_bestOf_7 rfl (lv_at hl 2 rfl) ?_
        refine ga_iald hx hb hK hP 3 0 rfl rfl x (v := nI (cf x)) rfl (by omega) (by decide) dX1_bestOf_8 ?_
        refine lv_icmp_ge (tgt := 40) hx hb dX1_bestOf_9 (by decide) (fun h9 => absurd h9 (nI_ge (by omega) (by omega))) (fun h9 => ?_)
        refine lv_iload_n hx hb dX1_bestOf_12 rfl (lv_at hl 3 rfl) ?_
        refine lv_if_le (tgt := 40) hx hb dX1_bestOf_13 (by decide) (fun h13 => absurd h13 (nI_nle (by omega) (by omega))) (fun h13 => ?_)
        refine lv_aload_n hx hb dX1_bestOf_16 rfl (lv_at hl 1 rfl) ?_
        refine lv_iload_n hx hb dX1_bestOf_17 rfl (lv_at hl 2 rfl) ?_
        refine lv_iload_n hx hb dX1_bestOf_18 rfl (lv_at hl 0 rfl) ?_
        refine lv_iload_n hx hb dX1_bestOf_19 rfl (lv_at hl 3 rfl) ?_
        refine W.callR (r := gv tf (rw_ vs d) x j) (W.runV (As := [.int (nI x), .int (nI j), .int (nI (d + 1))]) (rest := []) ⟨hx, hb, hml, hown, hts⟩ (kX1_given l dC dI cI cZ cA a th n wv lo cf tf vs nr x j d (by omega) (by omega) (ht j (by omega))) (cwV 3 hts gX1_bestOf_X1_given rfl rfl rfl (by decide +kernel) ⟨Nat.le_of_ble_eq_true rfl, Nat.le_of_ble_eq_true rfl⟩) ⟨blindR, va_recv hK hP (ci := 1) (q0 := 0) rfl rfl, preR hP hK⟩ rfl rfl hl.1 rfl (lv_room (Nat.le_of_ble_eq_true rfl)) dX1_bestOf_20 ⟨Nat.zero_le _, Nat.zero_le _⟩) ?_
        refine W.eq (g2 := F0 m 23 ls [.int (gv tf (rw_ vs d) x j)]) rfl ?_
        refine lv_aload_n hx hb dX1_bestOf_23 rfl (lv_at hl 1 rfl) ?_
        refine lv_iload_n hx hb dX1_bestOf_24 rfl (lv_at hl 2 rfl) ?_
        refine lv_iload_n hx hb dX1_bestOf_25 rfl (lv_at hl 3 rfl) ?_
        refine W.callR (r := rw_ vs (d + 1) x) (W.runV (As := [.int (nI x), .int (nI (d + 1))]) (rest := [.int (gv tf (rw_ vs d) x j)]) ⟨hx, hb, hml, hown, hts⟩ (kX1_valueOf l dC dI cI cZ cA a th n wv lo cf tf vs nr x (d + 1) hd hx4) (cwV 2 hts gX1_bestOf_X1_valueOf rfl rfl rfl (by decide +kernel) ⟨Nat.le_of_ble_eq_true rfl, Nat.le_of_ble_eq_true rfl⟩) ⟨blindR, va_recv hK hP (ci := 1) (q0 := 0) rfl rfl, preR hP hK⟩ rfl rfl hl.1 rfl (lv_room (Nat.le_of_ble_eq_true rfl)) dX1_bestOf_26 ⟨Nat.zero_le _, Nat.zero_le _⟩) ?_
        refine W.eq (g2 := F0 m 29 ls [.int (rw_ vs (d + 1) x), .int (gv tf (rw_ vs d) x j)]) rfl ?_
        refine lv_icmp_ne (tgt := 34) hx hb dX1_bestOf_29 (by decide) (fun h29 => ?_) (fun h29 => ?_)
        · show W p l e _ s m _ below meth c s.heap [] 0 0 (MQ below (QcRead (if gv tf (rw_ vs d) x j = rw_ vs (d + 1) x then nI j else fst_ (gv tf (rw_ vs d) x) (rw_ vs (d + 1) x) k (j + 1))) _ s 0 0 (fun _ => False)) _
          rw [if_neg h29]
          refine lv_iinc (v := nI (j + 1)) (lv' := [(3, .int (nI (j + 1))), (0, .ref (a 0)), (1, .int (nI x)), (2, .int (nI (d + 1)))]) hx hb dX1_bestOf_34 hl (k := 0) rfl (nI_1 j) (by decide) rfl (fun ls hl => ?_)
          refine lv_goto (tgt := 2) hx hb dX1_bestOf_37 (by decide) ?_
          exact ih (j + 1) (by omega) ls (lv_sub hl [0, 1, 2, 3] rfl)
        · refine lv_iload_n hx hb dX1_bestOf_32 rfl (lv_at hl 0 rfl) ?_
          exact W.iret (v := (nI j)) hx hb hr (fun t ht hW => ⟨by rw [fst_, if_pos h29], ht⟩) (fun _ h => nomatch h) dX1_bestOf_33
    exact loop (cf x) 0 (by omega) ls (lv_sub hl [0, 1, 2, 3] rfl)
end
section
/-- the model's values hold up to a depth -/
def Vok (n : Nat) (wv lo : Nat → Int32) (cf tf : Nat → Nat) (d : Nat) (vs : Nat → Int32) : Prop := ∀ e, e ≤ d → ∀ x, x < n → vs (400 * e + x) = vv wv lo cf tf e x
theorem vv_end {wv lo : Nat → Int32} {cf tf : Nat → Nat} {d x : Nat} (h : cf x = 0) : vv wv lo cf tf d x = if lo x = 0 then 0 else (-1000) := by
  cases d with
  | zero => exact if_pos h
  | succ d => exact if_pos h
theorem wk_put {n : Nat} {wv lo : Nat → Int32} {cf tf : Nat → Nat} {d x : Nat} {vs : Nat → Int32} {v : Int32} (hn : n ≤ 400) (hx : x < n) (h1 : ∀ e, e < d → ∀ y, y < n → vs (400 * e + y) = vv wv lo cf tf e y) (h2 : ∀ y, y < x → vs (400 * d + y) = vv wv lo cf tf d y) (hv : v = vv wv lo cf tf d x) :
    (∀ e, e < d → ∀ y, y < n → upd vs (400 * d + x) v (400 * e + y) = vv wv lo cf tf e y) ∧ (∀ y, y < x + 1 → upd vs (400 * d + x) v (400 * d + y) = vv wv lo cf tf d y) := by
  refine ⟨fun e he y hy => ?_, fun y hy => ?_⟩
  · rw [upd_n (by omega)]; exact h1 e he y hy
  · by_cases e : y = x
    · rw [e, upd_s, hv]
    · rw [upd_n (by omega)]; exact h2 y (by omega)
set_option maxHeartbeats 4000000 in
set_option maxRecDepth 100000 in
/-- work -/
theorem kX1_work (l : Launch) (dC : Nat → ClassId) (dI : Nat → Nat → Nat) (cI cZ cA : ClassId) (a : Nat → Nat) (sz : Nat) (th : Nat) (n : Nat) (wv : Nat → Int32) (lo : Nat → Int32) (cf : Nat → Nat) (tf : Nat → Nat) (vs : Nat → Int32) (nr : Nat → Nat) (d : Nat) (hd : d < 8) (hG : Gok n wv lo cf tf) : Met l yX1_work wsX1_work ({ frames := 3, cells := 0, slots := 0, locals := 67 }) (va_Pc [.ref (a 0), .int (nI d)] (WP dC dI (GT cI cZ cA) (MW cI cZ a th n wv lo cf tf vs nr) sz)) (va_Qv (fun vs1 : Nat → Int32 => Vok n wv lo cf tf d vs1) (fun vs1 => WQ dC dI (GT cI cZ cA) (va_A (MW cI cZ a th n wv lo cf tf vs nr) sz) (MW cI cZ a th n wv lo cf tf vs1 nr)) (va_A (MW cI cZ a th n wv lo cf tf vs nr) sz)) 0 0 (va_A (MW cI cZ a th n wv lo cf tf vs nr) sz) := by
  refine Met.ofW (cc := cX1_work) (maxL := 5) (ret := none) (by decide) rfl ?_
  intro p e s m args below meth c s₁ B hml hv
  obtain ⟨rfl, hsz, hP, hK, hD0⟩ := hv
  have hx := B.exec
  have hb := B.bytes
  have hr := B.returns
  have hts := atoms_spec (ws := wsX1_work) B.pre
  have hown : s.vm.findClass RX1 = some m.cls := findClass_of_methodNamed B.named
  have hlocks := B.notSynchronized
  have hf_33 := hts (.fieldLink RX1 33 "GraphSearchModel" "nodes" "I") (by decide +kernel)
  have hf_13 := hts (.fieldLink RX1 13 "GraphSearchModel" "lost" "[Z") (by decide +kernel)
  have hf_23 := hts (.fieldLink RX1 23 "GraphSearchModel" "values" "[I") (by decide +kernel)
  have hf_17 := hts (.fieldLink RX1 17 "GraphSearchModel" "many" "[I") (by decide +kernel)
  have hf_7 := hts (.fieldLink RX1 7 "GraphSearchModel" "worth" "[I") (by decide +kernel)
  have hiw : ∀ w ∈ wsX10, w ∈ wsX1_work := by decide +kernel
  subst hsz
  have hD := hD0.self (sz := s.heap.size)
  generalize hAe : va_A (MW cI cZ a th n wv lo cf tf vs nr) s.heap.size = A at hD ⊢
  have hA : ∀ q : Nat, s.heap.size ≤ q → A q := fun q h => by rw [← hAe]; exact Or.inr h
  have hS : va_S A s.heap s.heap [] := va_S.rf
  have hP : va_P (dC, dI) vwCl (MW cI cZ a th n wv lo cf tf vs nr) s.heap := hP
  have hl := lv_entry ([.ref (a 0), .int (nI d)]) (n := 5) (Nat.le_of_ble_eq_true rfl)
  rw [lg_entry_eq]
  generalize (lg_sl ([.ref (a 0), .int (nI d)]) ++ List.replicate (5 - (lg_sl ([.ref (a 0), .int (nI d)])).length) Slot.unset).toArray = ls at hl ⊢
  have hl : lv_has ls 5 [(0, .ref (a 0)), (1, .int (nI d))] := hl
  obtain ⟨hn4, hwr, hc, htt, hlo, hz0⟩ := id hG
  refine lv_iconst (v := 0) hx hb dX1_work_0 (by decide) ?_
  refine ga_is (y := nI 0) (rfl) ?_
  refine lv_istore_n (lv' := [(2, .int (nI 0)), (0, .ref (a 0)), (1, .int (nI d))]) hx hb dX1_work_1 rfl hl (by decide) rfl (fun ls hl => ?_)
  have outer : ∀ (k t : Nat), t + k = d + 1 → ∀ vs1 : Nat → Int32, (∀ e, e < t → ∀ x, x < n → vs1 (400 * e + x) = vv wv lo cf tf e x) → ∀ (H : Heap) (locs : List Loc), va_P (dC, dI) vwCl (MW cI cZ a th n wv lo cf tf vs1 nr) H → va_D A (MW cI cZ a th n wv lo cf tf vs1 nr) → va_S A s.heap H locs → ∀ ls : Array Slot, lv_has ls 5 [(2, .int (nI t)), (0, .ref (a 0)), (1, .int (nI d))] → W p l e (headSpec wsX1_work (({ frames := 3, cells := 0, slots := 0, locals := 67 }) : Room)).room s m ([.ref (a 0), .int (nI d)] : List Value).toArray below meth c H locs 0 0 (MQ below (va_Qv (fun vs1 : Nat → Int32 => Vok n wv lo cf tf d vs1) (fun vs1 => WQ dC dI (GT cI cZ cA) A (MW cI cZ a th n wv lo cf tf vs1 nr)) A) ([.ref (a 0), .int (nI d)] : List Value).toArray s 0 0 A) (F0 m 2 ls []) := by
    intro k
    induction k with
    | zero =>
      intro t ht vs1 h1 H locs hP hD hS ls hl
      obtain rfl : t = d + 1 := by omega
      refine lv_iload_n hx hb dX1_work_2 rfl (lv_at hl 0 rfl) ?_
      refine lv_iload_n hx hb dX1_work_3 rfl (lv_at hl 2 rfl) ?_
      refine lv_icmp_gt (tgt := 92) hx hb dX1_work_4 (by decide) (fun h4 => ?_) (fun h4 => absurd (nI_lt (by omega) (by omega)) h4)
      exact W.vret hx hb hr (fun t ht hW => ⟨⟨vs1, rfl, fun e he x hx => h1 e (by omega) x hx, by rw [ht]; exact hP, va_K.moved hW.alike hK, hD⟩, hS.F ht⟩) hS.2.2 dX1_work_92
    | succ k ih =>
      intro t ht vs1 h1 H locs hP hD hS ls hl
      refine lv_iload_n hx hb dX1_work_2 rfl (lv_at hl 0 rfl) ?_
      refine lv_iload_n hx hb dX1_work_3 rfl (lv_at hl 2 rfl) ?_
      refine lv_icmp_gt (tgt := 92) hx hb dX1_work_4 (by decide) (fun h4 => absurd h4 (nI_nlt (by omega) (by omega))) (fun h4 => ?_)
      refine lv_iconst (v := 0) hx hb dX1_work_7 (by decide) ?_
      refine ga_is (y := nI 0) (rfl) ?_
      refine lv_istore_n (lv' := [(3, .int (nI 0)), (2, .int (nI t)), (0, .ref (a 0)), (1, .int (nI d))]) hx hb dX1_work_8 rfl hl (by decide) rfl (fun ls hl => ?_)
      have inner : ∀ (k2 x : Nat), x + k2 = n → ∀ vs2 : Nat → Int32, (∀ e, e < t → ∀ y, y < n → vs2 (400 * e + y) = vv wv lo cf tf e y) → (∀ y, y < x → vs2 (400 * t + y) = vv wv lo cf tf t y) → ∀ (H : Heap) (locs : List Loc), va_P (dC, dI) vwCl (MW cI cZ a th n wv lo cf tf vs2 nr) H → va_D A (MW cI cZ a th n wv lo cf tf vs2 nr) → va_S A s.heap H locs → ∀ ls : Array Slot, lv_has ls 5 [(3, .int (nI x)), (2, .int (nI t)), (0, .ref (a 0)), (1, .int (nI d))] → W p l e (headSpec wsX1_work (({ frames := 3, cells := 0, slots := 0, locals := 67 }) : Room)).room s m ([.ref (a 0), .int (nI d)] : List Value).toArray below meth c H locs 0 0 (MQ below (va_Qv (fun vs1 : Nat → Int32 => Vok n wv lo cf tf d vs1) (fun vs1 => WQ dC dI (GT cI cZ cA) A (MW cI cZ a th n wv lo cf tf vs1 nr)) A) ([.ref (a 0), .int (nI d)] : List Value).toArray s 0 0 A) (F0 m 9 ls []) := by
        intro k2
        induction k2 with
        | zero =>
          intro x hx0 vs2 c1 c2 H locs hP hD hS ls hl
          obtain rfl : n = x := by omega
          refine lv_iload_n hx hb dX1_work_9 rfl (lv_at hl 0 rfl) ?_
          refine lv_aload_n hx hb dX1_work_10 rfl (lv_at hl 2 rfl) ?_
          refine va_get (D := (dC, dI)) (ci := 1) (v := .int (nI n)) (C := RX1) (T := TX1) (N := 8) hx hb hts hiw hown hK hP 0 rfl rfl 1 (by decide) hf_33 (fun _ h9 => h9) rfl dX1_work_11 ?_
          refine lv_icmp_ge (tgt := 86) hx hb dX1_work_14 (by decide) (fun h14 => ?_) (fun h14 => absurd (Int32.le_refl _) h14)
          refine lv_iinc (v := nI (t + 1)) (lv' := [(2, .int (nI (t + 1))), (3, .int (nI n)), (0, .ref (a 0)), (1, .int (nI d))]) hx hb dX1_work_86 hl (k := 1) rfl (nI_1 t) (by decide) rfl (fun ls hl => ?_)
          refine lv_goto (tgt := 2) hx hb dX1_work_89 (by decide) ?_
          refine ih (t + 1) (by omega) vs2 (fun e he x hx => ?_) H locs hP hD hS ls (lv_sub hl [0, 2, 3] rfl)
          by_cases e1 : e = t
          · rw [e1]; exact c2 x hx
          · exact c1 e (by omega) x hx
        | succ k2 ih2 =>
          intro x hx0 vs2 c1 c2 H locs hP hD hS ls hl
          have hxn : x < n := by omega
          have hcx := hc x hxn
          refine lv_iload_n hx hb dX1_work_9 rfl (lv_at hl 0 rfl) ?_
          refine lv_aload_n hx hb dX1_work_10 rfl (lv_at hl 2 rfl) ?_
          refine va_get (D := (dC, dI)) (ci := 1) (v := .int (nI n)) (C := RX1) (T := TX1) (N := 8) hx hb hts hiw hown hK hP 0 rfl rfl 1 (by decide) hf_33 (fun _ h9 => h9) rfl dX1_work_11 ?_
          refine lv_icmp_ge (tgt := 86) hx hb dX1_work_14 (by decide) (fun h14 => absurd h14 (nI_ge (by omega) (by omega))) (fun h14 => ?_)
          have fin : ∀ v : Int32, v = vv wv lo cf tf t x → ∀ (ls : Array Slot) (e4 : Int32), lv_has ls 5 [(4, .int e4), (3, .int (nI x)), (2, .int (nI t)), (0, .ref (a 0)), (1, .int (nI d))] → W p l e (headSpec wsX1_work (({ frames := 3, cells := 0, slots := 0, locals := 67 }) : Room)).room s m ([.ref (a 0), .int (nI d)] : List Value).toArray below meth c H locs 0 0 (MQ below (va_Qv (fun vs1 : Nat → Int32 => Vok n wv lo cf tf d vs1) (fun vs1 => WQ dC dI (GT cI cZ cA) A (MW cI cZ a th n wv lo cf tf vs1 nr)) A) ([.ref (a 0), .int (nI d)] : List Value).toArray s 0 0 A) (F0 m 79 ls [.int v, .int (nI (400 * t + x)), .ref (a 5)]) := by
            intro v hv ls e4 hl
            refine ga_iast hx hb hK hP hD hS 5 0 rfl rfl (400 * t + x) (by omega) (by decide) rfl (ws' := MW cI cZ a th n wv lo cf tf (upd vs2 (400 * t + x) v) nr) rfl dX1_work_79 (fun H locs hP hD hS => ?_)
            refine lv_iinc (v := nI (x + 1)) (lv' := [(3, .int (nI (x + 1))), (4, .int e4), (2, .int (nI t)), (0, .ref (a 0)), (1, .int (nI d))]) hx hb dX1_work_80 hl (k := 1) rfl (nI_1 x) (by decide) rfl (fun ls hl => ?_)
            refine lv_goto (tgt := 9) hx hb dX1_work_83 (by decide) ?_
            have hpp := wk_put hn4 hxn c1 c2 hv
            exact ih2 (x + 1) (by omega) _ hpp.1 hpp.2 H locs hP hD hS ls (lv_sub hl [0, 2, 3, 4] rfl)
          refine lv_aload_n hx hb dX1_work_17 rfl (lv_at hl 2 rfl) ?_
          refine va_get (D := (dC, dI)) (ci := 1) (v := .ref (a 2)) (C := RX1) (T := TX1) (N := 8) hx hb hts hiw hown hK hP 0 rfl rfl 3 (by decide) hf_13 (fun _ h9 => h9) rfl dX1_work_18 ?_
          refine lv_iload_n hx hb dX1_work_21 rfl (lv_at hl 0 rfl) ?_
          refine ga_zald hx hb hK hP 2 1 rfl rfl x (v := lo x) rfl (by omega) (by decide) dX1_work_22 ?_
          refine lv_if_eq (tgt := 32) hx hb dX1_work_23 (by decide) (fun h23 => ?_) (fun h23 => ?_)
          · refine lv_iconst (v := 0) hx hb dX1_work_32 (by decide) ?_
            refine lv_istore (lv' := [(4, .int 0), (3, .int (nI x)), (2, .int (nI t)), (0, .ref (a 0)), (1, .int (nI d))]) hx hb dX1_work_33 hl (by decide) rfl (fun ls hl => ?_)
            refine lv_aload_n hx hb dX1_work_35 rfl (lv_at hl 3 rfl) ?_
            refine va_get (D := (dC, dI)) (ci := 1) (v := .ref (a 5)) (C := RX1) (T := TX1) (N := 8) hx hb hts hiw hown hK hP 0 rfl rfl 6 (by decide) hf_23 (fun _ h9 => h9) rfl dX1_work_36 ?_
            refine lv_sipush (v := 400) hx hb dX1_work_39 (by decide) ?_
            refine lv_iload_n hx hb dX1_work_42 rfl (lv_at hl 2 rfl) ?_
            refine lv_imul hx hb dX1_work_43 ?_
            refine ga_is (y := nI (400 * t)) (by rw [show (400 : Int32) = nI 400 from rfl, pk_mul]) ?_
            refine lv_iload_n hx hb dX1_work_44 rfl (lv_at hl 1 rfl) ?_
            refine lv_iadd hx hb dX1_work_45 ?_
            refine ga_is (y := nI (400 * t + x)) (nI_add _ _) ?_
            refine lv_aload_n hx hb dX1_work_46 rfl (lv_at hl 3 rfl) ?_
            refine va_get (D := (dC, dI)) (ci := 1) (v := .ref (a 3)) (C := RX1) (T := TX1) (N := 8) hx hb hts hiw hown hK hP 0 rfl rfl 4 (by decide) hf_17 (fun _ h9 => h9) rfl dX1_work_47 ?_
            refine lv_iload_n hx hb dX1_work_50 rfl (lv_at hl 1 rfl) ?_
            refine ga_iald hx hb hK hP 3 0 rfl rfl x (v := nI (cf x)) rfl (by omega) (by decide) dX1_work_51 ?_
            refine lv_if_ne (tgt := 60) hx hb dX1_work_52 (by decide) (fun h52 => ?_) (fun h52 => ?_)
            · have hc0 : 0 < cf x := Nat.pos_of_ne_zero (fun z => h52 (by rw [z]; rfl))
              refine lv_iload_n hx hb dX1_work_60 rfl (lv_at hl 2 rfl) ?_
              refine lv_if_ne (tgt := 73) hx hb dX1_work_61 (by decide) (fun h61 => ?_) (fun h61 => ?_)
              · obtain ⟨t2, rfl⟩ : ∃ k, t = k + 1 := Nat.exists_eq_succ_of_ne_zero (fun z => h61 (by rw [z]; rfl))
                refine lv_aload_n hx hb dX1_work_73 rfl (lv_at hl 3 rfl) ?_
                refine lv_iload_n hx hb dX1_work_74 rfl (lv_at hl 1 rfl) ?_
                refine lv_iload_n hx hb dX1_work_75 rfl (lv_at hl 2 rfl) ?_
                refine W.callR (r := gm tf (fun y => vs2 (400 * t2 + y)) x (cf x - 1)) (W.runV (As := [.int (nI x), .int (nI (t2 + 1))]) (rest := [.int (nI (400 * (t2 + 1) + x)), .ref (a 5)]) ⟨hx, hb, hml, hown, hts⟩ (kX1_greatest l dC dI cI cZ cA a th n wv lo cf tf vs2 nr x t2 (by omega) (by omega) hcx hc0 (fun j hj => by have := htt x hxn j hj; omega)) (cwV 2 hts gX1_work_X1_greatest rfl rfl rfl (by decide +kernel) ⟨Nat.le_of_ble_eq_true rfl, Nat.le_of_ble_eq_true rfl⟩) ⟨blindR, va_recv hK hP (ci := 1) (q0 := 0) rfl rfl, preR hP hK⟩ rfl rfl hl.1 rfl (lv_room (Nat.le_of_ble_eq_true rfl)) dX1_work_76 ⟨Nat.zero_le _, Nat.zero_le _⟩) ?_
                refine W.eq (g2 := F0 m 79 ls [.int (gm tf (fun y => vs2 (400 * t2 + y)) x (cf x - 1)), .int (nI (400 * (t2 + 1) + x)), .ref (a 5)]) rfl ?_
                refine fin _ ?_ ls 0 (lv_sub hl [0, 1, 2, 3, 4] rfl)
                show _ = if cf x = 0 then _ else gm tf (vv wv lo cf tf t2) x (cf x - 1)
                rw [if_neg (by omega)]
                exact gm_congr _ (fun j hj => c1 t2 (by omega) _ (htt x hxn j (by omega)))
              · obtain rfl : t = 0 := (nI_eq (by omega) (by decide)).mp h61
                refine lv_aload_n hx hb dX1_work_64 rfl (lv_at hl 3 rfl) ?_
                refine va_get (D := (dC, dI)) (ci := 1) (v := .ref (a 1)) (C := RX1) (T := TX1) (N := 8) hx hb hts hiw hown hK hP 0 rfl rfl 2 (by decide) hf_7 (fun _ h9 => h9) rfl dX1_work_65 ?_
                refine lv_iload_n hx hb dX1_work_68 rfl (lv_at hl 1 rfl) ?_
                refine ga_iald hx hb hK hP 1 0 rfl rfl x (v := wv x) rfl (by omega) (by decide) dX1_work_69 ?_
                refine lv_goto (tgt := 79) hx hb dX1_work_70 (by decide) ?_
                refine fin _ ?_ ls 0 (lv_sub hl [0, 1, 2, 3, 4] rfl)
                show _ = if cf x = 0 then _ else wv x
                rw [if_neg (by omega)]
            · have hc0 : cf x = 0 := (nI_eq (by omega) (by decide)).mp h52
              refine lv_iload hx hb dX1_work_55 (lv_at hl 0 rfl) ?_
              refine lv_goto (tgt := 79) hx hb dX1_work_57 (by decide) ?_
              refine fin _ ?_ ls 0 (lv_sub hl [0, 1, 2, 3, 4] rfl)
              rw [vv_end hc0, if_pos h23]
          · refine lv_sipush (v := (-1000)) hx hb dX1_work_26 (by decide) ?_
            refine lv_goto (tgt := 33) hx hb dX1_work_29 (by decide) ?_
            refine lv_istore (lv' := [(4, .int (-1000)), (3, .int (nI x)), (2, .int (nI t)), (0, .ref (a 0)), (1, .int (nI d))]) hx hb dX1_work_33 hl (by decide) rfl (fun ls hl => ?_)
            refine lv_aload_n hx hb dX1_work_35 rfl (lv_at hl 3 rfl) ?_
            refine va_get (D := (dC, dI)) (ci := 1) (v := .ref (a 5)) (C := RX1) (T := TX1) (N := 8) hx hb hts hiw hown hK hP 0 rfl rfl 6 (by decide) hf_23 (fun _ h9 => h9) rfl dX1_work_36 ?_
            refine lv_sipush (v := 400) hx hb dX1_work_39 (by decide) ?_
            refine lv_iload_n hx hb dX1_work_42 rfl (lv_at hl 2 rfl) ?_
            refine lv_imul hx hb dX1_work_43 ?_
            refine ga_is (y := nI (400 * t)) (by rw [show (400 : Int32) = nI 400 from rfl, pk_mul]) ?_
            refine lv_iload_n hx hb dX1_work_44 rfl (lv_at hl 1 rfl) ?_
            refine lv_iadd hx hb dX1_work_45 ?_
            refine ga_is (y := nI (400 * t + x)) (nI_add _ _) ?_
            refine lv_aload_n hx hb dX1_work_46 rfl (lv_at hl 3 rfl) ?_
            refine va_get (D := (dC, dI)) (ci := 1) (v := .ref (a 3)) (C := RX1) (T := TX1) (N := 8) hx hb hts hiw hown hK hP 0 rfl rfl 4 (by decide) hf_17 (fun _ h9 => h9) rfl dX1_work_47 ?_
            refine lv_iload_n hx hb dX1_work_50 rfl (lv_at hl 1 rfl) ?_
            refine ga_iald hx hb hK hP 3 0 rfl rfl x (v := nI (cf x)) rfl (by omega) (by decide) dX1_work_51 ?_
            refine lv_if_ne (tgt := 60) hx hb dX1_work_52 (by decide) (fun h52 => ?_) (fun h52 => ?_)
            · have hc0 : 0 < cf x := Nat.pos_of_ne_zero (fun z => h52 (by rw [z]; rfl))
              refine lv_iload_n hx hb dX1_work_60 rfl (lv_at hl 2 rfl) ?_
              refine lv_if_ne (tgt := 73) hx hb dX1_work_61 (by decide) (fun h61 => ?_) (fun h61 => ?_)
              · obtain ⟨t2, rfl⟩ : ∃ k, t = k + 1 := Nat.exists_eq_succ_of_ne_zero (fun z => h61 (by rw [z]; rfl))
                refine lv_aload_n hx hb dX1_work_73 rfl (lv_at hl 3 rfl) ?_
                refine lv_iload_n hx hb dX1_work_74 rfl (lv_at hl 1 rfl) ?_
                refine lv_iload_n hx hb dX1_work_75 rfl (lv_at hl 2 rfl) ?_
                refine W.callR (r := gm tf (fun y => vs2 (400 * t2 + y)) x (cf x - 1)) (W.runV (As := [.int (nI x), .int (nI (t2 + 1))]) (rest := [.int (nI (400 * (t2 + 1) + x)), .ref (a 5)]) ⟨hx, hb, hml, hown, hts⟩ (kX1_greatest l dC dI cI cZ cA a th n wv lo cf tf vs2 nr x t2 (by omega) (by omega) hcx hc0 (fun j hj => by have := htt x hxn j hj; omega)) (cwV 2 hts gX1_work_X1_greatest rfl rfl rfl (by decide +kernel) ⟨Nat.le_of_ble_eq_true rfl, Nat.le_of_ble_eq_true rfl⟩) ⟨blindR, va_recv hK hP (ci := 1) (q0 := 0) rfl rfl, preR hP hK⟩ rfl rfl hl.1 rfl (lv_room (Nat.le_of_ble_eq_true rfl)) dX1_work_76 ⟨Nat.zero_le _, Nat.zero_le _⟩) ?_
                refine W.eq (g2 := F0 m 79 ls [.int (gm tf (fun y => vs2 (400 * t2 + y)) x (cf x - 1)), .int (nI (400 * (t2 + 1) + x)), .ref (a 5)]) rfl ?_
                refine fin _ ?_ ls (-1000) (lv_sub hl [0, 1, 2, 3, 4] rfl)
                show _ = if cf x = 0 then _ else gm tf (vv wv lo cf tf t2) x (cf x - 1)
                rw [if_neg (by omega)]
                exact gm_congr _ (fun j hj => c1 t2 (by omega) _ (htt x hxn j (by omega)))
              · obtain rfl : t = 0 := (nI_eq (by omega) (by decide)).mp h61
                refine lv_aload_n hx hb dX1_work_64 rfl (lv_at hl 3 rfl) ?_
                refine va_get (D := (dC, dI)) (ci := 1) (v := .ref (a 1)) (C := RX1) (T := TX1) (N := 8) hx hb hts hiw hown hK hP 0 rfl rfl 2 (by decide) hf_7 (fun _ h9 => h9) rfl dX1_work_65 ?_
                refine lv_iload_n hx hb dX1_work_68 rfl (lv_at hl 1 rfl) ?_
                refine ga_iald hx hb hK hP 1 0 rfl rfl x (v := wv x) rfl (by omega) (by decide) dX1_work_69 ?_
                refine lv_goto (tgt := 79) hx hb dX1_work_70 (by decide) ?_
                refine fin _ ?_ ls (-1000) (lv_sub hl [0, 1, 2, 3, 4] rfl)
                show _ = if cf x = 0 then _ else wv x
                rw [if_neg (by omega)]
            · have hc0 : cf x = 0 := (nI_eq (by omega) (by decide)).mp h52
              refine lv_iload hx hb dX1_work_55 (lv_at hl 0 rfl) ?_
              refine lv_goto (tgt := 79) hx hb dX1_work_57 (by decide) ?_
              refine fin _ ?_ ls (-1000) (lv_sub hl [0, 1, 2, 3, 4] rfl)
              rw [vv_end hc0, if_neg h23]
      exact inner n 0 (by omega) vs1 h1 (fun y hy => absurd hy (by omega)) H locs hP hD hS ls (lv_sub hl [0, 1, 2, 3] rfl)
  exact outer (d + 1) 0 (by omega) vs (fun e he => absurd he (by omega)) s.heap [] hP hD hS ls (lv_sub hl [0, 1, 2] rfl)
end
section
/-- a question that is refused -/
def Bad (n : Nat) (x d : Int32) : Prop := isn x n = 0 ∨ d < 0 ∨ 7 < d
theorem ask_or {n : Nat} (hn : n < 2 ^ 31) (x d : Int32) : Bad n x d ∨ ∃ j e, j < n ∧ e < 8 ∧ x = nI j ∧ d = nI e := by
  rcases isn_in (x := x) hn with ⟨h1, j, hj, rfl⟩ | ⟨h0, -⟩
  · by_cases hd : d < 0
    · exact Or.inl (Or.inr (Or.inl hd))
    · by_cases hd7 : 7 < d
      · exact Or.inl (Or.inr (Or.inr hd7))
      · obtain ⟨e, he, rfl⟩ := nI_of2 (M := 7) (n := 7) (by decide +kernel) hd (i32_nlt hd7)
        exact Or.inr ⟨j, e, hj, by omega, rfl, rfl⟩
  · exact Or.inl (Or.inl h0)
theorem seven_nlt {d : Nat} (hd : d < 8) : ¬ (7 : Int32) < nI d := nI_nlt (b := d) (a := 7) (by omega) (by decide)
set_option maxHeartbeats 4000000 in
set_option maxRecDepth 100000 in
/-- asked, refused -/
theorem kX1_asked_no (l : Launch) (dC : Nat → ClassId) (dI : Nat → Nat → Nat) (cI cZ cA : ClassId) (a : Nat → Nat) (sz : Nat) (th : Nat) (n : Nat) (wv : Nat → Int32) (lo : Nat → Int32) (cf : Nat → Nat) (tf : Nat → Nat) (vs : Nat → Int32) (nr : Nat → Nat) (x d : Int32) (hB : Bad n x d) : Met l yX1_asked wsX1_asked ({ frames := 4, cells := 0, slots := 0, locals := 91 }) (va_Pc [.ref (a 0), .int x, .int d] (WP dC dI (GT cI cZ cA) (MW cI cZ a th n wv lo cf tf vs nr) sz)) (va_Qi (fun r (_ : Unit) => r = 0) (fun (_ : Unit) => WQ dC dI (GT cI cZ cA) (va_A (MW cI cZ a th n wv lo cf tf vs nr) sz) (MW cI cZ a 1 n wv lo cf tf vs nr)) (va_A (MW cI cZ a th n wv lo cf tf vs nr) sz)) 0 0 (va_A (MW cI cZ a th n wv lo cf tf vs nr) sz) := by
  refine Met.ofW (cc := cX1_asked) (maxL := 3) (ret := (some .boolean)) (by decide) rfl ?_
  intro p e s m args below meth c s₁ B hml hv
  obtain ⟨rfl, hsz, hP, hK, hD0⟩ := hv
  have hx := B.exec
  have hb := B.bytes
  have hr := B.returns
  have hts := atoms_spec (ws := wsX1_asked) B.pre
  have hown : s.vm.findClass RX1 = some m.cls := findClass_of_methodNamed B.named
  have hlocks := B.notSynchronized
  have hf_29 := hts (.fieldLink RX1 29 "GraphSearchModel" "thrown" "I") (by decide +kernel)
  have hiw : ∀ w ∈ wsX10, w ∈ wsX1_asked := by decide +kernel
  subst hsz
  have hD := hD0.self (sz := s.heap.size)
  generalize hAe : va_A (MW cI cZ a th n wv lo cf tf vs nr) s.heap.size = A at hD ⊢
  have hA : ∀ q : Nat, s.heap.size ≤ q → A q := fun q h => by rw [← hAe]; exact Or.inr h
  have hS : va_S A s.heap s.heap [] := va_S.rf
  have hP : va_P (dC, dI) vwCl (MW cI cZ a th n wv lo cf tf vs nr) s.heap := hP
  have hl := lv_entry ([.ref (a 0), .int x, .int d]) (n := 3) (Nat.le_of_ble_eq_true rfl)
  rw [lg_entry_eq]
  generalize (lg_sl ([.ref (a 0), .int x, .int d]) ++ List.replicate (3 - (lg_sl ([.ref (a 0), .int x, .int d])).length) Slot.unset).toArray = ls at hl ⊢
  have hl : lv_has ls 3 [(0, .ref (a 0)), (1, .int x), (2, .int d)] := hl
  refine lv_aload_n hx hb dX1_asked_0 rfl (lv_at hl 0 rfl) ?_
  refine lv_aload_n hx hb dX1_asked_1 rfl (lv_at hl 0 rfl) ?_
  refine lv_iload_n hx hb dX1_asked_2 rfl (lv_at hl 1 rfl) ?_
  refine W.callR (r := isn x n) (W.runV (As := [.int x]) (rest := [.ref (a 0)]) ⟨hx, hb, hml, hown, hts⟩ (kX1_isNode l dC dI cI cZ cA a th n wv lo cf tf vs nr x) (cwV 1 hts gX1_asked_X1_isNode rfl rfl rfl (by decide +kernel) ⟨Nat.le_of_ble_eq_true rfl, Nat.le_of_ble_eq_true rfl⟩) ⟨blindR, va_recv hK hP (ci := 1) (q0 := 0) rfl rfl, preR hP hK⟩ rfl rfl hl.1 rfl (lv_room (Nat.le_of_ble_eq_true rfl)) dX1_asked_3 ⟨Nat.zero_le _, Nat.zero_le _⟩) ?_
  refine W.eq (g2 := F0 m 6 ls [.int (isn x n), .ref (a 0)]) rfl ?_
  refine lv_if_eq (tgt := 23) hx hb dX1_asked_6 (by decide) (fun h6 => ?_) (fun h6 => ?_)
  · refine lv_iconst (v := 1) hx hb dX1_asked_23 (by decide) ?_
    refine ga_is (y := nI 1) (rfl) ?_
    refine va_put (D := (dC, dI)) (ci := 1) (v := .int (nI 1)) (ty := .int) (C := RX1) (T := TX1) (N := 8) hx hb hts hiw tyX1 tyX1_ok nmX1 hown hK hP hD hS 0 rfl rfl 0 (by decide) hf_29 (fun _ h9 => h9) rfl (by decide +kernel) rfl rfl (Nat.le_of_ble_eq_true rfl) dX1_asked_24 (fun H locs hP hD hS => ?_)
    have hP : va_P (dC, dI) vwCl (MW cI cZ a 1 n wv lo cf tf vs nr) H := hP
    have hD : va_D A (MW cI cZ a 1 n wv lo cf tf vs nr) := hD
    refine lv_aload_n hx hb dX1_asked_27 rfl (lv_at hl 0 rfl) ?_
    refine va_get (D := (dC, dI)) (ci := 1) (v := .int (nI 1)) (C := RX1) (T := TX1) (N := 8) hx hb hts hiw hown hK hP 0 rfl rfl 0 (by decide) hf_29 (fun _ h9 => h9) rfl dX1_asked_28 ?_
    refine lv_if_ne (tgt := 39) hx hb dX1_asked_31 (by decide) (fun h31 => ?_) (fun h31 => absurd h31 (nI_ne0 (by decide) (by decide)))
    refine lv_aload_n hx hb dX1_asked_39 rfl (lv_at hl 0 rfl) ?_
    refine va_get (D := (dC, dI)) (ci := 1) (v := .int (nI 1)) (C := RX1) (T := TX1) (N := 8) hx hb hts hiw hown hK hP 0 rfl rfl 0 (by decide) hf_29 (fun _ h9 => h9) rfl dX1_asked_40 ?_
    refine lv_if_ne (tgt := 50) hx hb dX1_asked_43 (by decide) (fun h43 => ?_) (fun h43 => absurd h43 (nI_ne0 (by decide) (by decide)))
    refine lv_iconst (v := 0) hx hb dX1_asked_50 (by decide) ?_
    exact W.zret (v := 0) hx hb hr (by decide) (fun t ht hW => ⟨⟨0, (), rfl, rfl, by rw [ht]; exact hP, va_K.moved hW.alike hK, hD⟩, hS.F ht⟩) hS.2.2 dX1_asked_51
  · refine lv_iload_n hx hb dX1_asked_9 rfl (lv_at hl 2 rfl) ?_
    refine lv_if_lt (tgt := 23) hx hb dX1_asked_10 (by decide) (fun h10 => ?_) (fun h10 => ?_)
    · refine lv_iconst (v := 1) hx hb dX1_asked_23 (by decide) ?_
      refine ga_is (y := nI 1) (rfl) ?_
      refine va_put (D := (dC, dI)) (ci := 1) (v := .int (nI 1)) (ty := .int) (C := RX1) (T := TX1) (N := 8) hx hb hts hiw tyX1 tyX1_ok nmX1 hown hK hP hD hS 0 rfl rfl 0 (by decide) hf_29 (fun _ h9 => h9) rfl (by decide +kernel) rfl rfl (Nat.le_of_ble_eq_true rfl) dX1_asked_24 (fun H locs hP hD hS => ?_)
      have hP : va_P (dC, dI) vwCl (MW cI cZ a 1 n wv lo cf tf vs nr) H := hP
      have hD : va_D A (MW cI cZ a 1 n wv lo cf tf vs nr) := hD
      refine lv_aload_n hx hb dX1_asked_27 rfl (lv_at hl 0 rfl) ?_
      refine va_get (D := (dC, dI)) (ci := 1) (v := .int (nI 1)) (C := RX1) (T := TX1) (N := 8) hx hb hts hiw hown hK hP 0 rfl rfl 0 (by decide) hf_29 (fun _ h9 => h9) rfl dX1_asked_28 ?_
      refine lv_if_ne (tgt := 39) hx hb dX1_asked_31 (by decide) (fun h31 => ?_) (fun h31 => absurd h31 (nI_ne0 (by decide) (by decide)))
      refine lv_aload_n hx hb dX1_asked_39 rfl (lv_at hl 0 rfl) ?_
      refine va_get (D := (dC, dI)) (ci := 1) (v := .int (nI 1)) (C := RX1) (T := TX1) (N := 8) hx hb hts hiw hown hK hP 0 rfl rfl 0 (by decide) hf_29 (fun _ h9 => h9) rfl dX1_asked_40 ?_
      refine lv_if_ne (tgt := 50) hx hb dX1_asked_43 (by decide) (fun h43 => ?_) (fun h43 => absurd h43 (nI_ne0 (by decide) (by decide)))
      refine lv_iconst (v := 0) hx hb dX1_asked_50 (by decide) ?_
      exact W.zret (v := 0) hx hb hr (by decide) (fun t ht hW => ⟨⟨0, (), rfl, rfl, by rw [ht]; exact hP, va_K.moved hW.alike hK, hD⟩, hS.F ht⟩) hS.2.2 dX1_asked_51
    · refine lv_iload_n hx hb dX1_asked_13 rfl (lv_at hl 2 rfl) ?_
      refine lv_bipush (v := 7) hx hb dX1_asked_14 (by decide) ?_
      refine lv_icmp_gt (tgt := 23) hx hb dX1_asked_16 (by decide) (fun h16 => ?_) (fun h16 => absurd ((hB.resolve_left h6).resolve_left h10) h16)
      refine lv_iconst (v := 1) hx hb dX1_asked_23 (by decide) ?_
      refine ga_is (y := nI 1) (rfl) ?_
      refine va_put (D := (dC, dI)) (ci := 1) (v := .int (nI 1)) (ty := .int) (C := RX1) (T := TX1) (N := 8) hx hb hts hiw tyX1 tyX1_ok nmX1 hown hK hP hD hS 0 rfl rfl 0 (by decide) hf_29 (fun _ h9 => h9) rfl (by decide +kernel) rfl rfl (Nat.le_of_ble_eq_true rfl) dX1_asked_24 (fun H locs hP hD hS => ?_)
      have hP : va_P (dC, dI) vwCl (MW cI cZ a 1 n wv lo cf tf vs nr) H := hP
      have hD : va_D A (MW cI cZ a 1 n wv lo cf tf vs nr) := hD
      refine lv_aload_n hx hb dX1_asked_27 rfl (lv_at hl 0 rfl) ?_
      refine va_get (D := (dC, dI)) (ci := 1) (v := .int (nI 1)) (C := RX1) (T := TX1) (N := 8) hx hb hts hiw hown hK hP 0 rfl rfl 0 (by decide) hf_29 (fun _ h9 => h9) rfl dX1_asked_28 ?_
      refine lv_if_ne (tgt := 39) hx hb dX1_asked_31 (by decide) (fun h31 => ?_) (fun h31 => absurd h31 (nI_ne0 (by decide) (by decide)))
      refine lv_aload_n hx hb dX1_asked_39 rfl (lv_at hl 0 rfl) ?_
      refine va_get (D := (dC, dI)) (ci := 1) (v := .int (nI 1)) (C := RX1) (T := TX1) (N := 8) hx hb hts hiw hown hK hP 0 rfl rfl 0 (by decide) hf_29 (fun _ h9 => h9) rfl dX1_asked_40 ?_
      refine lv_if_ne (tgt := 50) hx hb dX1_asked_43 (by decide) (fun h43 => ?_) (fun h43 => absurd h43 (nI_ne0 (by decide) (by decide)))
      refine lv_iconst (v := 0) hx hb dX1_asked_50 (by decide) ?_
      exact W.zret (v := 0) hx hb hr (by decide) (fun t ht hW => ⟨⟨0, (), rfl, rfl, by rw [ht]; exact hP, va_K.moved hW.alike hK, hD⟩, hS.F ht⟩) hS.2.2 dX1_asked_51
set_option maxHeartbeats 4000000 in
set_option maxRecDepth 100000 in
/-- asked -/
theorem kX1_asked (l : Launch) (dC : Nat → ClassId) (dI : Nat → Nat → Nat) (cI cZ cA : ClassId) (a : Nat → Nat) (sz : Nat) (th : Nat) (n : Nat) (wv : Nat → Int32) (lo : Nat → Int32) (cf : Nat → Nat) (tf : Nat → Nat) (vs : Nat → Int32) (nr : Nat → Nat) (j d : Nat) (hd : d < 8) (hG : Gok n wv lo cf tf) (hj : j < n) : Met l yX1_asked wsX1_asked ({ frames := 4, cells := 0, slots := 0, locals := 91 }) (va_Pc [.ref (a 0), .int (nI j), .int (nI d)] (WP dC dI (GT cI cZ cA) (MW cI cZ a th n wv lo cf tf vs nr) sz)) (va_Qi (fun r (vs1 : Nat → Int32) => r = 1 ∧ Vok n wv lo cf tf d vs1) (fun vs1 => WQ dC dI (GT cI cZ cA) (va_A (MW cI cZ a th n wv lo cf tf vs nr) sz) (MW cI cZ a 0 n wv lo cf tf vs1 nr)) (va_A (MW cI cZ a th n wv lo cf tf vs nr) sz)) 0 0 (va_A (MW cI cZ a th n wv lo cf tf vs nr) sz) := by
  refine Met.ofW (cc := cX1_asked) (maxL := 3) (ret := (some .boolean)) (by decide) rfl ?_
  intro p e s m args below meth c s₁ B hml hv
  obtain ⟨rfl, hsz, hP, hK, hD0⟩ := hv
  have hx := B.exec
  have hb := B.bytes
  have hr := B.returns
  have hts := atoms_spec (ws := wsX1_asked) B.pre
  have hown : s.vm.findClass RX1 = some m.cls := findClass_of_methodNamed B.named
  have hlocks := B.notSynchronized
  have hf_29 := hts (.fieldLink RX1 29 "GraphSearchModel" "thrown" "I") (by decide +kernel)
  have hiw : ∀ w ∈ wsX10, w ∈ wsX1_asked := by decide +kernel
  subst hsz
  have hD := hD0.self (sz := s.heap.size)
  generalize hAe : va_A (MW cI cZ a th n wv lo cf tf vs nr) s.heap.size = A at hD ⊢
  have hA : ∀ q : Nat, s.heap.size ≤ q → A q := fun q h => by rw [← hAe]; exact Or.inr h
  have hS : va_S A s.heap s.heap [] := va_S.rf
  have hP : va_P (dC, dI) vwCl (MW cI cZ a th n wv lo cf tf vs nr) s.heap := hP
  have hl := lv_entry ([.ref (a 0), .int (nI j), .int (nI d)]) (n := 3) (Nat.le_of_ble_eq_true rfl)
  rw [lg_entry_eq]
  generalize (lg_sl ([.ref (a 0), .int (nI j), .int (nI d)]) ++ List.replicate (3 - (lg_sl ([.ref (a 0), .int (nI j), .int (nI d)])).length) Slot.unset).toArray = ls at hl ⊢
  have hl : lv_has ls 3 [(0, .ref (a 0)), (1, .int (nI j)), (2, .int (nI d))] := hl
  have hn4 := hG.1
  refine lv_aload_n hx hb dX1_asked_0 rfl (lv_at hl 0 rfl) ?_
  refine lv_aload_n hx hb dX1_asked_1 rfl (lv_at hl 0 rfl) ?_
  refine lv_iload_n hx hb dX1_asked_2 rfl (lv_at hl 1 rfl) ?_
  refine W.callR (r := isn (nI j) n) (W.runV (As := [.int (nI j)]) (rest := [.ref (a 0)]) ⟨hx, hb, hml, hown, hts⟩ (kX1_isNode l dC dI cI cZ cA a th n wv lo cf tf vs nr (nI j)) (cwV 1 hts gX1_asked_X1_isNode rfl rfl rfl (by decide +kernel) ⟨Nat.le_of_ble_eq_true rfl, Nat.le_of_ble_eq_true rfl⟩) ⟨blindR, va_recv hK hP (ci := 1) (q0 := 0) rfl rfl, preR hP hK⟩ rfl rfl hl.1 rfl (lv_room (Nat.le_of_ble_eq_true rfl)) dX1_asked_3 ⟨Nat.zero_le _, Nat.zero_le _⟩) ?_
  refine W.eq (g2 := F0 m 6 ls [.int (isn (nI j) n), .ref (a 0)]) rfl ?_
  refine lv_if_eq (tgt := 23) hx hb dX1_asked_6 (by decide) (fun h6 => absurd h6 (by rw [isn_1 hj (by omega)]; decide)) (fun h6 => ?_)
  refine lv_iload_n hx hb dX1_asked_9 rfl (lv_at hl 2 rfl) ?_
  refine lv_if_lt (tgt := 23) hx hb dX1_asked_10 (by decide) (fun h10 => absurd h10 (nI_pos (by omega))) (fun h10 => ?_)
  refine lv_iload_n hx hb dX1_asked_13 rfl (lv_at hl 2 rfl) ?_
  refine lv_bipush (v := 7) hx hb dX1_asked_14 (by decide) ?_
  refine lv_icmp_gt (tgt := 23) hx hb dX1_asked_16 (by decide) (fun h16 => absurd h16 (seven_nlt hd)) (fun h16 => ?_)
  refine lv_iconst (v := 0) hx hb dX1_asked_19 (by decide) ?_
  refine lv_goto (tgt := 24) hx hb dX1_asked_20 (by decide) ?_
  refine ga_is (y := nI 0) (rfl) ?_
  refine va_put (D := (dC, dI)) (ci := 1) (v := .int (nI 0)) (ty := .int) (C := RX1) (T := TX1) (N := 8) hx hb hts hiw tyX1 tyX1_ok nmX1 hown hK hP hD hS 0 rfl rfl 0 (by decide) hf_29 (fun _ h9 => h9) rfl (by decide +kernel) rfl rfl (Nat.le_of_ble_eq_true rfl) dX1_asked_24 (fun H locs hP hD hS => ?_)
  have hP : va_P (dC, dI) vwCl (MW cI cZ a 0 n wv lo cf tf vs nr) H := hP
  have hD : va_D A (MW cI cZ a 0 n wv lo cf tf vs nr) := hD
  refine lv_aload_n hx hb dX1_asked_27 rfl (lv_at hl 0 rfl) ?_
  refine va_get (D := (dC, dI)) (ci := 1) (v := .int (nI 0)) (C := RX1) (T := TX1) (N := 8) hx hb hts hiw hown hK hP 0 rfl rfl 0 (by decide) hf_29 (fun _ h9 => h9) rfl dX1_asked_28 ?_
  refine lv_if_ne (tgt := 39) hx hb dX1_asked_31 (by decide) (fun h31 => absurd (show nI 0 = 0 from rfl) h31) (fun h31 => ?_)
  refine lv_aload_n hx hb dX1_asked_34 rfl (lv_at hl 0 rfl) ?_
  refine lv_iload_n hx hb dX1_asked_35 rfl (lv_at hl 2 rfl) ?_
  have hF := freeAll hD hS hA
  refine va_callv (va_runV (As := [.int (nI d)]) (rest := []) ⟨hx, hb, hml, hown, hts⟩ (kX1_work l dC dI cI cZ cA a H.size 0 n wv lo cf tf vs nr d hd hG) (cwV 1 hts gX1_asked_X1_work rfl rfl rfl (by decide +kernel) ⟨Nat.le_of_ble_eq_true rfl, Nat.le_of_ble_eq_true rfl⟩) ⟨blindW, va_recv hK hP (ci := 1) (q0 := 0) rfl rfl, preW hP hK hD⟩ rfl rfl hl.1 rfl (lv_room (Nat.le_of_ble_eq_true rfl)) dX1_asked_36 ⟨Nat.zero_le _, Nat.zero_le _⟩) hS (fun q _ h => hF q h) hF (fun vs1 tS H1 locs htS hvm hw hB hz1 hk1 hS => ?_)
  obtain ⟨hP1, hK1, hD1⟩ := hB
  rw [htS] at hP1
  have hP : va_P (dC, dI) vwCl (MW cI cZ a 0 n wv lo cf tf vs1 nr) H1 := hP1
  have hD : va_D A (MW cI cZ a 0 n wv lo cf tf vs1 nr) := hD1.weaken (fun _ _ _ h => hF _ h)
  generalize H1 = H at hP hS ⊢
  refine W.eq (g2 := F0 m 39 ls []) rfl ?_
  refine lv_aload_n hx hb dX1_asked_39 rfl (lv_at hl 0 rfl) ?_
  refine va_get (D := (dC, dI)) (ci := 1) (v := .int (nI 0)) (C := RX1) (T := TX1) (N := 8) hx hb hts hiw hown hK hP 0 rfl rfl 0 (by decide) hf_29 (fun _ h9 => h9) rfl dX1_asked_40 ?_
  refine lv_if_ne (tgt := 50) hx hb dX1_asked_43 (by decide) (fun h43 => absurd (show nI 0 = 0 from rfl) h43) (fun h43 => ?_)
  refine lv_iconst (v := 1) hx hb dX1_asked_46 (by decide) ?_
  refine lv_goto (tgt := 51) hx hb dX1_asked_47 (by decide) ?_
  exact W.zret (v := 1) hx hb hr (by decide) (fun t ht hW => ⟨⟨1, vs1, rfl, ⟨rfl, hw⟩, by rw [ht]; exact hP, va_K.moved hW.alike hK, hD⟩, hS.F ht⟩) hS.2.2 dX1_asked_51
set_option maxHeartbeats 4000000 in
set_option maxRecDepth 100000 in
/-- value -/
theorem kX1_value (l : Launch) (dC : Nat → ClassId) (dI : Nat → Nat → Nat) (cI cZ cA : ClassId) (a : Nat → Nat) (sz : Nat) (th : Nat) (n : Nat) (wv : Nat → Int32) (lo : Nat → Int32) (cf : Nat → Nat) (tf : Nat → Nat) (vs : Nat → Int32) (nr : Nat → Nat) (j d : Nat)  (hd : d < 8) (hG : Gok n wv lo cf tf) (hj : j < n)  : Met l yX1_value wsX1_value ({ frames := 5, cells := 0, slots := 0, locals := 113 }) (va_Pc [.ref (a 0), .int (nI j), .int (nI d)] (WP dC dI (GT cI cZ cA) (MW cI cZ a th n wv lo cf tf vs nr) sz)) (va_Qi (fun r (vs1 : Nat → Int32) => r = vv wv lo cf tf d j) (fun vs1 => WQ dC dI (GT cI cZ cA) (va_A (MW cI cZ a th n wv lo cf tf vs nr) sz) (MW cI cZ a 0 n wv lo cf tf vs1 nr)) (va_A (MW cI cZ a th n wv lo cf tf vs nr) sz)) 0 0 (va_A (MW cI cZ a th n wv lo cf tf vs nr) sz) := by
  refine Met.ofW (cc := cX1_value) (maxL := 3) (ret := (some .int)) (by decide) rfl ?_
  intro p e s m args below meth c s₁ B hml hv
  obtain ⟨rfl, hsz, hP, hK, hD0⟩ := hv
  have hx := B.exec
  have hb := B.bytes
  have hr := B.returns
  have hts := atoms_spec (ws := wsX1_value) B.pre
  have hown : s.vm.findClass RX1 = some m.cls := findClass_of_methodNamed B.named
  have hlocks := B.notSynchronized
  subst hsz
  have hD := hD0.self (sz := s.heap.size)
  generalize hAe : va_A (MW cI cZ a th n wv lo cf tf vs nr) s.heap.size = A at hD ⊢
  have hA : ∀ q : Nat, s.heap.size ≤ q → A q := fun q h => by rw [← hAe]; exact Or.inr h
  have hS : va_S A s.heap s.heap [] := va_S.rf
  have hP : va_P (dC, dI) vwCl (MW cI cZ a th n wv lo cf tf vs nr) s.heap := hP
  have hl := lv_entry ([.ref (a 0), .int (nI j), .int (nI d)]) (n := 3) (Nat.le_of_ble_eq_true rfl)
  rw [lg_entry_eq]
  generalize (lg_sl ([.ref (a 0), .int (nI j), .int (nI d)]) ++ List.replicate (3 - (lg_sl ([.ref (a 0), .int (nI j), .int (nI d)])).length) Slot.unset).toArray = ls at hl ⊢
  have hl : lv_has ls 3 [(0, .ref (a 0)), (1, .int (nI j)), (2, .int (nI d))] := hl
  obtain ⟨hn4, hwr, hc, htt, hlo, hz0⟩ := id hG
  have hcj := hc j hj
  refine lv_aload_n hx hb dX1_value_0 rfl (lv_at hl 0 rfl) ?_
  refine lv_iload_n hx hb dX1_value_1 rfl (lv_at hl 1 rfl) ?_
  refine lv_iload_n hx hb dX1_value_2 rfl (lv_at hl 2 rfl) ?_
  have hF := freeAll hD hS hA
  refine va_calli (va_runV (As := [.int (nI j), .int (nI d)]) (rest := []) ⟨hx, hb, hml, hown, hts⟩ (kX1_asked l dC dI cI cZ cA a s.heap.size th n wv lo cf tf vs nr j d hd hG hj) (cwV 2 hts gX1_value_X1_asked rfl rfl rfl (by decide +kernel) ⟨Nat.le_of_ble_eq_true rfl, Nat.le_of_ble_eq_true rfl⟩) ⟨blindW, va_recv hK hP (ci := 1) (q0 := 0) rfl rfl, preW hP hK hD⟩ rfl rfl hl.1 rfl (lv_room (Nat.le_of_ble_eq_true rfl)) dX1_value_3 ⟨Nat.zero_le _, Nat.zero_le _⟩) hS (fun q _ h => hF q h) hF (fun r_ vs1 tS H1 locs htS hvm hw hB hz1 hk1 hS => ?_)
  obtain ⟨rfl, hV⟩ : r_ = 1 ∧ Vok n wv lo cf tf d vs1 := hw
  obtain ⟨hP1, hK1, hD1⟩ := hB
  rw [htS] at hP1
  have hP : va_P (dC, dI) vwCl (MW cI cZ a 0 n wv lo cf tf vs1 nr) H1 := hP1
  have hD : va_D A (MW cI cZ a 0 n wv lo cf tf vs1 nr) := hD1.weaken (fun _ _ _ h => hF _ h)
  generalize H1 = H at hP hS ⊢
  refine W.eq (g2 := F0 m 6 ls [.int 1]) rfl ?_
  refine lv_if_eq (tgt := 18) hx hb dX1_value_6 (by decide) (fun h6 => absurd h6 (by decide)) (fun h6 => ?_)
  refine lv_aload_n hx hb dX1_value_9 rfl (lv_at hl 0 rfl) ?_
  refine lv_iload_n hx hb dX1_value_10 rfl (lv_at hl 1 rfl) ?_
  refine lv_iload_n hx hb dX1_value_11 rfl (lv_at hl 2 rfl) ?_
  refine W.callR (r := vs1 (400 * d + j)) (W.runV (As := [.int (nI j), .int (nI d)]) (rest := []) ⟨hx, hb, hml, hown, hts⟩ (kX1_valueOf l dC dI cI cZ cA a 0 n wv lo cf tf vs1 nr j d hd (by omega)) (cwV 2 hts gX1_value_X1_valueOf rfl rfl rfl (by decide +kernel) ⟨Nat.le_of_ble_eq_true rfl, Nat.le_of_ble_eq_true rfl⟩) ⟨blindR, va_recv hK hP (ci := 1) (q0 := 0) rfl rfl, preR hP hK⟩ rfl rfl hl.1 rfl (lv_room (Nat.le_of_ble_eq_true rfl)) dX1_value_12 ⟨Nat.zero_le _, Nat.zero_le _⟩) ?_
  refine W.eq (g2 := F0 m 15 ls [.int (vs1 (400 * d + j))]) rfl ?_
  refine lv_goto (tgt := 19) hx hb dX1_value_15 (by decide) ?_
  exact W.iret (v := (vs1 (400 * d + j))) hx hb hr (fun t ht hW => ⟨⟨(vs1 (400 * d + j)), vs1, rfl, hV d (Nat.le_refl _) j hj, by rw [ht]; exact hP, va_K.moved hW.alike hK, hD⟩, hS.F ht⟩) hS.2.2 dX1_value_19
set_option maxHeartbeats 4000000 in
set_option maxRecDepth 100000 in
/-- value, refused -/
theorem kX1_value_no (l : Launch) (dC : Nat → ClassId) (dI : Nat → Nat → Nat) (cI cZ cA : ClassId) (a : Nat → Nat) (sz : Nat) (th : Nat) (n : Nat) (wv : Nat → Int32) (lo : Nat → Int32) (cf : Nat → Nat) (tf : Nat → Nat) (vs : Nat → Int32) (nr : Nat → Nat) (x d : Int32)  (hB : Bad n x d) : Met l yX1_value wsX1_value ({ frames := 5, cells := 0, slots := 0, locals := 113 }) (va_Pc [.ref (a 0), .int x, .int d] (WP dC dI (GT cI cZ cA) (MW cI cZ a th n wv lo cf tf vs nr) sz)) (va_Qi (fun r (_ : Unit) => r = 0) (fun (_ : Unit) => WQ dC dI (GT cI cZ cA) (va_A (MW cI cZ a th n wv lo cf tf vs nr) sz) (MW cI cZ a 1 n wv lo cf tf vs nr)) (va_A (MW cI cZ a th n wv lo cf tf vs nr) sz)) 0 0 (va_A (MW cI cZ a th n wv lo cf tf vs nr) sz) := by
  refine Met.ofW (cc := cX1_value) (maxL := 3) (ret := (some .int)) (by decide) rfl ?_
  intro p e s m args below meth c s₁ B hml hv
  obtain ⟨rfl, hsz, hP, hK, hD0⟩ := hv
  have hx := B.exec
  have hb := B.bytes
  have hr := B.returns
  have hts := atoms_spec (ws := wsX1_value) B.pre
  have hown : s.vm.findClass RX1 = some m.cls := findClass_of_methodNamed B.named
  have hlocks := B.notSynchronized
  subst hsz
  have hD := hD0.self (sz := s.heap.size)
  generalize hAe : va_A (MW cI cZ a th n wv lo cf tf vs nr) s.heap.size = A at hD ⊢
  have hA : ∀ q : Nat, s.heap.size ≤ q → A q := fun q h => by rw [← hAe]; exact Or.inr h
  have hS : va_S A s.heap s.heap [] := va_S.rf
  have hP : va_P (dC, dI) vwCl (MW cI cZ a th n wv lo cf tf vs nr) s.heap := hP
  have hl := lv_entry ([.ref (a 0), .int x, .int d]) (n := 3) (Nat.le_of_ble_eq_true rfl)
  rw [lg_entry_eq]
  generalize (lg_sl ([.ref (a 0), .int x, .int d]) ++ List.replicate (3 - (lg_sl ([.ref (a 0), .int x, .int d])).length) Slot.unset).toArray = ls at hl ⊢
  have hl : lv_has ls 3 [(0, .ref (a 0)), (1, .int x), (2, .int d)] := hl
  refine lv_aload_n hx hb dX1_value_0 rfl (lv_at hl 0 rfl) ?_
  refine lv_iload_n hx hb dX1_value_1 rfl (lv_at hl 1 rfl) ?_
  refine lv_iload_n hx hb dX1_value_2 rfl (lv_at hl 2 rfl) ?_
  have hF := freeAll hD hS hA
  refine va_calli (va_runV (As := [.int x, .int d]) (rest := []) ⟨hx, hb, hml, hown, hts⟩ (kX1_asked_no l dC dI cI cZ cA a s.heap.size th n wv lo cf tf vs nr x d hB) (cwV 2 hts gX1_value_X1_asked rfl rfl rfl (by decide +kernel) ⟨Nat.le_of_ble_eq_true rfl, Nat.le_of_ble_eq_true rfl⟩) ⟨blindW, va_recv hK hP (ci := 1) (q0 := 0) rfl rfl, preW hP hK hD⟩ rfl rfl hl.1 rfl (lv_room (Nat.le_of_ble_eq_true rfl)) dX1_value_3 ⟨Nat.zero_le _, Nat.zero_le _⟩) hS (fun q _ h => hF q h) hF (fun r_ _u tS H1 locs htS hvm hw hB hz1 hk1 hS => ?_)
  obtain rfl : r_ = 0 := hw
  obtain ⟨hP1, hK1, hD1⟩ := hB
  rw [htS] at hP1
  have hP : va_P (dC, dI) vwCl (MW cI cZ a 1 n wv lo cf tf vs nr) H1 := hP1
  have hD : va_D A (MW cI cZ a 1 n wv lo cf tf vs nr) := hD1.weaken (fun _ _ _ h => hF _ h)
  generalize H1 = H at hP hS ⊢
  refine W.eq (g2 := F0 m 6 ls [.int 0]) rfl ?_
  refine lv_if_eq (tgt := 18) hx hb dX1_value_6 (by decide) (fun h6 => ?_) (fun h6 => absurd rfl h6)
  refine lv_iconst (v := 0) hx hb dX1_value_18 (by decide) ?_
  exact W.iret (v := 0) hx hb hr (fun t ht hW => ⟨⟨0, (), rfl, rfl, by rw [ht]; exact hP, va_K.moved hW.alike hK, hD⟩, hS.F ht⟩) hS.2.2 dX1_value_19
set_option maxHeartbeats 4000000 in
set_option maxRecDepth 100000 in
/-- best -/
theorem kX1_best (l : Launch) (dC : Nat → ClassId) (dI : Nat → Nat → Nat) (cI cZ cA : ClassId) (a : Nat → Nat) (sz : Nat) (th : Nat) (n : Nat) (wv : Nat → Int32) (lo : Nat → Int32) (cf : Nat → Nat) (tf : Nat → Nat) (vs : Nat → Int32) (nr : Nat → Nat) (j d : Nat)  (hd : d < 8) (hG : Gok n wv lo cf tf) (hj : j < n)  : Met l yX1_best wsX1_best ({ frames := 5, cells := 0, slots := 0, locals := 113 }) (va_Pc [.ref (a 0), .int (nI j), .int (nI d)] (WP dC dI (GT cI cZ cA) (MW cI cZ a th n wv lo cf tf vs nr) sz)) (va_Qi (fun r (vs1 : Nat → Int32) => r = bm cf tf (vv wv lo cf tf) j d) (fun vs1 => WQ dC dI (GT cI cZ cA) (va_A (MW cI cZ a th n wv lo cf tf vs nr) sz) (MW cI cZ a 0 n wv lo cf tf vs1 nr)) (va_A (MW cI cZ a th n wv lo cf tf vs nr) sz)) 0 0 (va_A (MW cI cZ a th n wv lo cf tf vs nr) sz) := by
  refine Met.ofW (cc := cX1_best) (maxL := 3) (ret := (some .int)) (by decide) rfl ?_
  intro p e s m args below meth c s₁ B hml hv
  obtain ⟨rfl, hsz, hP, hK, hD0⟩ := hv
  have hx := B.exec
  have hb := B.bytes
  have hr := B.returns
  have hts := atoms_spec (ws := wsX1_best) B.pre
  have hown : s.vm.findClass RX1 = some m.cls := findClass_of_methodNamed B.named
  have hlocks := B.notSynchronized
  subst hsz
  have hD := hD0.self (sz := s.heap.size)
  generalize hAe : va_A (MW cI cZ a th n wv lo cf tf vs nr) s.heap.size = A at hD ⊢
  have hA : ∀ q : Nat, s.heap.size ≤ q → A q := fun q h => by rw [← hAe]; exact Or.inr h
  have hS : va_S A s.heap s.heap [] := va_S.rf
  have hP : va_P (dC, dI) vwCl (MW cI cZ a th n wv lo cf tf vs nr) s.heap := hP
  have hl := lv_entry ([.ref (a 0), .int (nI j), .int (nI d)]) (n := 3) (Nat.le_of_ble_eq_true rfl)
  rw [lg_entry_eq]
  generalize (lg_sl ([.ref (a 0), .int (nI j), .int (nI d)]) ++ List.replicate (3 - (lg_sl ([.ref (a 0), .int (nI j), .int (nI d)])).length) Slot.unset).toArray = ls at hl ⊢
  have hl : lv_has ls 3 [(0, .ref (a 0)), (1, .int (nI j)), (2, .int (nI d))] := hl
  obtain ⟨hn4, hwr, hc, htt, hlo, hz0⟩ := id hG
  have hcj := hc j hj
  refine lv_aload_n hx hb dX1_best_0 rfl (lv_at hl 0 rfl) ?_
  refine lv_iload_n hx hb dX1_best_1 rfl (lv_at hl 1 rfl) ?_
  refine lv_iload_n hx hb dX1_best_2 rfl (lv_at hl 2 rfl) ?_
  have hF := freeAll hD hS hA
  refine va_calli (va_runV (As := [.int (nI j), .int (nI d)]) (rest := []) ⟨hx, hb, hml, hown, hts⟩ (kX1_asked l dC dI cI cZ cA a s.heap.size th n wv lo cf tf vs nr j d hd hG hj) (cwV 2 hts gX1_best_X1_asked rfl rfl rfl (by decide +kernel) ⟨Nat.le_of_ble_eq_true rfl, Nat.le_of_ble_eq_true rfl⟩) ⟨blindW, va_recv hK hP (ci := 1) (q0 := 0) rfl rfl, preW hP hK hD⟩ rfl rfl hl.1 rfl (lv_room (Nat.le_of_ble_eq_true rfl)) dX1_best_3 ⟨Nat.zero_le _, Nat.zero_le _⟩) hS (fun q _ h => hF q h) hF (fun r_ vs1 tS H1 locs htS hvm hw hB hz1 hk1 hS => ?_)
  obtain ⟨rfl, hV⟩ : r_ = 1 ∧ Vok n wv lo cf tf d vs1 := hw
  obtain ⟨hP1, hK1, hD1⟩ := hB
  rw [htS] at hP1
  have hP : va_P (dC, dI) vwCl (MW cI cZ a 0 n wv lo cf tf vs1 nr) H1 := hP1
  have hD : va_D A (MW cI cZ a 0 n wv lo cf tf vs1 nr) := hD1.weaken (fun _ _ _ h => hF _ h)
  generalize H1 = H at hP hS ⊢
  refine W.eq (g2 := F0 m 6 ls [.int 1]) rfl ?_
  refine lv_if_eq (tgt := 18) hx hb dX1_best_6 (by decide) (fun h6 => absurd h6 (by decide)) (fun h6 => ?_)
  refine lv_aload_n hx hb dX1_best_9 rfl (lv_at hl 0 rfl) ?_
  refine lv_iload_n hx hb dX1_best_10 rfl (lv_at hl 1 rfl) ?_
  refine lv_iload_n hx hb dX1_best_11 rfl (lv_at hl 2 rfl) ?_
  refine W.callR (r := bm cf tf (rw_ vs1) j d) (W.runV (As := [.int (nI j), .int (nI d)]) (rest := []) ⟨hx, hb, hml, hown, hts⟩ (kX1_bestOf l dC dI cI cZ cA a 0 n wv lo cf tf vs1 nr j d hd (by omega) hcj (fun i hi => by have := htt j hj i hi; omega)) (cwV 2 hts gX1_best_X1_bestOf rfl rfl rfl (by decide +kernel) ⟨Nat.le_of_ble_eq_true rfl, Nat.le_of_ble_eq_true rfl⟩) ⟨blindR, va_recv hK hP (ci := 1) (q0 := 0) rfl rfl, preR hP hK⟩ rfl rfl hl.1 rfl (lv_room (Nat.le_of_ble_eq_true rfl)) dX1_best_12 ⟨Nat.zero_le _, Nat.zero_le _⟩) ?_
  refine W.eq (g2 := F0 m 15 ls [.int (bm cf tf (rw_ vs1) j d)]) rfl ?_
  refine lv_goto (tgt := 19) hx hb dX1_best_15 (by decide) ?_
  exact W.iret (v := (bm cf tf (rw_ vs1) j d)) hx hb hr (fun t ht hW => ⟨⟨(bm cf tf (rw_ vs1) j d), vs1, rfl, bm_congr hj htt d (fun e he y hy => hV e he y hy), by rw [ht]; exact hP, va_K.moved hW.alike hK, hD⟩, hS.F ht⟩) hS.2.2 dX1_best_19
set_option maxHeartbeats 4000000 in
set_option maxRecDepth 100000 in
/-- best, refused -/
theorem kX1_best_no (l : Launch) (dC : Nat → ClassId) (dI : Nat → Nat → Nat) (cI cZ cA : ClassId) (a : Nat → Nat) (sz : Nat) (th : Nat) (n : Nat) (wv : Nat → Int32) (lo : Nat → Int32) (cf : Nat → Nat) (tf : Nat → Nat) (vs : Nat → Int32) (nr : Nat → Nat) (x d : Int32)  (hB : Bad n x d) : Met l yX1_best wsX1_best ({ frames := 5, cells := 0, slots := 0, locals := 113 }) (va_Pc [.ref (a 0), .int x, .int d] (WP dC dI (GT cI cZ cA) (MW cI cZ a th n wv lo cf tf vs nr) sz)) (va_Qi (fun r (_ : Unit) => r = 0) (fun (_ : Unit) => WQ dC dI (GT cI cZ cA) (va_A (MW cI cZ a th n wv lo cf tf vs nr) sz) (MW cI cZ a 1 n wv lo cf tf vs nr)) (va_A (MW cI cZ a th n wv lo cf tf vs nr) sz)) 0 0 (va_A (MW cI cZ a th n wv lo cf tf vs nr) sz) := by
  refine Met.ofW (cc := cX1_best) (maxL := 3) (ret := (some .int)) (by decide) rfl ?_
  intro p e s m args below meth c s₁ B hml hv
  obtain ⟨rfl, hsz, hP, hK, hD0⟩ := hv
  have hx := B.exec
  have hb := B.bytes
  have hr := B.returns
  have hts := atoms_spec (ws := wsX1_best) B.pre
  have hown : s.vm.findClass RX1 = some m.cls := findClass_of_methodNamed B.named
  have hlocks := B.notSynchronized
  subst hsz
  have hD := hD0.self (sz := s.heap.size)
  generalize hAe : va_A (MW cI cZ a th n wv lo cf tf vs nr) s.heap.size = A at hD ⊢
  have hA : ∀ q : Nat, s.heap.size ≤ q → A q := fun q h => by rw [← hAe]; exact Or.inr h
  have hS : va_S A s.heap s.heap [] := va_S.rf
  have hP : va_P (dC, dI) vwCl (MW cI cZ a th n wv lo cf tf vs nr) s.heap := hP
  have hl := lv_entry ([.ref (a 0), .int x, .int d]) (n := 3) (Nat.le_of_ble_eq_true rfl)
  rw [lg_entry_eq]
  generalize (lg_sl ([.ref (a 0), .int x, .int d]) ++ List.replicate (3 - (lg_sl ([.ref (a 0), .int x, .int d])).length) Slot.unset).toArray = ls at hl ⊢
  have hl : lv_has ls 3 [(0, .ref (a 0)), (1, .int x), (2, .int d)] := hl
  refine lv_aload_n hx hb dX1_best_0 rfl (lv_at hl 0 rfl) ?_
  refine lv_iload_n hx hb dX1_best_1 rfl (lv_at hl 1 rfl) ?_
  refine lv_iload_n hx hb dX1_best_2 rfl (lv_at hl 2 rfl) ?_
  have hF := freeAll hD hS hA
  refine va_calli (va_runV (As := [.int x, .int d]) (rest := []) ⟨hx, hb, hml, hown, hts⟩ (kX1_asked_no l dC dI cI cZ cA a s.heap.size th n wv lo cf tf vs nr x d hB) (cwV 2 hts gX1_best_X1_asked rfl rfl rfl (by decide +kernel) ⟨Nat.le_of_ble_eq_true rfl, Nat.le_of_ble_eq_true rfl⟩) ⟨blindW, va_recv hK hP (ci := 1) (q0 := 0) rfl rfl, preW hP hK hD⟩ rfl rfl hl.1 rfl (lv_room (Nat.le_of_ble_eq_true rfl)) dX1_best_3 ⟨Nat.zero_le _, Nat.zero_le _⟩) hS (fun q _ h => hF q h) hF (fun r_ _u tS H1 locs htS hvm hw hB hz1 hk1 hS => ?_)
  obtain rfl : r_ = 0 := hw
  obtain ⟨hP1, hK1, hD1⟩ := hB
  rw [htS] at hP1
  have hP : va_P (dC, dI) vwCl (MW cI cZ a 1 n wv lo cf tf vs nr) H1 := hP1
  have hD : va_D A (MW cI cZ a 1 n wv lo cf tf vs nr) := hD1.weaken (fun _ _ _ h => hF _ h)
  generalize H1 = H at hP hS ⊢
  refine W.eq (g2 := F0 m 6 ls [.int 0]) rfl ?_
  refine lv_if_eq (tgt := 18) hx hb dX1_best_6 (by decide) (fun h6 => ?_) (fun h6 => absurd rfl h6)
  refine lv_iconst (v := 0) hx hb dX1_best_18 (by decide) ?_
  exact W.iret (v := 0) hx hb hr (fun t ht hW => ⟨⟨0, (), rfl, rfl, by rw [ht]; exact hP, va_K.moved hW.alike hK, hD⟩, hS.F ht⟩) hS.2.2 dX1_best_19
set_option maxHeartbeats 4000000 in
set_option maxRecDepth 100000 in
/-- reaches -/
theorem kX1_reaches (l : Launch) (dC : Nat → ClassId) (dI : Nat → Nat → Nat) (cI cZ cA : ClassId) (a : Nat → Nat) (sz : Nat) (th : Nat) (n : Nat) (wv : Nat → Int32) (lo : Nat → Int32) (cf : Nat → Nat) (tf : Nat → Nat) (vs : Nat → Int32) (nr : Nat → Nat) (j d : Nat) (v : Int32) (hd : d < 8) (hG : Gok n wv lo cf tf) (hj : j < n)  : Met l yX1_reaches wsX1_reaches ({ frames := 5, cells := 0, slots := 0, locals := 113 }) (va_Pc [.ref (a 0), .int (nI j), .int (nI d), .int v] (WP dC dI (GT cI cZ cA) (MW cI cZ a th n wv lo cf tf vs nr) sz)) (va_Qi (fun r (vs1 : Nat → Int32) => r = rea (vv wv lo cf tf d j) v) (fun vs1 => WQ dC dI (GT cI cZ cA) (va_A (MW cI cZ a th n wv lo cf tf vs nr) sz) (MW cI cZ a 0 n wv lo cf tf vs1 nr)) (va_A (MW cI cZ a th n wv lo cf tf vs nr) sz)) 0 0 (va_A (MW cI cZ a th n wv lo cf tf vs nr) sz) := by
  refine Met.ofW (cc := cX1_reaches) (maxL := 4) (ret := (some .boolean)) (by decide) rfl ?_
  intro p e s m args below meth c s₁ B hml hv
  obtain ⟨rfl, hsz, hP, hK, hD0⟩ := hv
  have hx := B.exec
  have hb := B.bytes
  have hr := B.returns
  have hts := atoms_spec (ws := wsX1_reaches) B.pre
  have hown : s.vm.findClass RX1 = some m.cls := findClass_of_methodNamed B.named
  have hlocks := B.notSynchronized
  subst hsz
  have hD := hD0.self (sz := s.heap.size)
  generalize hAe : va_A (MW cI cZ a th n wv lo cf tf vs nr) s.heap.size = A at hD ⊢
  have hA : ∀ q : Nat, s.heap.size ≤ q → A q := fun q h => by rw [← hAe]; exact Or.inr h
  have hS : va_S A s.heap s.heap [] := va_S.rf
  have hP : va_P (dC, dI) vwCl (MW cI cZ a th n wv lo cf tf vs nr) s.heap := hP
  have hl := lv_entry ([.ref (a 0), .int (nI j), .int (nI d), .int v]) (n := 4) (Nat.le_of_ble_eq_true rfl)
  rw [lg_entry_eq]
  generalize (lg_sl ([.ref (a 0), .int (nI j), .int (nI d), .int v]) ++ List.replicate (4 - (lg_sl ([.ref (a 0), .int (nI j), .int (nI d), .int v])).length) Slot.unset).toArray = ls at hl ⊢
  have hl : lv_has ls 4 [(0, .ref (a 0)), (1, .int (nI j)), (2, .int (nI d)), (3, .int v)] := hl
  obtain ⟨hn4, hwr, hc, htt, hlo, hz0⟩ := id hG
  have hcj := hc j hj
  refine lv_aload_n hx hb dX1_reaches_0 rfl (lv_at hl 0 rfl) ?_
  refine lv_iload_n hx hb dX1_reaches_1 rfl (lv_at hl 1 rfl) ?_
  refine lv_iload_n hx hb dX1_reaches_2 rfl (lv_at hl 2 rfl) ?_
  have hF := freeAll hD hS hA
  refine va_calli (va_runV (As := [.int (nI j), .int (nI d)]) (rest := []) ⟨hx, hb, hml, hown, hts⟩ (kX1_asked l dC dI cI cZ cA a s.heap.size th n wv lo cf tf vs nr j d hd hG hj) (cwV 2 hts gX1_reaches_X1_asked rfl rfl rfl (by decide +kernel) ⟨Nat.le_of_ble_eq_true rfl, Nat.le_of_ble_eq_true rfl⟩) ⟨blindW, va_recv hK hP (ci := 1) (q0 := 0) rfl rfl, preW hP hK hD⟩ rfl rfl hl.1 rfl (lv_room (Nat.le_of_ble_eq_true rfl)) dX1_reaches_3 ⟨Nat.zero_le _, Nat.zero_le _⟩) hS (fun q _ h => hF q h) hF (fun r_ vs1 tS H1 locs htS hvm hw hB hz1 hk1 hS => ?_)
  obtain ⟨rfl, hV⟩ : r_ = 1 ∧ Vok n wv lo cf tf d vs1 := hw
  obtain ⟨hP1, hK1, hD1⟩ := hB
  rw [htS] at hP1
  have hP : va_P (dC, dI) vwCl (MW cI cZ a 0 n wv lo cf tf vs1 nr) H1 := hP1
  have hD : va_D A (MW cI cZ a 0 n wv lo cf tf vs1 nr) := hD1.weaken (fun _ _ _ h => hF _ h)
  generalize H1 = H at hP hS ⊢
  refine W.eq (g2 := F0 m 6 ls [.int 1]) rfl ?_
  refine lv_if_eq (tgt := 23) hx hb dX1_reaches_6 (by decide) (fun h6 => absurd h6 (by decide)) (fun h6 => ?_)
  refine lv_aload_n hx hb dX1_reaches_9 rfl (lv_at hl 0 rfl) ?_
  refine lv_iload_n hx hb dX1_reaches_10 rfl (lv_at hl 1 rfl) ?_
  refine lv_iload_n hx hb dX1_reaches_11 rfl (lv_at hl 2 rfl) ?_
  refine W.callR (r := vs1 (400 * d + j)) (W.runV (As := [.int (nI j), .int (nI d)]) (rest := []) ⟨hx, hb, hml, hown, hts⟩ (kX1_valueOf l dC dI cI cZ cA a 0 n wv lo cf tf vs1 nr j d hd (by omega)) (cwV 2 hts gX1_reaches_X1_valueOf rfl rfl rfl (by decide +kernel) ⟨Nat.le_of_ble_eq_true rfl, Nat.le_of_ble_eq_true rfl⟩) ⟨blindR, va_recv hK hP (ci := 1) (q0 := 0) rfl rfl, preR hP hK⟩ rfl rfl hl.1 rfl (lv_room (Nat.le_of_ble_eq_true rfl)) dX1_reaches_12 ⟨Nat.zero_le _, Nat.zero_le _⟩) ?_
  refine W.eq (g2 := F0 m 15 ls [.int (vs1 (400 * d + j))]) rfl ?_
  refine ga_is (y := vv wv lo cf tf d j) (hV d (Nat.le_refl _) j hj) ?_
  refine lv_iload_n hx hb dX1_reaches_15 rfl (lv_at hl 3 rfl) ?_
  refine lv_icmp_lt (tgt := 23) hx hb dX1_reaches_16 (by decide) (fun h16 => ?_) (fun h16 => ?_)
  · refine lv_iconst (v := 0) hx hb dX1_reaches_23 (by decide) ?_
    exact W.zret (v := 0) hx hb hr (by decide) (fun t ht hW => ⟨⟨0, vs1, rfl, by rw [rea, if_pos h16], by rw [ht]; exact hP, va_K.moved hW.alike hK, hD⟩, hS.F ht⟩) hS.2.2 dX1_reaches_24
  · refine lv_iconst (v := 1) hx hb dX1_reaches_19 (by decide) ?_
    refine lv_goto (tgt := 24) hx hb dX1_reaches_20 (by decide) ?_
    exact W.zret (v := 1) hx hb hr (by decide) (fun t ht hW => ⟨⟨1, vs1, rfl, by rw [rea, if_neg h16], by rw [ht]; exact hP, va_K.moved hW.alike hK, hD⟩, hS.F ht⟩) hS.2.2 dX1_reaches_24
set_option maxHeartbeats 4000000 in
set_option maxRecDepth 100000 in
/-- reaches, refused -/
theorem kX1_reaches_no (l : Launch) (dC : Nat → ClassId) (dI : Nat → Nat → Nat) (cI cZ cA : ClassId) (a : Nat → Nat) (sz : Nat) (th : Nat) (n : Nat) (wv : Nat → Int32) (lo : Nat → Int32) (cf : Nat → Nat) (tf : Nat → Nat) (vs : Nat → Int32) (nr : Nat → Nat) (x d : Int32) (v : Int32) (hB : Bad n x d) : Met l yX1_reaches wsX1_reaches ({ frames := 5, cells := 0, slots := 0, locals := 113 }) (va_Pc [.ref (a 0), .int x, .int d, .int v] (WP dC dI (GT cI cZ cA) (MW cI cZ a th n wv lo cf tf vs nr) sz)) (va_Qi (fun r (_ : Unit) => r = 0) (fun (_ : Unit) => WQ dC dI (GT cI cZ cA) (va_A (MW cI cZ a th n wv lo cf tf vs nr) sz) (MW cI cZ a 1 n wv lo cf tf vs nr)) (va_A (MW cI cZ a th n wv lo cf tf vs nr) sz)) 0 0 (va_A (MW cI cZ a th n wv lo cf tf vs nr) sz) := by
  refine Met.ofW (cc := cX1_reaches) (maxL := 4) (ret := (some .boolean)) (by decide) rfl ?_
  intro p e s m args below meth c s₁ B hml hv
  obtain ⟨rfl, hsz, hP, hK, hD0⟩ := hv
  have hx := B.exec
  have hb := B.bytes
  have hr := B.returns
  have hts := atoms_spec (ws := wsX1_reaches) B.pre
  have hown : s.vm.findClass RX1 = some m.cls := findClass_of_methodNamed B.named
  have hlocks := B.notSynchronized
  subst hsz
  have hD := hD0.self (sz := s.heap.size)
  generalize hAe : va_A (MW cI cZ a th n wv lo cf tf vs nr) s.heap.size = A at hD ⊢
  have hA : ∀ q : Nat, s.heap.size ≤ q → A q := fun q h => by rw [← hAe]; exact Or.inr h
  have hS : va_S A s.heap s.heap [] := va_S.rf
  have hP : va_P (dC, dI) vwCl (MW cI cZ a th n wv lo cf tf vs nr) s.heap := hP
  have hl := lv_entry ([.ref (a 0), .int x, .int d, .int v]) (n := 4) (Nat.le_of_ble_eq_true rfl)
  rw [lg_entry_eq]
  generalize (lg_sl ([.ref (a 0), .int x, .int d, .int v]) ++ List.replicate (4 - (lg_sl ([.ref (a 0), .int x, .int d, .int v])).length) Slot.unset).toArray = ls at hl ⊢
  have hl : lv_has ls 4 [(0, .ref (a 0)), (1, .int x), (2, .int d), (3, .int v)] := hl
  refine lv_aload_n hx hb dX1_reaches_0 rfl (lv_at hl 0 rfl) ?_
  refine lv_iload_n hx hb dX1_reaches_1 rfl (lv_at hl 1 rfl) ?_
  refine lv_iload_n hx hb dX1_reaches_2 rfl (lv_at hl 2 rfl) ?_
  have hF := freeAll hD hS hA
  refine va_calli (va_runV (As := [.int x, .int d]) (rest := []) ⟨hx, hb, hml, hown, hts⟩ (kX1_asked_no l dC dI cI cZ cA a s.heap.size th n wv lo cf tf vs nr x d hB) (cwV 2 hts gX1_reaches_X1_asked rfl rfl rfl (by decide +kernel) ⟨Nat.le_of_ble_eq_true rfl, Nat.le_of_ble_eq_true rfl⟩) ⟨blindW, va_recv hK hP (ci := 1) (q0 := 0) rfl rfl, preW hP hK hD⟩ rfl rfl hl.1 rfl (lv_room (Nat.le_of_ble_eq_true rfl)) dX1_reaches_3 ⟨Nat.zero_le _, Nat.zero_le _⟩) hS (fun q _ h => hF q h) hF (fun r_ _u tS H1 locs htS hvm hw hB hz1 hk1 hS => ?_)
  obtain rfl : r_ = 0 := hw
  obtain ⟨hP1, hK1, hD1⟩ := hB
  rw [htS] at hP1
  have hP : va_P (dC, dI) vwCl (MW cI cZ a 1 n wv lo cf tf vs nr) H1 := hP1
  have hD : va_D A (MW cI cZ a 1 n wv lo cf tf vs nr) := hD1.weaken (fun _ _ _ h => hF _ h)
  generalize H1 = H at hP hS ⊢
  refine W.eq (g2 := F0 m 6 ls [.int 0]) rfl ?_
  refine lv_if_eq (tgt := 23) hx hb dX1_reaches_6 (by decide) (fun h6 => ?_) (fun h6 => absurd rfl h6)
  refine lv_iconst (v := 0) hx hb dX1_reaches_23 (by decide) ?_
  exact W.zret (v := 0) hx hb hr (by decide) (fun t ht hW => ⟨⟨0, (), rfl, rfl, by rw [ht]; exact hP, va_K.moved hW.alike hK, hD⟩, hS.F ht⟩) hS.2.2 dX1_reaches_24
end
section
set_option maxHeartbeats 4000000 in
set_option maxRecDepth 100000 in
/-- settled -/
theorem kX1_settled (l : Launch) (dC : Nat → ClassId) (dI : Nat → Nat → Nat) (cI cZ cA : ClassId) (a : Nat → Nat) (sz : Nat) (th : Nat) (n : Nat) (wv : Nat → Int32) (lo : Nat → Int32) (cf : Nat → Nat) (tf : Nat → Nat) (vs : Nat → Int32) (nr : Nat → Nat) (j d : Nat)  (hd : d < 8) (hG : Gok n wv lo cf tf) (hj : j < n)  : Met l yX1_settled wsX1_settled ({ frames := 5, cells := 0, slots := 0, locals := 113 }) (va_Pc [.ref (a 0), .int (nI j), .int (nI d)] (WP dC dI (GT cI cZ cA) (MW cI cZ a th n wv lo cf tf vs nr) sz)) (va_Qi (fun r (vs1 : Nat → Int32) => r = nI (set_ (fun e => vv wv lo cf tf e j) (vv wv lo cf tf d j) d)) (fun vs1 => WQ dC dI (GT cI cZ cA) (va_A (MW cI cZ a th n wv lo cf tf vs nr) sz) (MW cI cZ a 0 n wv lo cf tf vs1 nr)) (va_A (MW cI cZ a th n wv lo cf tf vs nr) sz)) 0 0 (va_A (MW cI cZ a th n wv lo cf tf vs nr) sz) := by
  refine Met.ofW (cc := cX1_settled) (maxL := 5) (ret := (some .int)) (by decide) rfl ?_
  intro p e s m args below meth c s₁ B hml hv
  obtain ⟨rfl, hsz, hP, hK, hD0⟩ := hv
  have hx := B.exec
  have hb := B.bytes
  have hr := B.returns
  have hts := atoms_spec (ws := wsX1_settled) B.pre
  have hown : s.vm.findClass RX1 = some m.cls := findClass_of_methodNamed B.named
  have hlocks := B.notSynchronized
  subst hsz
  have hD := hD0.self (sz := s.heap.size)
  generalize hAe : va_A (MW cI cZ a th n wv lo cf tf vs nr) s.heap.size = A at hD ⊢
  have hA : ∀ q : Nat, s.heap.size ≤ q → A q := fun q h => by rw [← hAe]; exact Or.inr h
  have hS : va_S A s.heap s.heap [] := va_S.rf
  have hP : va_P (dC, dI) vwCl (MW cI cZ a th n wv lo cf tf vs nr) s.heap := hP
  have hl := lv_entry ([.ref (a 0), .int (nI j), .int (nI d)]) (n := 5) (Nat.le_of_ble_eq_true rfl)
  rw [lg_entry_eq]
  generalize (lg_sl ([.ref (a 0), .int (nI j), .int (nI d)]) ++ List.replicate (5 - (lg_sl ([.ref (a 0), .int (nI j), .int (nI d)])).length) Slot.unset).toArray = ls at hl ⊢
  have hl : lv_has ls 5 [(0, .ref (a 0)), (1, .int (nI j)), (2, .int (nI d))] := hl
  obtain ⟨hn4, hwr, hc, htt, hlo, hz0⟩ := id hG
  have hcj := hc j hj
  refine lv_aload_n hx hb dX1_settled_0 rfl (lv_at hl 0 rfl) ?_
  refine lv_iload_n hx hb dX1_settled_1 rfl (lv_at hl 1 rfl) ?_
  refine lv_iload_n hx hb dX1_settled_2 rfl (lv_at hl 2 rfl) ?_
  have hF := freeAll hD hS hA
  refine va_calli (va_runV (As := [.int (nI j), .int (nI d)]) (rest := []) ⟨hx, hb, hml, hown, hts⟩ (kX1_asked l dC dI cI cZ cA a s.heap.size th n wv lo cf tf vs nr j d hd hG hj) (cwV 2 hts gX1_settled_X1_asked rfl rfl rfl (by decide +kernel) ⟨Nat.le_of_ble_eq_true rfl, Nat.le_of_ble_eq_true rfl⟩) ⟨blindW, va_recv hK hP (ci := 1) (q0 := 0) rfl rfl, preW hP hK hD⟩ rfl rfl hl.1 rfl (lv_room (Nat.le_of_ble_eq_true rfl)) dX1_settled_3 ⟨Nat.zero_le _, Nat.zero_le _⟩) hS (fun q _ h => hF q h) hF (fun r_ vs1 tS H1 locs htS hvm hw hB hz1 hk1 hS => ?_)
  obtain ⟨rfl, hV⟩ : r_ = 1 ∧ Vok n wv lo cf tf d vs1 := hw
  obtain ⟨hP1, hK1, hD1⟩ := hB
  rw [htS] at hP1
  have hP : va_P (dC, dI) vwCl (MW cI cZ a 0 n wv lo cf tf vs1 nr) H1 := hP1
  have hD : va_D A (MW cI cZ a 0 n wv lo cf tf vs1 nr) := hD1.weaken (fun _ _ _ h => hF _ h)
  generalize H1 = H at hP hS ⊢
  refine W.eq (g2 := F0 m 6 ls [.int 1]) rfl ?_
  refine lv_if_ne (tgt := 11) hx hb dX1_settled_6 (by decide) (fun h6 => ?_) (fun h6 => absurd h6 (by decide))
  refine lv_iload_n hx hb dX1_settled_11 rfl (lv_at hl 2 rfl) ?_
  refine lv_istore_n (lv' := [(3, .int (nI d)), (0, .ref (a 0)), (1, .int (nI j)), (2, .int (nI d))]) hx hb dX1_settled_12 rfl hl (by decide) rfl (fun ls hl => ?_)
  refine lv_iload_n hx hb dX1_settled_13 rfl (lv_at hl 3 rfl) ?_
  refine lv_istore (lv' := [(4, .int (nI d)), (3, .int (nI d)), (0, .ref (a 0)), (1, .int (nI j)), (2, .int (nI d))]) hx hb dX1_settled_14 hl (by decide) rfl (fun ls hl => ?_)
  have loop : ∀ k : Nat, k ≤ d → ∀ L : Nat, (vv wv lo cf tf k j = vv wv lo cf tf d j → set_ (fun e => vv wv lo cf tf e j) (vv wv lo cf tf d j) d = set_ (fun e => vv wv lo cf tf e j) (vv wv lo cf tf d j) k) → (¬ vv wv lo cf tf k j = vv wv lo cf tf d j → set_ (fun e => vv wv lo cf tf e j) (vv wv lo cf tf d j) d = L) → ∀ ls : Array Slot, lv_has ls 5 [(4, .int (nI k)), (3, .int (nI L)), (0, .ref (a 0)), (1, .int (nI j)), (2, .int (nI d))] → W p l e (headSpec wsX1_settled (({ frames := 5, cells := 0, slots := 0, locals := 113 }) : Room)).room s m ([.ref (a 0), .int (nI j), .int (nI d)] : List Value).toArray below meth c H locs 0 0 (MQ below (va_Qi (fun r (vs1 : Nat → Int32) => r = nI (set_ (fun e => vv wv lo cf tf e j) (vv wv lo cf tf d j) d)) (fun vs1 => WQ dC dI (GT cI cZ cA) A (MW cI cZ a 0 n wv lo cf tf vs1 nr)) A) ([.ref (a 0), .int (nI j), .int (nI d)] : List Value).toArray s 0 0 A) (F0 m 16 ls []) := by
    intro k
    induction k with
    | zero =>
      intro hk L c1 c2 ls hl
      refine lv_iload hx hb dX1_settled_16 (lv_at hl 0 rfl) ?_
      refine lv_if_lt (tgt := 46) hx hb dX1_settled_18 (by decide) (fun h18 => absurd h18 (nI_pos (by omega))) (fun h18 => ?_)
      refine lv_aload_n hx hb dX1_settled_21 rfl (lv_at hl 2 rfl) ?_
      refine lv_iload_n hx hb dX1_settled_22 rfl (lv_at hl 3 rfl) ?_
      refine lv_iload hx hb dX1_settled_23 (lv_at hl 0 rfl) ?_
      refine W.callR (r := vs1 (400 * 0 + j)) (W.runV (As := [.int (nI j), .int (nI 0)]) (rest := []) ⟨hx, hb, hml, hown, hts⟩ (kX1_valueOf l dC dI cI cZ cA a 0 n wv lo cf tf vs1 nr j 0 (by omega) (by omega)) (cwV 2 hts gX1_settled_X1_valueOf rfl rfl rfl (by decide +kernel) ⟨Nat.le_of_ble_eq_true rfl, Nat.le_of_ble_eq_true rfl⟩) ⟨blindR, va_recv hK hP (ci := 1) (q0 := 0) rfl rfl, preR hP hK⟩ rfl rfl hl.1 rfl (lv_room (Nat.le_of_ble_eq_true rfl)) dX1_settled_25 ⟨Nat.zero_le _, Nat.zero_le _⟩) ?_
      refine W.eq (g2 := F0 m 28 ls [.int (vs1 (400 * 0 + j))]) rfl ?_
      refine ga_is (y := vv wv lo cf tf 0 j) (hV _ hk j hj) ?_
      refine lv_aload_n hx hb dX1_settled_28 rfl (lv_at hl 2 rfl) ?_
      refine lv_iload_n hx hb dX1_settled_29 rfl (lv_at hl 3 rfl) ?_
      refine lv_iload_n hx hb dX1_settled_30 rfl (lv_at hl 4 rfl) ?_
      refine W.callR (r := vs1 (400 * d + j)) (W.runV (As := [.int (nI j), .int (nI d)]) (rest := [.int (vv wv lo cf tf 0 j)]) ⟨hx, hb, hml, hown, hts⟩ (kX1_valueOf l dC dI cI cZ cA a 0 n wv lo cf tf vs1 nr j d hd (by omega)) (cwV 2 hts gX1_settled_X1_valueOf rfl rfl rfl (by decide +kernel) ⟨Nat.le_of_ble_eq_true rfl, Nat.le_of_ble_eq_true rfl⟩) ⟨blindR, va_recv hK hP (ci := 1) (q0 := 0) rfl rfl, preR hP hK⟩ rfl rfl hl.1 rfl (lv_room (Nat.le_of_ble_eq_true rfl)) dX1_settled_31 ⟨Nat.zero_le _, Nat.zero_le _⟩) ?_
      refine W.eq (g2 := F0 m 34 ls [.int (vs1 (400 * d + j)), .int (vv wv lo cf tf 0 j)]) rfl ?_
      refine ga_is (y := vv wv lo cf tf d j) (hV d (Nat.le_refl _) j hj) ?_
      refine lv_icmp_ne (tgt := 46) hx hb dX1_settled_34 (by decide) (fun h34 => ?_) (fun h34 => ?_)
      · refine lv_iload_n hx hb dX1_settled_46 rfl (lv_at hl 1 rfl) ?_
        exact W.iret (v := (nI L)) hx hb hr (fun t ht hW => ⟨⟨(nI L), vs1, rfl, by rw [c2 h34], by rw [ht]; exact hP, va_K.moved hW.alike hK, hD⟩, hS.F ht⟩) hS.2.2 dX1_settled_47
      · refine lv_iload hx hb dX1_settled_37 (lv_at hl 0 rfl) ?_
        refine lv_istore_n (lv' := [(3, .int (nI 0)), (4, .int (nI 0)), (0, .ref (a 0)), (1, .int (nI j)), (2, .int (nI d))]) hx hb dX1_settled_39 rfl hl (by decide) rfl (fun ls hl => ?_)
        refine lv_iinc (v := (-1)) (lv' := [(4, .int (-1)), (3, .int (nI 0)), (0, .ref (a 0)), (1, .int (nI j)), (2, .int (nI d))]) hx hb dX1_settled_40 hl (k := 1) rfl (by decide +kernel) (by decide) rfl (fun ls hl => ?_)
        refine lv_goto (tgt := 16) hx hb dX1_settled_43 (by decide) ?_
        refine lv_iload hx hb dX1_settled_16 (lv_at hl 0 rfl) ?_
        refine lv_if_lt (tgt := 46) hx hb dX1_settled_18 (by decide) (fun h18b => ?_) (fun h18b => absurd (show (-1 : Int32) < 0 by decide) h18b)
        refine lv_iload_n hx hb dX1_settled_46 rfl (lv_at hl 1 rfl) ?_
        exact W.iret (v := (nI 0)) hx hb hr (fun t ht hW => ⟨⟨(nI 0), vs1, rfl, by rw [c1 h34]; rfl, by rw [ht]; exact hP, va_K.moved hW.alike hK, hD⟩, hS.F ht⟩) hS.2.2 dX1_settled_47
    | succ k ih =>
      intro hk L c1 c2 ls hl
      refine lv_iload hx hb dX1_settled_16 (lv_at hl 0 rfl) ?_
      refine lv_if_lt (tgt := 46) hx hb dX1_settled_18 (by decide) (fun h18 => absurd h18 (nI_pos (by omega))) (fun h18 => ?_)
      refine lv_aload_n hx hb dX1_settled_21 rfl (lv_at hl 2 rfl) ?_
      refine lv_iload_n hx hb dX1_settled_22 rfl (lv_at hl 3 rfl) ?_
      refine lv_iload hx hb dX1_settled_23 (lv_at hl 0 rfl) ?_
      refine W.callR (r := vs1 (400 * (k + 1) + j)) (W.runV (As := [.int (nI j), .int (nI (k + 1))]) (rest := []) ⟨hx, hb, hml, hown, hts⟩ (kX1_valueOf l dC dI cI cZ cA a 0 n wv lo cf tf vs1 nr j (k + 1) (by omega) (by omega)) (cwV 2 hts gX1_settled_X1_valueOf rfl rfl rfl (by decide +kernel) ⟨Nat.le_of_ble_eq_true rfl, Nat.le_of_ble_eq_true rfl⟩) ⟨blindR, va_recv hK hP (ci := 1) (q0 := 0) rfl rfl, preR hP hK⟩ rfl rfl hl.1 rfl (lv_room (Nat.le_of_ble_eq_true rfl)) dX1_settled_25 ⟨Nat.zero_le _, Nat.zero_le _⟩) ?_
      refine W.eq (g2 := F0 m 28 ls [.int (vs1 (400 * (k + 1) + j))]) rfl ?_
      refine ga_is (y := vv wv lo cf tf (k + 1) j) (hV _ hk j hj) ?_
      refine lv_aload_n hx hb dX1_settled_28 rfl (lv_at hl 2 rfl) ?_
      refine lv_iload_n hx hb dX1_settled_29 rfl (lv_at hl 3 rfl) ?_
      refine lv_iload_n hx hb dX1_settled_30 rfl (lv_at hl 4 rfl) ?_
      refine W.callR (r := vs1 (400 * d + j)) (W.runV (As := [.int (nI j), .int (nI d)]) (rest := [.int (vv wv lo cf tf (k + 1) j)]) ⟨hx, hb, hml, hown, hts⟩ (kX1_valueOf l dC dI cI cZ cA a 0 n wv lo cf tf vs1 nr j d hd (by omega)) (cwV 2 hts gX1_settled_X1_valueOf rfl rfl rfl (by decide +kernel) ⟨Nat.le_of_ble_eq_true rfl, Nat.le_of_ble_eq_true rfl⟩) ⟨blindR, va_recv hK hP (ci := 1) (q0 := 0) rfl rfl, preR hP hK⟩ rfl rfl hl.1 rfl (lv_room (Nat.le_of_ble_eq_true rfl)) dX1_settled_31 ⟨Nat.zero_le _, Nat.zero_le _⟩) ?_
      refine W.eq (g2 := F0 m 34 ls [.int (vs1 (400 * d + j)), .int (vv wv lo cf tf (k + 1) j)]) rfl ?_
      refine ga_is (y := vv wv lo cf tf d j) (hV d (Nat.le_refl _) j hj) ?_
      refine lv_icmp_ne (tgt := 46) hx hb dX1_settled_34 (by decide) (fun h34 => ?_) (fun h34 => ?_)
      · refine lv_iload_n hx hb dX1_settled_46 rfl (lv_at hl 1 rfl) ?_
        exact W.iret (v := (nI L)) hx hb hr (fun t ht hW => ⟨⟨(nI L), vs1, rfl, by rw [c2 h34], by rw [ht]; exact hP, va_K.moved hW.alike hK, hD⟩, hS.F ht⟩) hS.2.2 dX1_settled_47
      · refine lv_iload hx hb dX1_settled_37 (lv_at hl 0 rfl) ?_
        refine lv_istore_n (lv' := [(3, .int (nI (k + 1))), (4, .int (nI (k + 1))), (0, .ref (a 0)), (1, .int (nI j)), (2, .int (nI d))]) hx hb dX1_settled_39 rfl hl (by decide) rfl (fun ls hl => ?_)
        refine lv_iinc (v := nI k) (lv' := [(4, .int (nI k)), (3, .int (nI (k + 1))), (0, .ref (a 0)), (1, .int (nI j)), (2, .int (nI d))]) hx hb dX1_settled_40 hl (k := 1) rfl (pk_m1 k) (by decide) rfl (fun ls hl => ?_)
        refine lv_goto (tgt := 16) hx hb dX1_settled_43 (by decide) ?_
        exact ih (by omega) (k + 1) (fun e => by rw [c1 h34, set_, if_pos e]) (fun e => by rw [c1 h34, set_, if_neg e]) ls (lv_sub hl [0, 1, 2, 3, 4] rfl)
  exact loop d (Nat.le_refl _) d (fun _ => rfl) (fun e => absurd rfl e) ls (lv_sub hl [0, 1, 2, 3, 4] rfl)
set_option maxHeartbeats 4000000 in
set_option maxRecDepth 100000 in
/-- settled, refused -/
theorem kX1_settled_no (l : Launch) (dC : Nat → ClassId) (dI : Nat → Nat → Nat) (cI cZ cA : ClassId) (a : Nat → Nat) (sz : Nat) (th : Nat) (n : Nat) (wv : Nat → Int32) (lo : Nat → Int32) (cf : Nat → Nat) (tf : Nat → Nat) (vs : Nat → Int32) (nr : Nat → Nat) (x d : Int32)  (hB : Bad n x d) : Met l yX1_settled wsX1_settled ({ frames := 5, cells := 0, slots := 0, locals := 113 }) (va_Pc [.ref (a 0), .int x, .int d] (WP dC dI (GT cI cZ cA) (MW cI cZ a th n wv lo cf tf vs nr) sz)) (va_Qi (fun r (_ : Unit) => r = 0) (fun (_ : Unit) => WQ dC dI (GT cI cZ cA) (va_A (MW cI cZ a th n wv lo cf tf vs nr) sz) (MW cI cZ a 1 n wv lo cf tf vs nr)) (va_A (MW cI cZ a th n wv lo cf tf vs nr) sz)) 0 0 (va_A (MW cI cZ a th n wv lo cf tf vs nr) sz) := by
  refine Met.ofW (cc := cX1_settled) (maxL := 5) (ret := (some .int)) (by decide) rfl ?_
  intro p e s m args below meth c s₁ B hml hv
  obtain ⟨rfl, hsz, hP, hK, hD0⟩ := hv
  have hx := B.exec
  have hb := B.bytes
  have hr := B.returns
  have hts := atoms_spec (ws := wsX1_settled) B.pre
  have hown : s.vm.findClass RX1 = some m.cls := findClass_of_methodNamed B.named
  have hlocks := B.notSynchronized
  subst hsz
  have hD := hD0.self (sz := s.heap.size)
  generalize hAe : va_A (MW cI cZ a th n wv lo cf tf vs nr) s.heap.size = A at hD ⊢
  have hA : ∀ q : Nat, s.heap.size ≤ q → A q := fun q h => by rw [← hAe]; exact Or.inr h
  have hS : va_S A s.heap s.heap [] := va_S.rf
  have hP : va_P (dC, dI) vwCl (MW cI cZ a th n wv lo cf tf vs nr) s.heap := hP
  have hl := lv_entry ([.ref (a 0), .int x, .int d]) (n := 5) (Nat.le_of_ble_eq_true rfl)
  rw [lg_entry_eq]
  generalize (lg_sl ([.ref (a 0), .int x, .int d]) ++ List.replicate (5 - (lg_sl ([.ref (a 0), .int x, .int d])).length) Slot.unset).toArray = ls at hl ⊢
  have hl : lv_has ls 5 [(0, .ref (a 0)), (1, .int x), (2, .int d)] := hl
  refine lv_aload_n hx hb dX1_settled_0 rfl (lv_at hl 0 rfl) ?_
  refine lv_iload_n hx hb dX1_settled_1 rfl (lv_at hl 1 rfl) ?_
  refine lv_iload_n hx hb dX1_settled_2 rfl (lv_at hl 2 rfl) ?_
  have hF := freeAll hD hS hA
  refine va_calli (va_runV (As := [.int x, .int d]) (rest := []) ⟨hx, hb, hml, hown, hts⟩ (kX1_asked_no l dC dI cI cZ cA a s.heap.size th n wv lo cf tf vs nr x d hB) (cwV 2 hts gX1_settled_X1_asked rfl rfl rfl (by decide +kernel) ⟨Nat.le_of_ble_eq_true rfl, Nat.le_of_ble_eq_true rfl⟩) ⟨blindW, va_recv hK hP (ci := 1) (q0 := 0) rfl rfl, preW hP hK hD⟩ rfl rfl hl.1 rfl (lv_room (Nat.le_of_ble_eq_true rfl)) dX1_settled_3 ⟨Nat.zero_le _, Nat.zero_le _⟩) hS (fun q _ h => hF q h) hF (fun r_ _u tS H1 locs htS hvm hw hB hz1 hk1 hS => ?_)
  obtain rfl : r_ = 0 := hw
  obtain ⟨hP1, hK1, hD1⟩ := hB
  rw [htS] at hP1
  have hP : va_P (dC, dI) vwCl (MW cI cZ a 1 n wv lo cf tf vs nr) H1 := hP1
  have hD : va_D A (MW cI cZ a 1 n wv lo cf tf vs nr) := hD1.weaken (fun _ _ _ h => hF _ h)
  generalize H1 = H at hP hS ⊢
  refine W.eq (g2 := F0 m 6 ls [.int 0]) rfl ?_
  refine lv_if_ne (tgt := 11) hx hb dX1_settled_6 (by decide) (fun h6 => absurd rfl h6) (fun h6 => ?_)
  refine lv_iconst (v := 0) hx hb dX1_settled_9 (by decide) ?_
  exact W.iret (v := 0) hx hb hr (fun t ht hW => ⟨⟨0, (), rfl, rfl, by rw [ht]; exact hP, va_K.moved hW.alike hK, hD⟩, hS.F ht⟩) hS.2.2 dX1_settled_10
set_option maxHeartbeats 4000000 in
set_option maxRecDepth 100000 in
/-- ties -/
theorem kX1_ties (l : Launch) (dC : Nat → ClassId) (dI : Nat → Nat → Nat) (cI cZ cA : ClassId) (a : Nat → Nat) (sz : Nat) (th : Nat) (n : Nat) (wv : Nat → Int32) (lo : Nat → Int32) (cf : Nat → Nat) (tf : Nat → Nat) (vs : Nat → Int32) (nr : Nat → Nat) (j d : Nat)  (hd : d < 8) (hG : Gok n wv lo cf tf) (hj : j < n)  : Met l yX1_ties wsX1_ties ({ frames := 5, cells := 0, slots := 0, locals := 113 }) (va_Pc [.ref (a 0), .int (nI j), .int (nI d)] (WP dC dI (GT cI cZ cA) (MW cI cZ a th n wv lo cf tf vs nr) sz)) (va_Qi (fun r (vs1 : Nat → Int32) => r = nI (tie cf tf (vv wv lo cf tf) j d)) (fun vs1 => WQ dC dI (GT cI cZ cA) (va_A (MW cI cZ a th n wv lo cf tf vs nr) sz) (MW cI cZ a 0 n wv lo cf tf vs1 nr)) (va_A (MW cI cZ a th n wv lo cf tf vs nr) sz)) 0 0 (va_A (MW cI cZ a th n wv lo cf tf vs nr) sz) := by
  refine Met.ofW (cc := cX1_ties) (maxL := 5) (ret := (some .int)) (by decide) rfl ?_
  intro p e s m args below meth c s₁ B hml hv
  obtain ⟨rfl, hsz, hP, hK, hD0⟩ := hv
  have hx := B.exec
  have hb := B.bytes
  have hr := B.returns
  have hts := atoms_spec (ws := wsX1_ties) B.pre
  have hown : s.vm.findClass RX1 = some m.cls := findClass_of_methodNamed B.named
  have hlocks := B.notSynchronized
  have hf_17 := hts (.fieldLink RX1 17 "GraphSearchModel" "many" "[I") (by decide +kernel)
  have hiw : ∀ w ∈ wsX10, w ∈ wsX1_ties := by decide +kernel
  subst hsz
  have hD := hD0.self (sz := s.heap.size)
  generalize hAe : va_A (MW cI cZ a th n wv lo cf tf vs nr) s.heap.size = A at hD ⊢
  have hA : ∀ q : Nat, s.heap.size ≤ q → A q := fun q h => by rw [← hAe]; exact Or.inr h
  have hS : va_S A s.heap s.heap [] := va_S.rf
  have hP : va_P (dC, dI) vwCl (MW cI cZ a th n wv lo cf tf vs nr) s.heap := hP
  have hl := lv_entry ([.ref (a 0), .int (nI j), .int (nI d)]) (n := 5) (Nat.le_of_ble_eq_true rfl)
  rw [lg_entry_eq]
  generalize (lg_sl ([.ref (a 0), .int (nI j), .int (nI d)]) ++ List.replicate (5 - (lg_sl ([.ref (a 0), .int (nI j), .int (nI d)])).length) Slot.unset).toArray = ls at hl ⊢
  have hl : lv_has ls 5 [(0, .ref (a 0)), (1, .int (nI j)), (2, .int (nI d))] := hl
  obtain ⟨hn4, hwr, hc, htt, hlo, hz0⟩ := id hG
  have hcj := hc j hj
  refine lv_aload_n hx hb dX1_ties_0 rfl (lv_at hl 0 rfl) ?_
  refine lv_iload_n hx hb dX1_ties_1 rfl (lv_at hl 1 rfl) ?_
  refine lv_iload_n hx hb dX1_ties_2 rfl (lv_at hl 2 rfl) ?_
  have hF := freeAll hD hS hA
  refine va_calli (va_runV (As := [.int (nI j), .int (nI d)]) (rest := []) ⟨hx, hb, hml, hown, hts⟩ (kX1_asked l dC dI cI cZ cA a s.heap.size th n wv lo cf tf vs nr j d hd hG hj) (cwV 2 hts gX1_ties_X1_asked rfl rfl rfl (by decide +kernel) ⟨Nat.le_of_ble_eq_true rfl, Nat.le_of_ble_eq_true rfl⟩) ⟨blindW, va_recv hK hP (ci := 1) (q0 := 0) rfl rfl, preW hP hK hD⟩ rfl rfl hl.1 rfl (lv_room (Nat.le_of_ble_eq_true rfl)) dX1_ties_3 ⟨Nat.zero_le _, Nat.zero_le _⟩) hS (fun q _ h => hF q h) hF (fun r_ vs1 tS H1 locs htS hvm hw hB hz1 hk1 hS => ?_)
  obtain ⟨rfl, hV⟩ : r_ = 1 ∧ Vok n wv lo cf tf d vs1 := hw
  obtain ⟨hP1, hK1, hD1⟩ := hB
  rw [htS] at hP1
  have hP : va_P (dC, dI) vwCl (MW cI cZ a 0 n wv lo cf tf vs1 nr) H1 := hP1
  have hD : va_D A (MW cI cZ a 0 n wv lo cf tf vs1 nr) := hD1.weaken (fun _ _ _ h => hF _ h)
  generalize H1 = H at hP hS ⊢
  refine W.eq (g2 := F0 m 6 ls [.int 1]) rfl ?_
  refine lv_if_eq (tgt := 13) hx hb dX1_ties_6 (by decide) (fun h6 => absurd h6 (by decide)) (fun h6 => ?_)
  refine lv_iload_n hx hb dX1_ties_9 rfl (lv_at hl 2 rfl) ?_
  refine lv_if_ne (tgt := 15) hx hb dX1_ties_10 (by decide) (fun h10 => ?_) (fun h10 => ?_)
  · obtain ⟨d, rfl⟩ : ∃ k, d = k + 1 := Nat.exists_eq_succ_of_ne_zero (fun z => h10 (by rw [z]; rfl))
    refine lv_iconst (v := 0) hx hb dX1_ties_15 (by decide) ?_
    refine ga_is (y := nI 0) (rfl) ?_
    refine lv_istore_n (lv' := [(3, .int (nI 0)), (0, .ref (a 0)), (1, .int (nI j)), (2, .int (nI (d + 1)))]) hx hb dX1_ties_16 rfl hl (by decide) rfl (fun ls hl => ?_)
    refine lv_iconst (v := 0) hx hb dX1_ties_17 (by decide) ?_
    refine ga_is (y := nI 0) (rfl) ?_
    refine lv_istore (lv' := [(4, .int (nI 0)), (3, .int (nI 0)), (0, .ref (a 0)), (1, .int (nI j)), (2, .int (nI (d + 1)))]) hx hb dX1_ties_18 hl (by decide) rfl (fun ls hl => ?_)
    have loop : ∀ k i : Nat, i + k = cf j → ∀ ls : Array Slot, lv_has ls 5 [(4, .int (nI i)), (3, .int (nI (cnt_ (gv tf (vv wv lo cf tf d) j) (vv wv lo cf tf (d + 1) j) i))), (0, .ref (a 0)), (1, .int (nI j)), (2, .int (nI (d + 1)))] → W p l e (headSpec wsX1_ties (({ frames := 5, cells := 0, slots := 0, locals := 113 }) : Room)).room s m ([.ref (a 0), .int (nI j), .int (nI (d + 1))] : List Value).toArray below meth c H locs 0 0 (MQ below (va_Qi (fun r (vs1 : Nat → Int32) => r = nI (tie cf tf (vv wv lo cf tf) j (d + 1))) (fun vs1 => WQ dC dI (GT cI cZ cA) A (MW cI cZ a 0 n wv lo cf tf vs1 nr)) A) ([.ref (a 0), .int (nI j), .int (nI (d + 1))] : List Value).toArray s 0 0 A) (F0 m 20 ls []) := by
      intro k
      induction k with
      | zero =>
        intro i hi ls hl
        obtain rfl : i = cf j := by omega
        refine lv_iload hx hb dX1_ties_20 (lv_at hl 0 rfl) ?_
        refine lv_aload_n hx hb dX1_ties_22 rfl (lv_at hl 2 rfl) ?_
        refine va_get (D := (dC, dI)) (ci := 1) (v := .ref (a 3)) (C := RX1) (T := TX1) (N := 8) hx hb hts hiw hown hK hP 0 rfl rfl 4 (by decide) hf_17 (fun _ h9 => h9) rfl dX1_ties_23 ?_
        refine lv_iload_n hx hb dX1_ties_26 rfl (lv_at hl 3 rfl) ?_
        refine ga_iald hx hb hK hP 3 0 rfl rfl j (v := nI (cf j)) rfl (by omega) (by decide) dX1_ties_27 ?_
        refine lv_icmp_ge (tgt := 62) hx hb dX1_ties_28 (by decide) (fun h28 => ?_) (fun h28 => absurd (Int32.le_refl _) h28)
        refine lv_iload_n hx hb dX1_ties_62 rfl (lv_at hl 1 rfl) ?_
        exact W.iret (v := (nI (cnt_ (gv tf (vv wv lo cf tf d) j) (vv wv lo cf tf (d + 1) j) (cf j)))) hx hb hr (fun t ht hW => ⟨⟨(nI (cnt_ (gv tf (vv wv lo cf tf d) j) (vv wv lo cf tf (d + 1) j) (cf j))), vs1, rfl, rfl, by rw [ht]; exact hP, va_K.moved hW.alike hK, hD⟩, hS.F ht⟩) hS.2.2 dX1_ties_63
      | succ k ih =>
        intro i hi ls hl
        refine lv_iload hx hb dX1_ties_20 (lv_at hl 0 rfl) ?_
        refine lv_aload_n hx hb dX1_ties_22 rfl (lv_at hl 2 rfl) ?_
        refine va_get (D := (dC, dI)) (ci := 1) (v := .ref (a 3)) (C := RX1) (T := TX1) (N := 8) hx hb hts hiw hown hK hP 0 rfl rfl 4 (by decide) hf_17 (fun _ h9 => h9) rfl dX1_ties_23 ?_
        refine lv_iload_n hx hb dX1_ties_26 rfl (lv_at hl 3 rfl) ?_
        refine ga_iald hx hb hK hP 3 0 rfl rfl j (v := nI (cf j)) rfl (by omega) (by decide) dX1_ties_27 ?_
        refine lv_icmp_ge (tgt := 62) hx hb dX1_ties_28 (by decide) (fun h28 => absurd h28 (nI_ge (by omega) (by omega))) (fun h28 => ?_)
        refine lv_iload_n hx hb dX1_ties_31 rfl (lv_at hl 1 rfl) ?_
        refine lv_aload_n hx hb dX1_ties_32 rfl (lv_at hl 2 rfl) ?_
        refine lv_iload_n hx hb dX1_ties_33 rfl (lv_at hl 3 rfl) ?_
        refine lv_iload hx hb dX1_ties_34 (lv_at hl 0 rfl) ?_
        refine lv_iload_n hx hb dX1_ties_36 rfl (lv_at hl 4 rfl) ?_
        refine W.callR (r := gv tf (fun y => vs1 (400 * d + y)) j i) (W.runV (As := [.int (nI j), .int (nI i), .int (nI (d + 1))]) (rest := [.int (nI (cnt_ (gv tf (vv wv lo cf tf d) j) (vv wv lo cf tf (d + 1) j) i))]) ⟨hx, hb, hml, hown, hts⟩ (kX1_given l dC dI cI cZ cA a 0 n wv lo cf tf vs1 nr j i d (by omega) (by omega) (by have := htt j hj i (by omega); omega)) (cwV 3 hts gX1_ties_X1_given rfl rfl rfl (by decide +kernel) ⟨Nat.le_of_ble_eq_true rfl, Nat.le_of_ble_eq_true rfl⟩) ⟨blindR, va_recv hK hP (ci := 1) (q0 := 0) rfl rfl, preR hP hK⟩ rfl rfl hl.1 rfl (lv_room (Nat.le_of_ble_eq_true rfl)) dX1_ties_37 ⟨Nat.zero_le _, Nat.zero_le _⟩) ?_
        refine W.eq (g2 := F0 m 40 ls [.int (gv tf (fun y => vs1 (400 * d + y)) j i), .int (nI (cnt_ (gv tf (vv wv lo cf tf d) j) (vv wv lo cf tf (d + 1) j) i))]) rfl ?_
        refine ga_is (y := gv tf (vv wv lo cf tf d) j i) (gv_congr (hV d (by omega) _ (htt j hj i (by omega)))) ?_
        refine lv_aload_n hx hb dX1_ties_40 rfl (lv_at hl 2 rfl) ?_
        refine lv_iload_n hx hb dX1_ties_41 rfl (lv_at hl 3 rfl) ?_
        refine lv_iload_n hx hb dX1_ties_42 rfl (lv_at hl 4 rfl) ?_
        refine W.callR (r := vs1 (400 * (d + 1) + j)) (W.runV (As := [.int (nI j), .int (nI (d + 1))]) (rest := [.int (gv tf (vv wv lo cf tf d) j i), .int (nI (cnt_ (gv tf (vv wv lo cf tf d) j) (vv wv lo cf tf (d + 1) j) i))]) ⟨hx, hb, hml, hown, hts⟩ (kX1_valueOf l dC dI cI cZ cA a 0 n wv lo cf tf vs1 nr j (d + 1) hd (by omega)) (cwV 2 hts gX1_ties_X1_valueOf rfl rfl rfl (by decide +kernel) ⟨Nat.le_of_ble_eq_true rfl, Nat.le_of_ble_eq_true rfl⟩) ⟨blindR, va_recv hK hP (ci := 1) (q0 := 0) rfl rfl, preR hP hK⟩ rfl rfl hl.1 rfl (lv_room (Nat.le_of_ble_eq_true rfl)) dX1_ties_43 ⟨Nat.zero_le _, Nat.zero_le _⟩) ?_
        refine W.eq (g2 := F0 m 46 ls [.int (vs1 (400 * (d + 1) + j)), .int (gv tf (vv wv lo cf tf d) j i), .int (nI (cnt_ (gv tf (vv wv lo cf tf d) j) (vv wv lo cf tf (d + 1) j) i))]) rfl ?_
        refine ga_is (y := vv wv lo cf tf (d + 1) j) (hV _ (Nat.le_refl _) j hj) ?_
        refine lv_icmp_ne (tgt := 53) hx hb dX1_ties_46 (by decide) (fun h46 => ?_) (fun h46 => ?_)
        · refine lv_iconst (v := 0) hx hb dX1_ties_53 (by decide) ?_
          refine lv_iadd hx hb dX1_ties_54 ?_
          refine ga_is (y := nI (cnt_ (gv tf (vv wv lo cf tf d) j) (vv wv lo cf tf (d + 1) j) (i + 1))) (by rw [cnt_, if_neg h46]; exact nI_add _ 0) ?_
          refine lv_istore_n (lv' := [(3, .int (nI (cnt_ (gv tf (vv wv lo cf tf d) j) (vv wv lo cf tf (d + 1) j) (i + 1)))), (4, .int (nI i)), (0, .ref (a 0)), (1, .int (nI j)), (2, .int (nI (d + 1)))]) hx hb dX1_ties_55 rfl hl (by decide) rfl (fun ls hl => ?_)
          refine lv_iinc (v := nI (i + 1)) (lv' := [(4, .int (nI (i + 1))), (3, .int (nI (cnt_ (gv tf (vv wv lo cf tf d) j) (vv wv lo cf tf (d + 1) j) (i + 1)))), (0, .ref (a 0)), (1, .int (nI j)), (2, .int (nI (d + 1)))]) hx hb dX1_ties_56 hl (k := 1) rfl (nI_1 i) (by decide) rfl (fun ls hl => ?_)
          refine lv_goto (tgt := 20) hx hb dX1_ties_59 (by decide) ?_
          exact ih (i + 1) (by omega) ls (lv_sub hl [0, 1, 2, 3, 4] rfl)
        · refine lv_iconst (v := 1) hx hb dX1_ties_49 (by decide) ?_
          refine lv_goto (tgt := 54) hx hb dX1_ties_50 (by decide) ?_
          refine lv_iadd hx hb dX1_ties_54 ?_
          refine ga_is (y := nI (cnt_ (gv tf (vv wv lo cf tf d) j) (vv wv lo cf tf (d + 1) j) (i + 1))) (by rw [cnt_, if_pos h46]; exact nI_1 _) ?_
          refine lv_istore_n (lv' := [(3, .int (nI (cnt_ (gv tf (vv wv lo cf tf d) j) (vv wv lo cf tf (d + 1) j) (i + 1)))), (4, .int (nI i)), (0, .ref (a 0)), (1, .int (nI j)), (2, .int (nI (d + 1)))]) hx hb dX1_ties_55 rfl hl (by decide) rfl (fun ls hl => ?_)
          refine lv_iinc (v := nI (i + 1)) (lv' := [(4, .int (nI (i + 1))), (3, .int (nI (cnt_ (gv tf (vv wv lo cf tf d) j) (vv wv lo cf tf (d + 1) j) (i + 1)))), (0, .ref (a 0)), (1, .int (nI j)), (2, .int (nI (d + 1)))]) hx hb dX1_ties_56 hl (k := 1) rfl (nI_1 i) (by decide) rfl (fun ls hl => ?_)
          refine lv_goto (tgt := 20) hx hb dX1_ties_59 (by decide) ?_
          exact ih (i + 1) (by omega) ls (lv_sub hl [0, 1, 2, 3, 4] rfl)
    exact loop (cf j) 0 (by omega) ls (lv_sub hl [0, 1, 2, 3, 4] rfl)
  · refine lv_iconst (v := 0) hx hb dX1_ties_13 (by decide) ?_
    obtain rfl : d = 0 := (nI_eq (by omega) (by decide)).mp h10
    exact W.iret (v := 0) hx hb hr (fun t ht hW => ⟨⟨0, vs1, rfl, rfl, by rw [ht]; exact hP, va_K.moved hW.alike hK, hD⟩, hS.F ht⟩) hS.2.2 dX1_ties_14
set_option maxHeartbeats 4000000 in
set_option maxRecDepth 100000 in
/-- ties, refused -/
theorem kX1_ties_no (l : Launch) (dC : Nat → ClassId) (dI : Nat → Nat → Nat) (cI cZ cA : ClassId) (a : Nat → Nat) (sz : Nat) (th : Nat) (n : Nat) (wv : Nat → Int32) (lo : Nat → Int32) (cf : Nat → Nat) (tf : Nat → Nat) (vs : Nat → Int32) (nr : Nat → Nat) (x d : Int32)  (hB : Bad n x d) : Met l yX1_ties wsX1_ties ({ frames := 5, cells := 0, slots := 0, locals := 113 }) (va_Pc [.ref (a 0), .int x, .int d] (WP dC dI (GT cI cZ cA) (MW cI cZ a th n wv lo cf tf vs nr) sz)) (va_Qi (fun r (_ : Unit) => r = 0) (fun (_ : Unit) => WQ dC dI (GT cI cZ cA) (va_A (MW cI cZ a th n wv lo cf tf vs nr) sz) (MW cI cZ a 1 n wv lo cf tf vs nr)) (va_A (MW cI cZ a th n wv lo cf tf vs nr) sz)) 0 0 (va_A (MW cI cZ a th n wv lo cf tf vs nr) sz) := by
  refine Met.ofW (cc := cX1_ties) (maxL := 5) (ret := (some .int)) (by decide) rfl ?_
  intro p e s m args below meth c s₁ B hml hv
  obtain ⟨rfl, hsz, hP, hK, hD0⟩ := hv
  have hx := B.exec
  have hb := B.bytes
  have hr := B.returns
  have hts := atoms_spec (ws := wsX1_ties) B.pre
  have hown : s.vm.findClass RX1 = some m.cls := findClass_of_methodNamed B.named
  have hlocks := B.notSynchronized
  have hf_17 := hts (.fieldLink RX1 17 "GraphSearchModel" "many" "[I") (by decide +kernel)
  have hiw : ∀ w ∈ wsX10, w ∈ wsX1_ties := by decide +kernel
  subst hsz
  have hD := hD0.self (sz := s.heap.size)
  generalize hAe : va_A (MW cI cZ a th n wv lo cf tf vs nr) s.heap.size = A at hD ⊢
  have hA : ∀ q : Nat, s.heap.size ≤ q → A q := fun q h => by rw [← hAe]; exact Or.inr h
  have hS : va_S A s.heap s.heap [] := va_S.rf
  have hP : va_P (dC, dI) vwCl (MW cI cZ a th n wv lo cf tf vs nr) s.heap := hP
  have hl := lv_entry ([.ref (a 0), .int x, .int d]) (n := 5) (Nat.le_of_ble_eq_true rfl)
  rw [lg_entry_eq]
  generalize (lg_sl ([.ref (a 0), .int x, .int d]) ++ List.replicate (5 - (lg_sl ([.ref (a 0), .int x, .int d])).length) Slot.unset).toArray = ls at hl ⊢
  have hl : lv_has ls 5 [(0, .ref (a 0)), (1, .int x), (2, .int d)] := hl
  refine lv_aload_n hx hb dX1_ties_0 rfl (lv_at hl 0 rfl) ?_
  refine lv_iload_n hx hb dX1_ties_1 rfl (lv_at hl 1 rfl) ?_
  refine lv_iload_n hx hb dX1_ties_2 rfl (lv_at hl 2 rfl) ?_
  have hF := freeAll hD hS hA
  refine va_calli (va_runV (As := [.int x, .int d]) (rest := []) ⟨hx, hb, hml, hown, hts⟩ (kX1_asked_no l dC dI cI cZ cA a s.heap.size th n wv lo cf tf vs nr x d hB) (cwV 2 hts gX1_ties_X1_asked rfl rfl rfl (by decide +kernel) ⟨Nat.le_of_ble_eq_true rfl, Nat.le_of_ble_eq_true rfl⟩) ⟨blindW, va_recv hK hP (ci := 1) (q0 := 0) rfl rfl, preW hP hK hD⟩ rfl rfl hl.1 rfl (lv_room (Nat.le_of_ble_eq_true rfl)) dX1_ties_3 ⟨Nat.zero_le _, Nat.zero_le _⟩) hS (fun q _ h => hF q h) hF (fun r_ _u tS H1 locs htS hvm hw hB hz1 hk1 hS => ?_)
  obtain rfl : r_ = 0 := hw
  obtain ⟨hP1, hK1, hD1⟩ := hB
  rw [htS] at hP1
  have hP : va_P (dC, dI) vwCl (MW cI cZ a 1 n wv lo cf tf vs nr) H1 := hP1
  have hD : va_D A (MW cI cZ a 1 n wv lo cf tf vs nr) := hD1.weaken (fun _ _ _ h => hF _ h)
  generalize H1 = H at hP hS ⊢
  refine W.eq (g2 := F0 m 6 ls [.int 0]) rfl ?_
  refine lv_if_eq (tgt := 13) hx hb dX1_ties_6 (by decide) (fun h6 => ?_) (fun h6 => absurd rfl h6)
  refine lv_iconst (v := 0) hx hb dX1_ties_13 (by decide) ?_
  exact W.iret (v := 0) hx hb hr (fun t ht hW => ⟨⟨0, (), rfl, rfl, by rw [ht]; exact hP, va_K.moved hW.alike hK, hD⟩, hS.F ht⟩) hS.2.2 dX1_ties_14
set_option maxHeartbeats 4000000 in
set_option maxRecDepth 100000 in
/-- line -/
theorem kX1_line_neg (l : Launch) (dC : Nat → ClassId) (dI : Nat → Nat → Nat) (cI cZ cA : ClassId) (a : Nat → Nat) (sz : Nat) (th : Nat) (n : Nat) (wv : Nat → Int32) (lo : Nat → Int32) (cf : Nat → Nat) (tf : Nat → Nat) (vs : Nat → Int32) (nr : Nat → Nat) (j d : Nat) (i : Int32) (hd : d < 8) (hG : Gok n wv lo cf tf) (hj : j < n) (hi : i < 0) : Met l yX1_line wsX1_line ({ frames := 5, cells := 0, slots := 0, locals := 113 }) (va_Pc [.ref (a 0), .int (nI j), .int (nI d), .int i] (WP dC dI (GT cI cZ cA) (MW cI cZ a th n wv lo cf tf vs nr) sz)) (va_Qi (fun r (vs1 : Nat → Int32) => r = (-1)) (fun vs1 => WQ dC dI (GT cI cZ cA) (va_A (MW cI cZ a th n wv lo cf tf vs nr) sz) (MW cI cZ a 0 n wv lo cf tf vs1 nr)) (va_A (MW cI cZ a th n wv lo cf tf vs nr) sz)) 0 0 (va_A (MW cI cZ a th n wv lo cf tf vs nr) sz) := by
  refine Met.ofW (cc := cX1_line) (maxL := 7) (ret := (some .int)) (by decide) rfl ?_
  intro p e s m args below meth c s₁ B hml hv
  obtain ⟨rfl, hsz, hP, hK, hD0⟩ := hv
  have hx := B.exec
  have hb := B.bytes
  have hr := B.returns
  have hts := atoms_spec (ws := wsX1_line) B.pre
  have hown : s.vm.findClass RX1 = some m.cls := findClass_of_methodNamed B.named
  have hlocks := B.notSynchronized
  have hf_20 := hts (.fieldLink RX1 20 "GraphSearchModel" "to" "[I") (by decide +kernel)
  have hiw : ∀ w ∈ wsX10, w ∈ wsX1_line := by decide +kernel
  subst hsz
  have hD := hD0.self (sz := s.heap.size)
  generalize hAe : va_A (MW cI cZ a th n wv lo cf tf vs nr) s.heap.size = A at hD ⊢
  have hA : ∀ q : Nat, s.heap.size ≤ q → A q := fun q h => by rw [← hAe]; exact Or.inr h
  have hS : va_S A s.heap s.heap [] := va_S.rf
  have hP : va_P (dC, dI) vwCl (MW cI cZ a th n wv lo cf tf vs nr) s.heap := hP
  have hl := lv_entry ([.ref (a 0), .int (nI j), .int (nI d), .int i]) (n := 7) (Nat.le_of_ble_eq_true rfl)
  rw [lg_entry_eq]
  generalize (lg_sl ([.ref (a 0), .int (nI j), .int (nI d), .int i]) ++ List.replicate (7 - (lg_sl ([.ref (a 0), .int (nI j), .int (nI d), .int i])).length) Slot.unset).toArray = ls at hl ⊢
  have hl : lv_has ls 7 [(0, .ref (a 0)), (1, .int (nI j)), (2, .int (nI d)), (3, .int i)] := hl
  obtain ⟨hn4, hwr, hc, htt, hlo, hz0⟩ := id hG
  have hcj := hc j hj
  refine lv_aload_n hx hb dX1_line_0 rfl (lv_at hl 0 rfl) ?_
  refine lv_iload_n hx hb dX1_line_1 rfl (lv_at hl 1 rfl) ?_
  refine lv_iload_n hx hb dX1_line_2 rfl (lv_at hl 2 rfl) ?_
  have hF := freeAll hD hS hA
  refine va_calli (va_runV (As := [.int (nI j), .int (nI d)]) (rest := []) ⟨hx, hb, hml, hown, hts⟩ (kX1_asked l dC dI cI cZ cA a s.heap.size th n wv lo cf tf vs nr j d hd hG hj) (cwV 2 hts gX1_line_X1_asked rfl rfl rfl (by decide +kernel) ⟨Nat.le_of_ble_eq_true rfl, Nat.le_of_ble_eq_true rfl⟩) ⟨blindW, va_recv hK hP (ci := 1) (q0 := 0) rfl rfl, preW hP hK hD⟩ rfl rfl hl.1 rfl (lv_room (Nat.le_of_ble_eq_true rfl)) dX1_line_3 ⟨Nat.zero_le _, Nat.zero_le _⟩) hS (fun q _ h => hF q h) hF (fun r_ vs1 tS H1 locs htS hvm hw hB hz1 hk1 hS => ?_)
  obtain ⟨rfl, hV⟩ : r_ = 1 ∧ Vok n wv lo cf tf d vs1 := hw
  obtain ⟨hP1, hK1, hD1⟩ := hB
  rw [htS] at hP1
  have hP : va_P (dC, dI) vwCl (MW cI cZ a 0 n wv lo cf tf vs1 nr) H1 := hP1
  have hD : va_D A (MW cI cZ a 0 n wv lo cf tf vs1 nr) := hD1.weaken (fun _ _ _ h => hF _ h)
  generalize H1 = H at hP hS ⊢
  refine W.eq (g2 := F0 m 6 ls [.int 1]) rfl ?_
  refine lv_if_ne (tgt := 11) hx hb dX1_line_6 (by decide) (fun h6 => ?_) (fun h6 => absurd h6 (by decide))
  refine lv_iload_n hx hb dX1_line_11 rfl (lv_at hl 3 rfl) ?_
  refine lv_if_ge (tgt := 19) hx hb dX1_line_12 (by decide) (fun h12 => absurd h12 (fun q => by rw [Int32.lt_iff_toInt_lt] at hi; rw [Int32.le_iff_toInt_le] at q; omega)) (fun h12 => ?_)
  refine lv_iconst (v := (-1)) hx hb dX1_line_15 (by decide) ?_
  refine lv_goto (tgt := 20) hx hb dX1_line_16 (by decide) ?_
  refine lv_istore (lv' := [(4, .int (-1)), (0, .ref (a 0)), (1, .int (nI j)), (2, .int (nI d)), (3, .int i)]) hx hb dX1_line_20 hl (by decide) rfl (fun ls hl => ?_)
  refine lv_iconst (v := 0) hx hb dX1_line_22 (by decide) ?_
  refine lv_istore (lv' := [(5, .int 0), (4, .int (-1)), (0, .ref (a 0)), (1, .int (nI j)), (2, .int (nI d)), (3, .int i)]) hx hb dX1_line_23 hl (by decide) rfl (fun ls hl => ?_)
  refine lv_iload hx hb dX1_line_25 (lv_at hl 0 rfl) ?_
  refine lv_iload_n hx hb dX1_line_27 rfl (lv_at hl 5 rfl) ?_
  refine lv_icmp_ge (tgt := 88) hx hb dX1_line_28 (by decide) (fun h28 => ?_) (fun h28 => absurd (by rw [Int32.lt_iff_toInt_lt] at hi; rw [Int32.le_iff_toInt_le]; omega) h28)
  refine lv_iload hx hb dX1_line_88 (lv_at hl 1 rfl) ?_
  exact W.iret (v := (-1)) hx hb hr (fun t ht hW => ⟨⟨(-1), vs1, rfl, rfl, by rw [ht]; exact hP, va_K.moved hW.alike hK, hD⟩, hS.F ht⟩) hS.2.2 dX1_line_90
set_option maxHeartbeats 4000000 in
set_option maxRecDepth 100000 in
/-- line -/
theorem kX1_line (l : Launch) (dC : Nat → ClassId) (dI : Nat → Nat → Nat) (cI cZ cA : ClassId) (a : Nat → Nat) (sz : Nat) (th : Nat) (n : Nat) (wv : Nat → Int32) (lo : Nat → Int32) (cf : Nat → Nat) (tf : Nat → Nat) (vs : Nat → Int32) (nr : Nat → Nat) (j d : Nat) (i : Nat) (hd : d < 8) (hG : Gok n wv lo cf tf) (hj : j < n) (hi : i < 2 ^ 31) : Met l yX1_line wsX1_line ({ frames := 5, cells := 0, slots := 0, locals := 113 }) (va_Pc [.ref (a 0), .int (nI j), .int (nI d), .int (nI i)] (WP dC dI (GT cI cZ cA) (MW cI cZ a th n wv lo cf tf vs nr) sz)) (va_Qi (fun r (vs1 : Nat → Int32) => r = lin cf tf (vv wv lo cf tf) i j d) (fun vs1 => WQ dC dI (GT cI cZ cA) (va_A (MW cI cZ a th n wv lo cf tf vs nr) sz) (MW cI cZ a 0 n wv lo cf tf vs1 nr)) (va_A (MW cI cZ a th n wv lo cf tf vs nr) sz)) 0 0 (va_A (MW cI cZ a th n wv lo cf tf vs nr) sz) := by
  refine Met.ofW (cc := cX1_line) (maxL := 7) (ret := (some .int)) (by decide) rfl ?_
  intro p e s m args below meth c s₁ B hml hv
  obtain ⟨rfl, hsz, hP, hK, hD0⟩ := hv
  have hx := B.exec
  have hb := B.bytes
  have hr := B.returns
  have hts := atoms_spec (ws := wsX1_line) B.pre
  have hown : s.vm.findClass RX1 = some m.cls := findClass_of_methodNamed B.named
  have hlocks := B.notSynchronized
  have hf_20 := hts (.fieldLink RX1 20 "GraphSearchModel" "to" "[I") (by decide +kernel)
  have hiw : ∀ w ∈ wsX10, w ∈ wsX1_line := by decide +kernel
  subst hsz
  have hD := hD0.self (sz := s.heap.size)
  generalize hAe : va_A (MW cI cZ a th n wv lo cf tf vs nr) s.heap.size = A at hD ⊢
  have hA : ∀ q : Nat, s.heap.size ≤ q → A q := fun q h => by rw [← hAe]; exact Or.inr h
  have hS : va_S A s.heap s.heap [] := va_S.rf
  have hP : va_P (dC, dI) vwCl (MW cI cZ a th n wv lo cf tf vs nr) s.heap := hP
  have hl := lv_entry ([.ref (a 0), .int (nI j), .int (nI d), .int (nI i)]) (n := 7) (Nat.le_of_ble_eq_true rfl)
  rw [lg_entry_eq]
  generalize (lg_sl ([.ref (a 0), .int (nI j), .int (nI d), .int (nI i)]) ++ List.replicate (7 - (lg_sl ([.ref (a 0), .int (nI j), .int (nI d), .int (nI i)])).length) Slot.unset).toArray = ls at hl ⊢
  have hl : lv_has ls 7 [(0, .ref (a 0)), (1, .int (nI j)), (2, .int (nI d)), (3, .int (nI i))] := hl
  obtain ⟨hn4, hwr, hc, htt, hlo, hz0⟩ := id hG
  have hcj := hc j hj
  refine lv_aload_n hx hb dX1_line_0 rfl (lv_at hl 0 rfl) ?_
  refine lv_iload_n hx hb dX1_line_1 rfl (lv_at hl 1 rfl) ?_
  refine lv_iload_n hx hb dX1_line_2 rfl (lv_at hl 2 rfl) ?_
  have hF := freeAll hD hS hA
  refine va_calli (va_runV (As := [.int (nI j), .int (nI d)]) (rest := []) ⟨hx, hb, hml, hown, hts⟩ (kX1_asked l dC dI cI cZ cA a s.heap.size th n wv lo cf tf vs nr j d hd hG hj) (cwV 2 hts gX1_line_X1_asked rfl rfl rfl (by decide +kernel) ⟨Nat.le_of_ble_eq_true rfl, Nat.le_of_ble_eq_true rfl⟩) ⟨blindW, va_recv hK hP (ci := 1) (q0 := 0) rfl rfl, preW hP hK hD⟩ rfl rfl hl.1 rfl (lv_room (Nat.le_of_ble_eq_true rfl)) dX1_line_3 ⟨Nat.zero_le _, Nat.zero_le _⟩) hS (fun q _ h => hF q h) hF (fun r_ vs1 tS H1 locs htS hvm hw hB hz1 hk1 hS => ?_)
  obtain ⟨rfl, hV⟩ : r_ = 1 ∧ Vok n wv lo cf tf d vs1 := hw
  obtain ⟨hP1, hK1, hD1⟩ := hB
  rw [htS] at hP1
  have hP : va_P (dC, dI) vwCl (MW cI cZ a 0 n wv lo cf tf vs1 nr) H1 := hP1
  have hD : va_D A (MW cI cZ a 0 n wv lo cf tf vs1 nr) := hD1.weaken (fun _ _ _ h => hF _ h)
  generalize H1 = H at hP hS ⊢
  refine W.eq (g2 := F0 m 6 ls [.int 1]) rfl ?_
  refine lv_if_ne (tgt := 11) hx hb dX1_line_6 (by decide) (fun h6 => ?_) (fun h6 => absurd h6 (by decide))
  refine lv_iload_n hx hb dX1_line_11 rfl (lv_at hl 3 rfl) ?_
  refine lv_if_ge (tgt := 19) hx hb dX1_line_12 (by decide) (fun h12 => ?_) (fun h12 => absurd (nI_pos' hi) h12)
  refine lv_iload_n hx hb dX1_line_19 rfl (lv_at hl 1 rfl) ?_
  refine lv_istore (lv' := [(4, .int (nI j)), (0, .ref (a 0)), (1, .int (nI j)), (2, .int (nI d)), (3, .int (nI i))]) hx hb dX1_line_20 hl (by decide) rfl (fun ls hl => ?_)
  refine lv_iconst (v := 0) hx hb dX1_line_22 (by decide) ?_
  refine ga_is (y := nI 0) (rfl) ?_
  refine lv_istore (lv' := [(5, .int (nI 0)), (4, .int (nI j)), (0, .ref (a 0)), (1, .int (nI j)), (2, .int (nI d)), (3, .int (nI i))]) hx hb dX1_line_23 hl (by decide) rfl (fun ls hl => ?_)
  have done : lin cf tf (vv wv lo cf tf) i j d = (-1) → ∀ (t : Nat) (e6 : Int32), t ≤ i → ∀ ls : Array Slot, lv_has ls 7 [(5, .int (nI t)), (4, .int (-1)), (6, .int e6), (0, .ref (a 0)), (1, .int (nI j)), (2, .int (nI d)), (3, .int (nI i))] → W p l e (headSpec wsX1_line (({ frames := 5, cells := 0, slots := 0, locals := 113 }) : Room)).room s m ([.ref (a 0), .int (nI j), .int (nI d), .int (nI i)] : List Value).toArray below meth c H locs 0 0 (MQ below (va_Qi (fun r (vs1 : Nat → Int32) => r = lin cf tf (vv wv lo cf tf) i j d) (fun vs1 => WQ dC dI (GT cI cZ cA) A (MW cI cZ a 0 n wv lo cf tf vs1 nr)) A) ([.ref (a 0), .int (nI j), .int (nI d), .int (nI i)] : List Value).toArray s 0 0 A) (F0 m 25 ls []) := by
    intro hR t e6 hti ls hl
    refine lv_iload hx hb dX1_line_25 (lv_at hl 0 rfl) ?_
    refine lv_iload_n hx hb dX1_line_27 rfl (lv_at hl 6 rfl) ?_
    refine lv_icmp_ge (tgt := 88) hx hb dX1_line_28 (by decide) (fun h28 => ?_) (fun h28 => ?_)
    · refine lv_iload hx hb dX1_line_88 (lv_at hl 1 rfl) ?_
      exact W.iret (v := (-1)) hx hb hr (fun t ht hW => ⟨⟨(-1), vs1, rfl, hR.symm, by rw [ht]; exact hP, va_K.moved hW.alike hK, hD⟩, hS.F ht⟩) hS.2.2 dX1_line_90
    · refine lv_iload hx hb dX1_line_31 (lv_at hl 1 rfl) ?_
      refine lv_if_lt (tgt := 88) hx hb dX1_line_33 (by decide) (fun h33 => ?_) (fun h33 => absurd (show (-1 : Int32) < 0 by decide) h33)
      refine lv_iload hx hb dX1_line_88 (lv_at hl 1 rfl) ?_
      exact W.iret (v := (-1)) hx hb hr (fun t ht hW => ⟨⟨(-1), vs1, rfl, hR.symm, by rw [ht]; exact hP, va_K.moved hW.alike hK, hD⟩, hS.F ht⟩) hS.2.2 dX1_line_90
  have loop : ∀ k t x : Nat, t + k = i → x < n → lin cf tf (vv wv lo cf tf) k x (d - t) = lin cf tf (vv wv lo cf tf) i j d → ∀ ls : Array Slot, lv_has ls 7 [(5, .int (nI t)), (4, .int (nI x)), (0, .ref (a 0)), (1, .int (nI j)), (2, .int (nI d)), (3, .int (nI i))] → W p l e (headSpec wsX1_line (({ frames := 5, cells := 0, slots := 0, locals := 113 }) : Room)).room s m ([.ref (a 0), .int (nI j), .int (nI d), .int (nI i)] : List Value).toArray below meth c H locs 0 0 (MQ below (va_Qi (fun r (vs1 : Nat → Int32) => r = lin cf tf (vv wv lo cf tf) i j d) (fun vs1 => WQ dC dI (GT cI cZ cA) A (MW cI cZ a 0 n wv lo cf tf vs1 nr)) A) ([.ref (a 0), .int (nI j), .int (nI d), .int (nI i)] : List Value).toArray s 0 0 A) (F0 m 25 ls []) := by
    intro k
    induction k with
    | zero =>
      intro t x ht hxn he ls hl
      obtain rfl : i = t := by omega
      refine lv_iload hx hb dX1_line_25 (lv_at hl 0 rfl) ?_
      refine lv_iload_n hx hb dX1_line_27 rfl (lv_at hl 5 rfl) ?_
      refine lv_icmp_ge (tgt := 88) hx hb dX1_line_28 (by decide) (fun h28 => ?_) (fun h28 => absurd (Int32.le_refl _) h28)
      refine lv_iload hx hb dX1_line_88 (lv_at hl 1 rfl) ?_
      exact W.iret (v := (nI x)) hx hb hr (fun t ht hW => ⟨⟨(nI x), vs1, rfl, by rw [← he]; rfl, by rw [ht]; exact hP, va_K.moved hW.alike hK, hD⟩, hS.F ht⟩) hS.2.2 dX1_line_90
    | succ k ih =>
      intro t x ht hxn he ls hl
      have hcx := hc x hxn
      refine lv_iload hx hb dX1_line_25 (lv_at hl 0 rfl) ?_
      refine lv_iload_n hx hb dX1_line_27 rfl (lv_at hl 5 rfl) ?_
      refine lv_icmp_ge (tgt := 88) hx hb dX1_line_28 (by decide) (fun h28 => absurd h28 (nI_ge (by omega) (by omega))) (fun h28 => ?_)
      refine lv_iload hx hb dX1_line_31 (lv_at hl 1 rfl) ?_
      refine lv_if_lt (tgt := 88) hx hb dX1_line_33 (by decide) (fun h33 => absurd h33 (nI_pos (by omega))) (fun h33 => ?_)
      refine lv_iload hx hb dX1_line_36 (lv_at hl 0 rfl) ?_
      refine lv_iload_n hx hb dX1_line_38 rfl (lv_at hl 4 rfl) ?_
      refine lv_icmp_ge (tgt := 55) hx hb dX1_line_39 (by decide) (fun h39 => ?_) (fun h39 => ?_)
      · have hdt : d - t = 0 := by rcases Nat.lt_or_ge t d with z | z; exact absurd h39 (nI_ge z (by omega)); omega
        have hbm : bm cf tf (vv wv lo cf tf) x (d - t) = (-1) := by rw [hdt]; rfl
        refine lv_iconst (v := (-1)) hx hb dX1_line_55 (by decide) ?_
        refine lv_istore (lv' := [(6, .int (-1)), (5, .int (nI t)), (4, .int (nI x)), (0, .ref (a 0)), (1, .int (nI j)), (2, .int (nI d)), (3, .int (nI i))]) hx hb dX1_line_56 hl (by decide) rfl (fun ls hl => ?_)
        refine lv_iload hx hb dX1_line_58 (lv_at hl 0 rfl) ?_
        refine lv_if_ge (tgt := 67) hx hb dX1_line_60 (by decide) (fun h60 => absurd h60 (show ¬ (0 : Int32) ≤ (-1) by decide)) (fun h60 => ?_)
        refine lv_iconst (v := (-1)) hx hb dX1_line_63 (by decide) ?_
        refine lv_goto (tgt := 80) hx hb dX1_line_64 (by decide) ?_
        refine lv_istore (lv' := [(4, .int (-1)), (6, .int (-1)), (5, .int (nI t)), (0, .ref (a 0)), (1, .int (nI j)), (2, .int (nI d)), (3, .int (nI i))]) hx hb dX1_line_80 hl (by decide) rfl (fun ls hl => ?_)
        refine lv_iinc (v := nI (t + 1)) (lv' := [(5, .int (nI (t + 1))), (4, .int (-1)), (6, .int (-1)), (0, .ref (a 0)), (1, .int (nI j)), (2, .int (nI d)), (3, .int (nI i))]) hx hb dX1_line_82 hl (k := 2) rfl (nI_1 t) (by decide) rfl (fun ls hl => ?_)
        refine lv_goto (tgt := 25) hx hb dX1_line_85 (by decide) ?_
        exact done (by rw [← he, lin, if_pos hbm]) (t + 1) _ (by omega) ls (lv_sub hl [0, 1, 2, 3, 4, 5, 6] rfl)
      · have htd : t < d := by rcases Nat.lt_or_ge t d with z | z; exact z; exact absurd (nI_le z (by omega)) h39
        refine lv_aload_n hx hb dX1_line_42 rfl (lv_at hl 2 rfl) ?_
        refine lv_iload hx hb dX1_line_43 (lv_at hl 1 rfl) ?_
        refine lv_iload_n hx hb dX1_line_45 rfl (lv_at hl 4 rfl) ?_
        refine lv_iload hx hb dX1_line_46 (lv_at hl 0 rfl) ?_
        refine lv_isub hx hb dX1_line_48 ?_
        refine ga_is (y := nI (d - t)) (pk_sub (by omega)) ?_
        refine W.callR (r := bm cf tf (rw_ vs1) x (d - t)) (W.runV (As := [.int (nI x), .int (nI (d - t))]) (rest := []) ⟨hx, hb, hml, hown, hts⟩ (kX1_bestOf l dC dI cI cZ cA a 0 n wv lo cf tf vs1 nr x (d - t) (by omega) (by omega) hcx (fun i hi => by have := htt x hxn i hi; omega)) (cwV 2 hts gX1_line_X1_bestOf rfl rfl rfl (by decide +kernel) ⟨Nat.le_of_ble_eq_true rfl, Nat.le_of_ble_eq_true rfl⟩) ⟨blindR, va_recv hK hP (ci := 1) (q0 := 0) rfl rfl, preR hP hK⟩ rfl rfl hl.1 rfl (lv_room (Nat.le_of_ble_eq_true rfl)) dX1_line_49 ⟨Nat.zero_le _, Nat.zero_le _⟩) ?_
        refine W.eq (g2 := F0 m 52 ls [.int (bm cf tf (rw_ vs1) x (d - t))]) rfl ?_
        refine ga_is (y := bm cf tf (vv wv lo cf tf) x (d - t)) (bm_congr hxn htt (d - t) (fun e he y hy => hV e (by omega) y hy)) ?_
        rcases bm_or (cf := cf) (tf := tf) (T := vv wv lo cf tf) (x := x) (d - t) with hbm | ⟨b, hb6, hbe⟩
        · refine ga_is (y := (-1)) (hbm) ?_
          refine lv_goto (tgt := 56) hx hb dX1_line_52 (by decide) ?_
          refine lv_istore (lv' := [(6, .int (-1)), (5, .int (nI t)), (4, .int (nI x)), (0, .ref (a 0)), (1, .int (nI j)), (2, .int (nI d)), (3, .int (nI i))]) hx hb dX1_line_56 hl (by decide) rfl (fun ls hl => ?_)
          refine lv_iload hx hb dX1_line_58 (lv_at hl 0 rfl) ?_
          refine lv_if_ge (tgt := 67) hx hb dX1_line_60 (by decide) (fun h60 => absurd h60 (show ¬ (0 : Int32) ≤ (-1) by decide)) (fun h60 => ?_)
          refine lv_iconst (v := (-1)) hx hb dX1_line_63 (by decide) ?_
          refine lv_goto (tgt := 80) hx hb dX1_line_64 (by decide) ?_
          refine lv_istore (lv' := [(4, .int (-1)), (6, .int (-1)), (5, .int (nI t)), (0, .ref (a 0)), (1, .int (nI j)), (2, .int (nI d)), (3, .int (nI i))]) hx hb dX1_line_80 hl (by decide) rfl (fun ls hl => ?_)
          refine lv_iinc (v := nI (t + 1)) (lv' := [(5, .int (nI (t + 1))), (4, .int (-1)), (6, .int (-1)), (0, .ref (a 0)), (1, .int (nI j)), (2, .int (nI d)), (3, .int (nI i))]) hx hb dX1_line_82 hl (k := 2) rfl (nI_1 t) (by decide) rfl (fun ls hl => ?_)
          refine lv_goto (tgt := 25) hx hb dX1_line_85 (by decide) ?_
          exact done (by rw [← he, lin, if_pos hbm]) (t + 1) _ (by omega) ls (lv_sub hl [0, 1, 2, 3, 4, 5, 6] rfl)
        · have htb := htt x hxn b hb6
          rw [lin, hbe, if_neg (m1_nI (by omega)), nI_clamp (by omega)] at he
          refine ga_is (y := nI b) (hbe) ?_
          refine lv_goto (tgt := 56) hx hb dX1_line_52 (by decide) ?_
          refine lv_istore (lv' := [(6, .int (nI b)), (5, .int (nI t)), (4, .int (nI x)), (0, .ref (a 0)), (1, .int (nI j)), (2, .int (nI d)), (3, .int (nI i))]) hx hb dX1_line_56 hl (by decide) rfl (fun ls hl => ?_)
          refine lv_iload hx hb dX1_line_58 (lv_at hl 0 rfl) ?_
          refine lv_if_ge (tgt := 67) hx hb dX1_line_60 (by decide) (fun h60 => ?_) (fun h60 => absurd (nI_pos' (by omega)) h60)
          refine lv_aload_n hx hb dX1_line_67 rfl (lv_at hl 3 rfl) ?_
          refine va_get (D := (dC, dI)) (ci := 1) (v := .ref (a 4)) (C := RX1) (T := TX1) (N := 8) hx hb hts hiw hown hK hP 0 rfl rfl 5 (by decide) hf_20 (fun _ h9 => h9) rfl dX1_line_68 ?_
          refine lv_bipush (v := 6) hx hb dX1_line_71 (by decide) ?_
          refine lv_iload hx hb dX1_line_73 (lv_at hl 2 rfl) ?_
          refine lv_imul hx hb dX1_line_75 ?_
          refine lv_iload hx hb dX1_line_76 (lv_at hl 0 rfl) ?_
          refine lv_iadd hx hb dX1_line_78 ?_
          refine ga_is (y := nI (x * 6 + b)) (by rw [show (6 : Int32) = nI 6 from rfl, pk_mul, nI_add, Nat.mul_comm 6 x]) ?_
          refine ga_iald hx hb hK hP 4 0 rfl rfl (x * 6 + b) (v := nI (tf (x * 6 + b))) rfl (by omega) (by decide) dX1_line_79 ?_
          refine lv_istore (lv' := [(4, .int (nI (tf (x * 6 + b)))), (6, .int (nI b)), (5, .int (nI t)), (0, .ref (a 0)), (1, .int (nI j)), (2, .int (nI d)), (3, .int (nI i))]) hx hb dX1_line_80 hl (by decide) rfl (fun ls hl => ?_)
          refine lv_iinc (v := nI (t + 1)) (lv' := [(5, .int (nI (t + 1))), (4, .int (nI (tf (x * 6 + b)))), (6, .int (nI b)), (0, .ref (a 0)), (1, .int (nI j)), (2, .int (nI d)), (3, .int (nI i))]) hx hb dX1_line_82 hl (k := 2) rfl (nI_1 t) (by decide) rfl (fun ls hl => ?_)
          refine lv_goto (tgt := 25) hx hb dX1_line_85 (by decide) ?_
          exact ih (t + 1) _ (by omega) htb (by rw [← he]; congr 1) ls (lv_sub hl [0, 1, 3, 4, 5, 6] rfl)
  exact loop i 0 j (by omega) hj rfl ls (lv_sub hl [0, 1, 2, 3, 4, 5] rfl)
set_option maxHeartbeats 4000000 in
set_option maxRecDepth 100000 in
/-- line, refused -/
theorem kX1_line_no (l : Launch) (dC : Nat → ClassId) (dI : Nat → Nat → Nat) (cI cZ cA : ClassId) (a : Nat → Nat) (sz : Nat) (th : Nat) (n : Nat) (wv : Nat → Int32) (lo : Nat → Int32) (cf : Nat → Nat) (tf : Nat → Nat) (vs : Nat → Int32) (nr : Nat → Nat) (x d : Int32) (i : Int32) (hB : Bad n x d) : Met l yX1_line wsX1_line ({ frames := 5, cells := 0, slots := 0, locals := 113 }) (va_Pc [.ref (a 0), .int x, .int d, .int i] (WP dC dI (GT cI cZ cA) (MW cI cZ a th n wv lo cf tf vs nr) sz)) (va_Qi (fun r (_ : Unit) => r = 0) (fun (_ : Unit) => WQ dC dI (GT cI cZ cA) (va_A (MW cI cZ a th n wv lo cf tf vs nr) sz) (MW cI cZ a 1 n wv lo cf tf vs nr)) (va_A (MW cI cZ a th n wv lo cf tf vs nr) sz)) 0 0 (va_A (MW cI cZ a th n wv lo cf tf vs nr) sz) := by
  refine Met.ofW (cc := cX1_line) (maxL := 7) (ret := (some .int)) (by decide) rfl ?_
  intro p e s m args below meth c s₁ B hml hv
  obtain ⟨rfl, hsz, hP, hK, hD0⟩ := hv
  have hx := B.exec
  have hb := B.bytes
  have hr := B.returns
  have hts := atoms_spec (ws := wsX1_line) B.pre
  have hown : s.vm.findClass RX1 = some m.cls := findClass_of_methodNamed B.named
  have hlocks := B.notSynchronized
  have hf_20 := hts (.fieldLink RX1 20 "GraphSearchModel" "to" "[I") (by decide +kernel)
  have hiw : ∀ w ∈ wsX10, w ∈ wsX1_line := by decide +kernel
  subst hsz
  have hD := hD0.self (sz := s.heap.size)
  generalize hAe : va_A (MW cI cZ a th n wv lo cf tf vs nr) s.heap.size = A at hD ⊢
  have hA : ∀ q : Nat, s.heap.size ≤ q → A q := fun q h => by rw [← hAe]; exact Or.inr h
  have hS : va_S A s.heap s.heap [] := va_S.rf
  have hP : va_P (dC, dI) vwCl (MW cI cZ a th n wv lo cf tf vs nr) s.heap := hP
  have hl := lv_entry ([.ref (a 0), .int x, .int d, .int i]) (n := 7) (Nat.le_of_ble_eq_true rfl)
  rw [lg_entry_eq]
  generalize (lg_sl ([.ref (a 0), .int x, .int d, .int i]) ++ List.replicate (7 - (lg_sl ([.ref (a 0), .int x, .int d, .int i])).length) Slot.unset).toArray = ls at hl ⊢
  have hl : lv_has ls 7 [(0, .ref (a 0)), (1, .int x), (2, .int d), (3, .int i)] := hl
  refine lv_aload_n hx hb dX1_line_0 rfl (lv_at hl 0 rfl) ?_
  refine lv_iload_n hx hb dX1_line_1 rfl (lv_at hl 1 rfl) ?_
  refine lv_iload_n hx hb dX1_line_2 rfl (lv_at hl 2 rfl) ?_
  have hF := freeAll hD hS hA
  refine va_calli (va_runV (As := [.int x, .int d]) (rest := []) ⟨hx, hb, hml, hown, hts⟩ (kX1_asked_no l dC dI cI cZ cA a s.heap.size th n wv lo cf tf vs nr x d hB) (cwV 2 hts gX1_line_X1_asked rfl rfl rfl (by decide +kernel) ⟨Nat.le_of_ble_eq_true rfl, Nat.le_of_ble_eq_true rfl⟩) ⟨blindW, va_recv hK hP (ci := 1) (q0 := 0) rfl rfl, preW hP hK hD⟩ rfl rfl hl.1 rfl (lv_room (Nat.le_of_ble_eq_true rfl)) dX1_line_3 ⟨Nat.zero_le _, Nat.zero_le _⟩) hS (fun q _ h => hF q h) hF (fun r_ _u tS H1 locs htS hvm hw hB hz1 hk1 hS => ?_)
  obtain rfl : r_ = 0 := hw
  obtain ⟨hP1, hK1, hD1⟩ := hB
  rw [htS] at hP1
  have hP : va_P (dC, dI) vwCl (MW cI cZ a 1 n wv lo cf tf vs nr) H1 := hP1
  have hD : va_D A (MW cI cZ a 1 n wv lo cf tf vs nr) := hD1.weaken (fun _ _ _ h => hF _ h)
  generalize H1 = H at hP hS ⊢
  refine W.eq (g2 := F0 m 6 ls [.int 0]) rfl ?_
  refine lv_if_ne (tgt := 11) hx hb dX1_line_6 (by decide) (fun h6 => absurd rfl h6) (fun h6 => ?_)
  refine lv_iconst (v := 0) hx hb dX1_line_9 (by decide) ?_
  exact W.iret (v := 0) hx hb hr (fun t ht hW => ⟨⟨0, (), rfl, rfl, by rw [ht]; exact hP, va_K.moved hW.alike hK, hD⟩, hS.F ht⟩) hS.2.2 dX1_line_10
end
section
theorem upd_same {cf : Nat → Nat} {k : Nat} (h : cf k = 0) : upd (fun i => nI (cf i)) k 0 = fun i => nI (cf i) := by
  funext i
  unfold upd
  by_cases e : i = k
  · rw [if_pos e, e, h]; rfl
  · rw [if_neg e]
set_option maxHeartbeats 4000000 in
set_option maxRecDepth 100000 in
/-- node -/
theorem kX1_node (l : Launch) (dC : Nat → ClassId) (dI : Nat → Nat → Nat) (cI cZ cA : ClassId) (a : Nat → Nat) (sz : Nat) (th : Nat) (n : Nat) (wv : Nat → Int32) (lo : Nat → Int32) (cf : Nat → Nat) (tf : Nat → Nat) (vs : Nat → Int32) (nr : Nat → Nat) (v b : Int32) (hn4 : n < 400) (hv : iw v = 1) (hz : b = 0 ∨ b = 1) (hc0 : cf n = 0) : Met l yX1_node wsX1_node ({ frames := 1, cells := 0, slots := 0, locals := 20 }) (va_Pc [.ref (a 0), .int v, .int b] (WP dC dI (GT cI cZ cA) (MW cI cZ a th n wv lo cf tf vs nr) sz)) (va_Qi (fun r (_ : Unit) => r = nI n) (fun (_ : Unit) => WQ dC dI (GT cI cZ cA) (va_A (MW cI cZ a th n wv lo cf tf vs nr) sz) (MW cI cZ a 0 (n + 1) (upd wv n v) (upd lo n b) cf tf vs nr)) (va_A (MW cI cZ a th n wv lo cf tf vs nr) sz)) 0 0 (va_A (MW cI cZ a th n wv lo cf tf vs nr) sz) := by
  refine Met.ofW (cc := cX1_node) (maxL := 3) (ret := (some .int)) (by decide) rfl ?_
  intro p e s m args below meth c s₁ B hml hv
  obtain ⟨rfl, hsz, hP, hK, hD0⟩ := hv
  have hx := B.exec
  have hb := B.bytes
  have hr := B.returns
  have hts := atoms_spec (ws := wsX1_node) B.pre
  have hown : s.vm.findClass RX1 = some m.cls := findClass_of_methodNamed B.named
  have hlocks := B.notSynchronized
  have hf_33 := hts (.fieldLink RX1 33 "GraphSearchModel" "nodes" "I") (by decide +kernel)
  have hf_29 := hts (.fieldLink RX1 29 "GraphSearchModel" "thrown" "I") (by decide +kernel)
  have hf_7 := hts (.fieldLink RX1 7 "GraphSearchModel" "worth" "[I") (by decide +kernel)
  have hf_13 := hts (.fieldLink RX1 13 "GraphSearchModel" "lost" "[Z") (by decide +kernel)
  have hf_17 := hts (.fieldLink RX1 17 "GraphSearchModel" "many" "[I") (by decide +kernel)
  have hiw : ∀ w ∈ wsX10, w ∈ wsX1_node := by decide +kernel
  subst hsz
  have hD := hD0.self (sz := s.heap.size)
  generalize hAe : va_A (MW cI cZ a th n wv lo cf tf vs nr) s.heap.size = A at hD ⊢
  have hA : ∀ q : Nat, s.heap.size ≤ q → A q := fun q h => by rw [← hAe]; exact Or.inr h
  have hS : va_S A s.heap s.heap [] := va_S.rf
  have hP : va_P (dC, dI) vwCl (MW cI cZ a th n wv lo cf tf vs nr) s.heap := hP
  have hl := lv_entry ([.ref (a 0), .int v, .int b]) (n := 3) (Nat.le_of_ble_eq_true rfl)
  rw [lg_entry_eq]
  generalize (lg_sl ([.ref (a 0), .int v, .int b]) ++ List.replicate (3 - (lg_sl ([.ref (a 0), .int v, .int b])).length) Slot.unset).toArray = ls at hl ⊢
  have hl : lv_has ls 3 [(0, .ref (a 0)), (1, .int v), (2, .int b)] := hl
  refine lv_aload_n hx hb dX1_node_0 rfl (lv_at hl 0 rfl) ?_
  refine lv_iload_n hx hb dX1_node_1 rfl (lv_at hl 1 rfl) ?_
  refine W.callR (r := iw v) (W.runS (As := [.int v]) (rest := [.ref (a 0)]) ⟨hx, hb, hml, hown, hts⟩ (kX1_isWorth l v) (va_cwS 1 hts gX1_node_X1_isWorth rfl rfl rfl (by decide +kernel) ⟨Nat.le_of_ble_eq_true rfl, Nat.le_of_ble_eq_true rfl⟩) ⟨blindT, fun _ _ _ => ⟨rfl, trivial⟩⟩ rfl rfl hl.1 rfl (lv_room (Nat.le_of_ble_eq_true rfl)) dX1_node_2 ⟨Nat.zero_le _, Nat.zero_le _⟩) ?_
  refine W.eq (g2 := F0 m 5 ls [.int (iw v), .ref (a 0)]) rfl ?_
  refine lv_if_ne (tgt := 12) hx hb dX1_node_5 (by decide) (fun h5 => ?_) (fun h5 => absurd h5 (by rw [hv]; decide))
  refine lv_aload_n hx hb dX1_node_12 rfl (lv_at hl 0 rfl) ?_
  refine va_get (D := (dC, dI)) (ci := 1) (v := .int (nI n)) (C := RX1) (T := TX1) (N := 8) hx hb hts hiw hown hK hP 0 rfl rfl 1 (by decide) hf_33 (fun _ h9 => h9) rfl dX1_node_13 ?_
  refine lv_sipush (v := 400) hx hb dX1_node_16 (by decide) ?_
  refine lv_icmp_ne (tgt := 26) hx hb dX1_node_19 (by decide) (fun h19 => ?_) (fun h19 => absurd h19 (fun q => by have := (nI_eq (b := 400) (by omega) (by decide)).mp q; omega))
  refine lv_iconst (v := 0) hx hb dX1_node_26 (by decide) ?_
  refine ga_is (y := nI 0) (rfl) ?_
  refine va_put (D := (dC, dI)) (ci := 1) (v := .int (nI 0)) (ty := .int) (C := RX1) (T := TX1) (N := 8) hx hb hts hiw tyX1 tyX1_ok nmX1 hown hK hP hD hS 0 rfl rfl 0 (by decide) hf_29 (fun _ h9 => h9) rfl (by decide +kernel) rfl rfl (Nat.le_of_ble_eq_true rfl) dX1_node_27 (fun H locs hP hD hS => ?_)
  have hP : va_P (dC, dI) vwCl (MW cI cZ a 0 n wv lo cf tf vs nr) H := hP
  have hD : va_D A (MW cI cZ a 0 n wv lo cf tf vs nr) := hD
  refine lv_aload_n hx hb dX1_node_30 rfl (lv_at hl 0 rfl) ?_
  refine va_get (D := (dC, dI)) (ci := 1) (v := .int (nI 0)) (C := RX1) (T := TX1) (N := 8) hx hb hts hiw hown hK hP 0 rfl rfl 0 (by decide) hf_29 (fun _ h9 => h9) rfl dX1_node_31 ?_
  refine lv_if_le (tgt := 39) hx hb dX1_node_34 (by decide) (fun h34 => ?_) (fun h34 => absurd (show nI 0 ≤ 0 from Int32.le_refl _) h34)
  refine lv_aload_n hx hb dX1_node_39 rfl (lv_at hl 0 rfl) ?_
  refine va_get (D := (dC, dI)) (ci := 1) (v := .ref (a 1)) (C := RX1) (T := TX1) (N := 8) hx hb hts hiw hown hK hP 0 rfl rfl 2 (by decide) hf_7 (fun _ h9 => h9) rfl dX1_node_40 ?_
  refine lv_aload_n hx hb dX1_node_43 rfl (lv_at hl 0 rfl) ?_
  refine va_get (D := (dC, dI)) (ci := 1) (v := .int (nI n)) (C := RX1) (T := TX1) (N := 8) hx hb hts hiw hown hK hP 0 rfl rfl 1 (by decide) hf_33 (fun _ h9 => h9) rfl dX1_node_44 ?_
  refine lv_iload_n hx hb dX1_node_47 rfl (lv_at hl 1 rfl) ?_
  refine ga_iast hx hb hK hP hD hS 1 0 rfl rfl n (by omega) (by decide) rfl (ws' := MW cI cZ a 0 n (upd wv n v) lo cf tf vs nr) rfl dX1_node_48 (fun H locs hP hD hS => ?_)
  refine lv_aload_n hx hb dX1_node_49 rfl (lv_at hl 0 rfl) ?_
  refine va_get (D := (dC, dI)) (ci := 1) (v := .ref (a 2)) (C := RX1) (T := TX1) (N := 8) hx hb hts hiw hown hK hP 0 rfl rfl 3 (by decide) hf_13 (fun _ h9 => h9) rfl dX1_node_50 ?_
  refine lv_aload_n hx hb dX1_node_53 rfl (lv_at hl 0 rfl) ?_
  refine va_get (D := (dC, dI)) (ci := 1) (v := .int (nI n)) (C := RX1) (T := TX1) (N := 8) hx hb hts hiw hown hK hP 0 rfl rfl 1 (by decide) hf_33 (fun _ h9 => h9) rfl dX1_node_54 ?_
  refine lv_iload_n hx hb dX1_node_57 rfl (lv_at hl 2 rfl) ?_
  refine ga_zast hx hb hK hP hD hS 2 1 rfl rfl n hz (by omega) (by decide) rfl (ws' := MW cI cZ a 0 n (upd wv n v) (upd lo n b) cf tf vs nr) rfl dX1_node_58 (fun H locs hP hD hS => ?_)
  refine lv_aload_n hx hb dX1_node_59 rfl (lv_at hl 0 rfl) ?_
  refine va_get (D := (dC, dI)) (ci := 1) (v := .ref (a 3)) (C := RX1) (T := TX1) (N := 8) hx hb hts hiw hown hK hP 0 rfl rfl 4 (by decide) hf_17 (fun _ h9 => h9) rfl dX1_node_60 ?_
  refine lv_aload_n hx hb dX1_node_63 rfl (lv_at hl 0 rfl) ?_
  refine va_get (D := (dC, dI)) (ci := 1) (v := .int (nI n)) (C := RX1) (T := TX1) (N := 8) hx hb hts hiw hown hK hP 0 rfl rfl 1 (by decide) hf_33 (fun _ h9 => h9) rfl dX1_node_64 ?_
  refine lv_iconst (v := 0) hx hb dX1_node_67 (by decide) ?_
  refine ga_iast hx hb hK hP hD hS 3 0 rfl rfl n (by omega) (by decide) (upd_same hc0) (ws' := MW cI cZ a 0 n (upd wv n v) (upd lo n b) cf tf vs nr) rfl dX1_node_68 (fun H locs hP hD hS => ?_)
  refine lv_aload_n hx hb dX1_node_69 rfl (lv_at hl 0 rfl) ?_
  refine lv_dup hx hb dX1_node_70 rfl ?_
  refine va_get (D := (dC, dI)) (ci := 1) (v := .int (nI n)) (C := RX1) (T := TX1) (N := 8) hx hb hts hiw hown hK hP 0 rfl rfl 1 (by decide) hf_33 (fun _ h9 => h9) rfl dX1_node_71 ?_
  refine lv_iconst (v := 1) hx hb dX1_node_74 (by decide) ?_
  refine lv_iadd hx hb dX1_node_75 ?_
  refine ga_is (y := nI (n + 1)) (nI_1 n) ?_
  refine va_put (D := (dC, dI)) (ci := 1) (v := .int (nI (n + 1))) (ty := .int) (C := RX1) (T := TX1) (N := 8) hx hb hts hiw tyX1 tyX1_ok nmX1 hown hK hP hD hS 0 rfl rfl 1 (by decide) hf_33 (fun _ h9 => h9) rfl (by decide +kernel) rfl rfl (Nat.le_of_ble_eq_true rfl) dX1_node_76 (fun H locs hP hD hS => ?_)
  have hP : va_P (dC, dI) vwCl (MW cI cZ a 0 (n + 1) (upd wv n v) (upd lo n b) cf tf vs nr) H := hP
  have hD : va_D A (MW cI cZ a 0 (n + 1) (upd wv n v) (upd lo n b) cf tf vs nr) := hD
  refine lv_aload_n hx hb dX1_node_79 rfl (lv_at hl 0 rfl) ?_
  refine va_get (D := (dC, dI)) (ci := 1) (v := .int (nI (n + 1))) (C := RX1) (T := TX1) (N := 8) hx hb hts hiw hown hK hP 0 rfl rfl 1 (by decide) hf_33 (fun _ h9 => h9) rfl dX1_node_80 ?_
  refine lv_iconst (v := 1) hx hb dX1_node_83 (by decide) ?_
  refine lv_isub hx hb dX1_node_84 ?_
  refine ga_is (y := nI n) (nI_pred n) ?_
  exact W.iret (v := (nI n)) hx hb hr (fun t ht hW => ⟨⟨(nI n), (), rfl, rfl, by rw [ht]; exact hP, va_K.moved hW.alike hK, hD⟩, hS.F ht⟩) hS.2.2 dX1_node_85
set_option maxHeartbeats 4000000 in
set_option maxRecDepth 100000 in
/-- node, a wrong worth -/
theorem kX1_node_w (l : Launch) (dC : Nat → ClassId) (dI : Nat → Nat → Nat) (cI cZ cA : ClassId) (a : Nat → Nat) (sz : Nat) (th : Nat) (n : Nat) (wv : Nat → Int32) (lo : Nat → Int32) (cf : Nat → Nat) (tf : Nat → Nat) (vs : Nat → Int32) (nr : Nat → Nat) (v b : Int32) (hv : iw v = 0) : Met l yX1_node wsX1_node ({ frames := 1, cells := 0, slots := 0, locals := 20 }) (va_Pc [.ref (a 0), .int v, .int b] (WP dC dI (GT cI cZ cA) (MW cI cZ a th n wv lo cf tf vs nr) sz)) (va_Qi (fun r (_ : Unit) => r = 0) (fun (_ : Unit) => WQ dC dI (GT cI cZ cA) (va_A (MW cI cZ a th n wv lo cf tf vs nr) sz) (MW cI cZ a 1 n wv lo cf tf vs nr)) (va_A (MW cI cZ a th n wv lo cf tf vs nr) sz)) 0 0 (va_A (MW cI cZ a th n wv lo cf tf vs nr) sz) := by
  refine Met.ofW (cc := cX1_node) (maxL := 3) (ret := (some .int)) (by decide) rfl ?_
  intro p e s m args below meth c s₁ B hml hv
  obtain ⟨rfl, hsz, hP, hK, hD0⟩ := hv
  have hx := B.exec
  have hb := B.bytes
  have hr := B.returns
  have hts := atoms_spec (ws := wsX1_node) B.pre
  have hown : s.vm.findClass RX1 = some m.cls := findClass_of_methodNamed B.named
  have hlocks := B.notSynchronized
  have hf_33 := hts (.fieldLink RX1 33 "GraphSearchModel" "nodes" "I") (by decide +kernel)
  have hf_29 := hts (.fieldLink RX1 29 "GraphSearchModel" "thrown" "I") (by decide +kernel)
  have hf_7 := hts (.fieldLink RX1 7 "GraphSearchModel" "worth" "[I") (by decide +kernel)
  have hf_13 := hts (.fieldLink RX1 13 "GraphSearchModel" "lost" "[Z") (by decide +kernel)
  have hf_17 := hts (.fieldLink RX1 17 "GraphSearchModel" "many" "[I") (by decide +kernel)
  have hiw : ∀ w ∈ wsX10, w ∈ wsX1_node := by decide +kernel
  subst hsz
  have hD := hD0.self (sz := s.heap.size)
  generalize hAe : va_A (MW cI cZ a th n wv lo cf tf vs nr) s.heap.size = A at hD ⊢
  have hA : ∀ q : Nat, s.heap.size ≤ q → A q := fun q h => by rw [← hAe]; exact Or.inr h
  have hS : va_S A s.heap s.heap [] := va_S.rf
  have hP : va_P (dC, dI) vwCl (MW cI cZ a th n wv lo cf tf vs nr) s.heap := hP
  have hl := lv_entry ([.ref (a 0), .int v, .int b]) (n := 3) (Nat.le_of_ble_eq_true rfl)
  rw [lg_entry_eq]
  generalize (lg_sl ([.ref (a 0), .int v, .int b]) ++ List.replicate (3 - (lg_sl ([.ref (a 0), .int v, .int b])).length) Slot.unset).toArray = ls at hl ⊢
  have hl : lv_has ls 3 [(0, .ref (a 0)), (1, .int v), (2, .int b)] := hl
  refine lv_aload_n hx hb dX1_node_0 rfl (lv_at hl 0 rfl) ?_
  refine lv_iload_n hx hb dX1_node_1 rfl (lv_at hl 1 rfl) ?_
  refine W.callR (r := iw v) (W.runS (As := [.int v]) (rest := [.ref (a 0)]) ⟨hx, hb, hml, hown, hts⟩ (kX1_isWorth l v) (va_cwS 1 hts gX1_node_X1_isWorth rfl rfl rfl (by decide +kernel) ⟨Nat.le_of_ble_eq_true rfl, Nat.le_of_ble_eq_true rfl⟩) ⟨blindT, fun _ _ _ => ⟨rfl, trivial⟩⟩ rfl rfl hl.1 rfl (lv_room (Nat.le_of_ble_eq_true rfl)) dX1_node_2 ⟨Nat.zero_le _, Nat.zero_le _⟩) ?_
  refine W.eq (g2 := F0 m 5 ls [.int (iw v), .ref (a 0)]) rfl ?_
  refine lv_if_ne (tgt := 12) hx hb dX1_node_5 (by decide) (fun h5 => absurd hv h5) (fun h5 => ?_)
  refine lv_iconst (v := 1) hx hb dX1_node_8 (by decide) ?_
  refine lv_goto (tgt := 27) hx hb dX1_node_9 (by decide) ?_
  refine ga_is (y := nI 1) (rfl) ?_
  refine va_put (D := (dC, dI)) (ci := 1) (v := .int (nI 1)) (ty := .int) (C := RX1) (T := TX1) (N := 8) hx hb hts hiw tyX1 tyX1_ok nmX1 hown hK hP hD hS 0 rfl rfl 0 (by decide) hf_29 (fun _ h9 => h9) rfl (by decide +kernel) rfl rfl (Nat.le_of_ble_eq_true rfl) dX1_node_27 (fun H locs hP hD hS => ?_)
  have hP : va_P (dC, dI) vwCl (MW cI cZ a 1 n wv lo cf tf vs nr) H := hP
  have hD : va_D A (MW cI cZ a 1 n wv lo cf tf vs nr) := hD
  refine lv_aload_n hx hb dX1_node_30 rfl (lv_at hl 0 rfl) ?_
  refine va_get (D := (dC, dI)) (ci := 1) (v := .int (nI 1)) (C := RX1) (T := TX1) (N := 8) hx hb hts hiw hown hK hP 0 rfl rfl 0 (by decide) hf_29 (fun _ h9 => h9) rfl dX1_node_31 ?_
  refine lv_if_le (tgt := 39) hx hb dX1_node_34 (by decide) (fun h34 => absurd h34 (nI_nle (by decide) (by decide))) (fun h34 => ?_)
  refine lv_iconst (v := 0) hx hb dX1_node_37 (by decide) ?_
  exact W.iret (v := 0) hx hb hr (fun t ht hW => ⟨⟨0, (), rfl, rfl, by rw [ht]; exact hP, va_K.moved hW.alike hK, hD⟩, hS.F ht⟩) hS.2.2 dX1_node_38
set_option maxHeartbeats 4000000 in
set_option maxRecDepth 100000 in
/-- node, full -/
theorem kX1_node_f (l : Launch) (dC : Nat → ClassId) (dI : Nat → Nat → Nat) (cI cZ cA : ClassId) (a : Nat → Nat) (sz : Nat) (th : Nat) (n : Nat) (wv : Nat → Int32) (lo : Nat → Int32) (cf : Nat → Nat) (tf : Nat → Nat) (vs : Nat → Int32) (nr : Nat → Nat) (v b : Int32) (hv : iw v = 1) (hn4 : n = 400) : Met l yX1_node wsX1_node ({ frames := 1, cells := 0, slots := 0, locals := 20 }) (va_Pc [.ref (a 0), .int v, .int b] (WP dC dI (GT cI cZ cA) (MW cI cZ a th n wv lo cf tf vs nr) sz)) (va_Qi (fun r (_ : Unit) => r = 0) (fun (_ : Unit) => WQ dC dI (GT cI cZ cA) (va_A (MW cI cZ a th n wv lo cf tf vs nr) sz) (MW cI cZ a 2 n wv lo cf tf vs nr)) (va_A (MW cI cZ a th n wv lo cf tf vs nr) sz)) 0 0 (va_A (MW cI cZ a th n wv lo cf tf vs nr) sz) := by
  refine Met.ofW (cc := cX1_node) (maxL := 3) (ret := (some .int)) (by decide) rfl ?_
  intro p e s m args below meth c s₁ B hml hv
  obtain ⟨rfl, hsz, hP, hK, hD0⟩ := hv
  have hx := B.exec
  have hb := B.bytes
  have hr := B.returns
  have hts := atoms_spec (ws := wsX1_node) B.pre
  have hown : s.vm.findClass RX1 = some m.cls := findClass_of_methodNamed B.named
  have hlocks := B.notSynchronized
  have hf_33 := hts (.fieldLink RX1 33 "GraphSearchModel" "nodes" "I") (by decide +kernel)
  have hf_29 := hts (.fieldLink RX1 29 "GraphSearchModel" "thrown" "I") (by decide +kernel)
  have hf_7 := hts (.fieldLink RX1 7 "GraphSearchModel" "worth" "[I") (by decide +kernel)
  have hf_13 := hts (.fieldLink RX1 13 "GraphSearchModel" "lost" "[Z") (by decide +kernel)
  have hf_17 := hts (.fieldLink RX1 17 "GraphSearchModel" "many" "[I") (by decide +kernel)
  have hiw : ∀ w ∈ wsX10, w ∈ wsX1_node := by decide +kernel
  subst hsz
  have hD := hD0.self (sz := s.heap.size)
  generalize hAe : va_A (MW cI cZ a th n wv lo cf tf vs nr) s.heap.size = A at hD ⊢
  have hA : ∀ q : Nat, s.heap.size ≤ q → A q := fun q h => by rw [← hAe]; exact Or.inr h
  have hS : va_S A s.heap s.heap [] := va_S.rf
  have hP : va_P (dC, dI) vwCl (MW cI cZ a th n wv lo cf tf vs nr) s.heap := hP
  have hl := lv_entry ([.ref (a 0), .int v, .int b]) (n := 3) (Nat.le_of_ble_eq_true rfl)
  rw [lg_entry_eq]
  generalize (lg_sl ([.ref (a 0), .int v, .int b]) ++ List.replicate (3 - (lg_sl ([.ref (a 0), .int v, .int b])).length) Slot.unset).toArray = ls at hl ⊢
  have hl : lv_has ls 3 [(0, .ref (a 0)), (1, .int v), (2, .int b)] := hl
  refine lv_aload_n hx hb dX1_node_0 rfl (lv_at hl 0 rfl) ?_
  refine lv_iload_n hx hb dX1_node_1 rfl (lv_at hl 1 rfl) ?_
  refine W.callR (r := iw v) (W.runS (As := [.int v]) (rest := [.ref (a 0)]) ⟨hx, hb, hml, hown, hts⟩ (kX1_isWorth l v) (va_cwS 1 hts gX1_node_X1_isWorth rfl rfl rfl (by decide +kernel) ⟨Nat.le_of_ble_eq_true rfl, Nat.le_of_ble_eq_true rfl⟩) ⟨blindT, fun _ _ _ => ⟨rfl, trivial⟩⟩ rfl rfl hl.1 rfl (lv_room (Nat.le_of_ble_eq_true rfl)) dX1_node_2 ⟨Nat.zero_le _, Nat.zero_le _⟩) ?_
  refine W.eq (g2 := F0 m 5 ls [.int (iw v), .ref (a 0)]) rfl ?_
  refine lv_if_ne (tgt := 12) hx hb dX1_node_5 (by decide) (fun h5 => ?_) (fun h5 => absurd h5 (by rw [hv]; decide))
  refine lv_aload_n hx hb dX1_node_12 rfl (lv_at hl 0 rfl) ?_
  refine va_get (D := (dC, dI)) (ci := 1) (v := .int (nI n)) (C := RX1) (T := TX1) (N := 8) hx hb hts hiw hown hK hP 0 rfl rfl 1 (by decide) hf_33 (fun _ h9 => h9) rfl dX1_node_13 ?_
  refine lv_sipush (v := 400) hx hb dX1_node_16 (by decide) ?_
  refine lv_icmp_ne (tgt := 26) hx hb dX1_node_19 (by decide) (fun h19 => absurd (show nI n = 400 by rw [hn4]; rfl) h19) (fun h19 => ?_)
  refine lv_iconst (v := 2) hx hb dX1_node_22 (by decide) ?_
  refine lv_goto (tgt := 27) hx hb dX1_node_23 (by decide) ?_
  refine ga_is (y := nI 2) (rfl) ?_
  refine va_put (D := (dC, dI)) (ci := 1) (v := .int (nI 2)) (ty := .int) (C := RX1) (T := TX1) (N := 8) hx hb hts hiw tyX1 tyX1_ok nmX1 hown hK hP hD hS 0 rfl rfl 0 (by decide) hf_29 (fun _ h9 => h9) rfl (by decide +kernel) rfl rfl (Nat.le_of_ble_eq_true rfl) dX1_node_27 (fun H locs hP hD hS => ?_)
  have hP : va_P (dC, dI) vwCl (MW cI cZ a 2 n wv lo cf tf vs nr) H := hP
  have hD : va_D A (MW cI cZ a 2 n wv lo cf tf vs nr) := hD
  refine lv_aload_n hx hb dX1_node_30 rfl (lv_at hl 0 rfl) ?_
  refine va_get (D := (dC, dI)) (ci := 1) (v := .int (nI 2)) (C := RX1) (T := TX1) (N := 8) hx hb hts hiw hown hK hP 0 rfl rfl 0 (by decide) hf_29 (fun _ h9 => h9) rfl dX1_node_31 ?_
  refine lv_if_le (tgt := 39) hx hb dX1_node_34 (by decide) (fun h34 => absurd h34 (nI_nle (by decide) (by decide))) (fun h34 => ?_)
  refine lv_iconst (v := 0) hx hb dX1_node_37 (by decide) ?_
  exact W.iret (v := 0) hx hb hr (fun t ht hW => ⟨⟨0, (), rfl, rfl, by rw [ht]; exact hP, va_K.moved hW.alike hK, hD⟩, hS.F ht⟩) hS.2.2 dX1_node_38
set_option maxHeartbeats 4000000 in
set_option maxRecDepth 100000 in
/-- move -/
theorem kX1_move (l : Launch) (dC : Nat → ClassId) (dI : Nat → Nat → Nat) (cI cZ cA : ClassId) (a : Nat → Nat) (sz : Nat) (th : Nat) (n : Nat) (wv : Nat → Int32) (lo : Nat → Int32) (cf : Nat → Nat) (tf : Nat → Nat) (vs : Nat → Int32) (nr : Nat → Nat) (i j : Nat) (hn4 : n ≤ 400) (hi : i < n) (hj : j < n) (hc : cf i < 6) : Met l yX1_move wsX1_move ({ frames := 1, cells := 0, slots := 0, locals := 21 }) (va_Pc [.ref (a 0), .int (nI i), .int (nI j)] (WP dC dI (GT cI cZ cA) (MW cI cZ a th n wv lo cf tf vs nr) sz)) (va_Qi (fun r (_ : Unit) => r = nI (cf i)) (fun (_ : Unit) => WQ dC dI (GT cI cZ cA) (va_A (MW cI cZ a th n wv lo cf tf vs nr) sz) (MW cI cZ a 0 n wv lo (va_up cf i (cf i + 1)) (va_up tf (i * 6 + cf i) j) vs nr)) (va_A (MW cI cZ a th n wv lo cf tf vs nr) sz)) 0 0 (va_A (MW cI cZ a th n wv lo cf tf vs nr) sz) := by
  refine Met.ofW (cc := cX1_move) (maxL := 3) (ret := (some .int)) (by decide) rfl ?_
  intro p e s m args below meth c s₁ B hml hv
  obtain ⟨rfl, hsz, hP, hK, hD0⟩ := hv
  have hx := B.exec
  have hb := B.bytes
  have hr := B.returns
  have hts := atoms_spec (ws := wsX1_move) B.pre
  have hown : s.vm.findClass RX1 = some m.cls := findClass_of_methodNamed B.named
  have hlocks := B.notSynchronized
  have hf_29 := hts (.fieldLink RX1 29 "GraphSearchModel" "thrown" "I") (by decide +kernel)
  have hf_17 := hts (.fieldLink RX1 17 "GraphSearchModel" "many" "[I") (by decide +kernel)
  have hf_20 := hts (.fieldLink RX1 20 "GraphSearchModel" "to" "[I") (by decide +kernel)
  have hiw : ∀ w ∈ wsX10, w ∈ wsX1_move := by decide +kernel
  subst hsz
  have hD := hD0.self (sz := s.heap.size)
  generalize hAe : va_A (MW cI cZ a th n wv lo cf tf vs nr) s.heap.size = A at hD ⊢
  have hA : ∀ q : Nat, s.heap.size ≤ q → A q := fun q h => by rw [← hAe]; exact Or.inr h
  have hS : va_S A s.heap s.heap [] := va_S.rf
  have hP : va_P (dC, dI) vwCl (MW cI cZ a th n wv lo cf tf vs nr) s.heap := hP
  have hl := lv_entry ([.ref (a 0), .int (nI i), .int (nI j)]) (n := 3) (Nat.le_of_ble_eq_true rfl)
  rw [lg_entry_eq]
  generalize (lg_sl ([.ref (a 0), .int (nI i), .int (nI j)]) ++ List.replicate (3 - (lg_sl ([.ref (a 0), .int (nI i), .int (nI j)])).length) Slot.unset).toArray = ls at hl ⊢
  have hl : lv_has ls 3 [(0, .ref (a 0)), (1, .int (nI i)), (2, .int (nI j))] := hl
  refine lv_aload_n hx hb dX1_move_0 rfl (lv_at hl 0 rfl) ?_
  refine lv_aload_n hx hb dX1_move_1 rfl (lv_at hl 0 rfl) ?_
  refine lv_iload_n hx hb dX1_move_2 rfl (lv_at hl 1 rfl) ?_
  refine W.callR (r := isn (nI i) n) (W.runV (As := [.int (nI i)]) (rest := [.ref (a 0)]) ⟨hx, hb, hml, hown, hts⟩ (kX1_isNode l dC dI cI cZ cA a th n wv lo cf tf vs nr (nI i)) (cwV 1 hts gX1_move_X1_isNode rfl rfl rfl (by decide +kernel) ⟨Nat.le_of_ble_eq_true rfl, Nat.le_of_ble_eq_true rfl⟩) ⟨blindR, va_recv hK hP (ci := 1) (q0 := 0) rfl rfl, preR hP hK⟩ rfl rfl hl.1 rfl (lv_room (Nat.le_of_ble_eq_true rfl)) dX1_move_3 ⟨Nat.zero_le _, Nat.zero_le _⟩) ?_
  refine W.eq (g2 := F0 m 6 ls [.int (isn (nI i) n), .ref (a 0)]) rfl ?_
  refine lv_if_eq (tgt := 21) hx hb dX1_move_6 (by decide) (fun h6 => absurd h6 (by rw [isn_1 hi (by omega)]; decide)) (fun h6 => ?_)
  refine lv_aload_n hx hb dX1_move_9 rfl (lv_at hl 0 rfl) ?_
  refine lv_iload_n hx hb dX1_move_10 rfl (lv_at hl 2 rfl) ?_
  refine W.callR (r := isn (nI j) n) (W.runV (As := [.int (nI j)]) (rest := [.ref (a 0)]) ⟨hx, hb, hml, hown, hts⟩ (kX1_isNode l dC dI cI cZ cA a th n wv lo cf tf vs nr (nI j)) (cwV 1 hts gX1_move_X1_isNode rfl rfl rfl (by decide +kernel) ⟨Nat.le_of_ble_eq_true rfl, Nat.le_of_ble_eq_true rfl⟩) ⟨blindR, va_recv hK hP (ci := 1) (q0 := 0) rfl rfl, preR hP hK⟩ rfl rfl hl.1 rfl (lv_room (Nat.le_of_ble_eq_true rfl)) dX1_move_11 ⟨Nat.zero_le _, Nat.zero_le _⟩) ?_
  refine W.eq (g2 := F0 m 14 ls [.int (isn (nI j) n), .ref (a 0)]) rfl ?_
  refine lv_if_eq (tgt := 21) hx hb dX1_move_14 (by decide) (fun h14 => absurd h14 (by rw [isn_1 hj (by omega)]; decide)) (fun h14 => ?_)
  refine lv_iconst (v := 0) hx hb dX1_move_17 (by decide) ?_
  refine lv_goto (tgt := 22) hx hb dX1_move_18 (by decide) ?_
  refine ga_is (y := nI 0) (rfl) ?_
  refine va_put (D := (dC, dI)) (ci := 1) (v := .int (nI 0)) (ty := .int) (C := RX1) (T := TX1) (N := 8) hx hb hts hiw tyX1 tyX1_ok nmX1 hown hK hP hD hS 0 rfl rfl 0 (by decide) hf_29 (fun _ h9 => h9) rfl (by decide +kernel) rfl rfl (Nat.le_of_ble_eq_true rfl) dX1_move_22 (fun H locs hP hD hS => ?_)
  have hP : va_P (dC, dI) vwCl (MW cI cZ a 0 n wv lo cf tf vs nr) H := hP
  have hD : va_D A (MW cI cZ a 0 n wv lo cf tf vs nr) := hD
  refine lv_aload_n hx hb dX1_move_25 rfl (lv_at hl 0 rfl) ?_
  refine va_get (D := (dC, dI)) (ci := 1) (v := .int (nI 0)) (C := RX1) (T := TX1) (N := 8) hx hb hts hiw hown hK hP 0 rfl rfl 0 (by decide) hf_29 (fun _ h9 => h9) rfl dX1_move_26 ?_
  refine lv_if_le (tgt := 34) hx hb dX1_move_29 (by decide) (fun h29 => ?_) (fun h29 => absurd (show nI 0 ≤ 0 from Int32.le_refl _) h29)
  refine lv_aload_n hx hb dX1_move_34 rfl (lv_at hl 0 rfl) ?_
  refine lv_aload_n hx hb dX1_move_35 rfl (lv_at hl 0 rfl) ?_
  refine va_get (D := (dC, dI)) (ci := 1) (v := .ref (a 3)) (C := RX1) (T := TX1) (N := 8) hx hb hts hiw hown hK hP 0 rfl rfl 4 (by decide) hf_17 (fun _ h9 => h9) rfl dX1_move_36 ?_
  refine lv_iload_n hx hb dX1_move_39 rfl (lv_at hl 1 rfl) ?_
  refine ga_iald hx hb hK hP 3 0 rfl rfl i (v := nI (cf i)) rfl (by omega) (by decide) dX1_move_40 ?_
  refine lv_bipush (v := 6) hx hb dX1_move_41 (by decide) ?_
  refine lv_icmp_ne (tgt := 50) hx hb dX1_move_43 (by decide) (fun h43 => ?_) (fun h43 => absurd h43 (fun q => by have := (nI_eq (b := 6) (by omega) (by decide)).mp q; omega))
  refine lv_iconst (v := 0) hx hb dX1_move_50 (by decide) ?_
  refine ga_is (y := nI 0) (rfl) ?_
  refine va_put (D := (dC, dI)) (ci := 1) (v := .int (nI 0)) (ty := .int) (C := RX1) (T := TX1) (N := 8) hx hb hts hiw tyX1 tyX1_ok nmX1 hown hK hP hD hS 0 rfl rfl 0 (by decide) hf_29 (fun _ h9 => h9) rfl (by decide +kernel) rfl rfl (Nat.le_of_ble_eq_true rfl) dX1_move_51 (fun H locs hP hD hS => ?_)
  have hP : va_P (dC, dI) vwCl (MW cI cZ a 0 n wv lo cf tf vs nr) H := hP
  have hD : va_D A (MW cI cZ a 0 n wv lo cf tf vs nr) := hD
  refine lv_aload_n hx hb dX1_move_54 rfl (lv_at hl 0 rfl) ?_
  refine va_get (D := (dC, dI)) (ci := 1) (v := .int (nI 0)) (C := RX1) (T := TX1) (N := 8) hx hb hts hiw hown hK hP 0 rfl rfl 0 (by decide) hf_29 (fun _ h9 => h9) rfl dX1_move_55 ?_
  refine lv_if_le (tgt := 63) hx hb dX1_move_58 (by decide) (fun h58 => ?_) (fun h58 => absurd (show nI 0 ≤ 0 from Int32.le_refl _) h58)
  refine lv_aload_n hx hb dX1_move_63 rfl (lv_at hl 0 rfl) ?_
  refine va_get (D := (dC, dI)) (ci := 1) (v := .ref (a 4)) (C := RX1) (T := TX1) (N := 8) hx hb hts hiw hown hK hP 0 rfl rfl 5 (by decide) hf_20 (fun _ h9 => h9) rfl dX1_move_64 ?_
  refine lv_bipush (v := 6) hx hb dX1_move_67 (by decide) ?_
  refine lv_iload_n hx hb dX1_move_69 rfl (lv_at hl 1 rfl) ?_
  refine lv_imul hx hb dX1_move_70 ?_
  refine lv_aload_n hx hb dX1_move_71 rfl (lv_at hl 0 rfl) ?_
  refine va_get (D := (dC, dI)) (ci := 1) (v := .ref (a 3)) (C := RX1) (T := TX1) (N := 8) hx hb hts hiw hown hK hP 0 rfl rfl 4 (by decide) hf_17 (fun _ h9 => h9) rfl dX1_move_72 ?_
  refine lv_iload_n hx hb dX1_move_75 rfl (lv_at hl 1 rfl) ?_
  refine ga_iald hx hb hK hP 3 0 rfl rfl i (v := nI (cf i)) rfl (by omega) (by decide) dX1_move_76 ?_
  refine lv_iadd hx hb dX1_move_77 ?_
  refine ga_is (y := nI (i * 6 + cf i)) (by rw [show (6 : Int32) = nI 6 from rfl, pk_mul, nI_add, Nat.mul_comm 6 i]) ?_
  refine lv_iload_n hx hb dX1_move_78 rfl (lv_at hl 2 rfl) ?_
  refine ga_iast hx hb hK hP hD hS 4 0 rfl rfl (i * 6 + cf i) (by omega) (by decide) (upd_nI _ _ j) (ws' := MW cI cZ a 0 n wv lo cf (va_up tf (i * 6 + cf i) j) vs nr) rfl dX1_move_79 (fun H locs hP hD hS => ?_)
  refine lv_aload_n hx hb dX1_move_80 rfl (lv_at hl 0 rfl) ?_
  refine va_get (D := (dC, dI)) (ci := 1) (v := .ref (a 3)) (C := RX1) (T := TX1) (N := 8) hx hb hts hiw hown hK hP 0 rfl rfl 4 (by decide) hf_17 (fun _ h9 => h9) rfl dX1_move_81 ?_
  refine lv_iload_n hx hb dX1_move_84 rfl (lv_at hl 1 rfl) ?_
  refine lv_dup2_11 hx hb dX1_move_85 rfl rfl ?_
  refine ga_iald hx hb hK hP 3 0 rfl rfl i (v := nI (cf i)) rfl (by omega) (by decide) dX1_move_86 ?_
  refine lv_iconst (v := 1) hx hb dX1_move_87 (by decide) ?_
  refine lv_iadd hx hb dX1_move_88 ?_
  refine ga_is (y := nI (cf i + 1)) (nI_1 _) ?_
  refine ga_iast hx hb hK hP hD hS 3 0 rfl rfl i (by omega) (by decide) (upd_nI _ _ (cf i + 1)) (ws' := MW cI cZ a 0 n wv lo (va_up cf i (cf i + 1)) (va_up tf (i * 6 + cf i) j) vs nr) rfl dX1_move_89 (fun H locs hP hD hS => ?_)
  refine lv_aload_n hx hb dX1_move_90 rfl (lv_at hl 0 rfl) ?_
  refine va_get (D := (dC, dI)) (ci := 1) (v := .ref (a 3)) (C := RX1) (T := TX1) (N := 8) hx hb hts hiw hown hK hP 0 rfl rfl 4 (by decide) hf_17 (fun _ h9 => h9) rfl dX1_move_91 ?_
  refine lv_iload_n hx hb dX1_move_94 rfl (lv_at hl 1 rfl) ?_
  refine ga_iald hx hb hK hP 3 0 rfl rfl i (v := nI ((va_up cf i (cf i + 1)) i)) rfl (by omega) (by decide) dX1_move_95 ?_
  refine lv_iconst (v := 1) hx hb dX1_move_96 (by decide) ?_
  refine lv_isub hx hb dX1_move_97 ?_
  refine ga_is (y := nI (cf i)) (by rw [va_up_self]; exact nI_pred _) ?_
  exact W.iret (v := (nI (cf i))) hx hb hr (fun t ht hW => ⟨⟨(nI (cf i)), (), rfl, rfl, by rw [ht]; exact hP, va_K.moved hW.alike hK, hD⟩, hS.F ht⟩) hS.2.2 dX1_move_98
set_option maxHeartbeats 4000000 in
set_option maxRecDepth 100000 in
/-- move, full -/
theorem kX1_move_f (l : Launch) (dC : Nat → ClassId) (dI : Nat → Nat → Nat) (cI cZ cA : ClassId) (a : Nat → Nat) (sz : Nat) (th : Nat) (n : Nat) (wv : Nat → Int32) (lo : Nat → Int32) (cf : Nat → Nat) (tf : Nat → Nat) (vs : Nat → Int32) (nr : Nat → Nat) (i j : Nat) (hn4 : n ≤ 400) (hi : i < n) (hj : j < n) (hc : cf i = 6) : Met l yX1_move wsX1_move ({ frames := 1, cells := 0, slots := 0, locals := 21 }) (va_Pc [.ref (a 0), .int (nI i), .int (nI j)] (WP dC dI (GT cI cZ cA) (MW cI cZ a th n wv lo cf tf vs nr) sz)) (va_Qi (fun r (_ : Unit) => r = 0) (fun (_ : Unit) => WQ dC dI (GT cI cZ cA) (va_A (MW cI cZ a th n wv lo cf tf vs nr) sz) (MW cI cZ a 2 n wv lo cf tf vs nr)) (va_A (MW cI cZ a th n wv lo cf tf vs nr) sz)) 0 0 (va_A (MW cI cZ a th n wv lo cf tf vs nr) sz) := by
  refine Met.ofW (cc := cX1_move) (maxL := 3) (ret := (some .int)) (by decide) rfl ?_
  intro p e s m args below meth c s₁ B hml hv
  obtain ⟨rfl, hsz, hP, hK, hD0⟩ := hv
  have hx := B.exec
  have hb := B.bytes
  have hr := B.returns
  have hts := atoms_spec (ws := wsX1_move) B.pre
  have hown : s.vm.findClass RX1 = some m.cls := findClass_of_methodNamed B.named
  have hlocks := B.notSynchronized
  have hf_29 := hts (.fieldLink RX1 29 "GraphSearchModel" "thrown" "I") (by decide +kernel)
  have hf_17 := hts (.fieldLink RX1 17 "GraphSearchModel" "many" "[I") (by decide +kernel)
  have hf_20 := hts (.fieldLink RX1 20 "GraphSearchModel" "to" "[I") (by decide +kernel)
  have hiw : ∀ w ∈ wsX10, w ∈ wsX1_move := by decide +kernel
  subst hsz
  have hD := hD0.self (sz := s.heap.size)
  generalize hAe : va_A (MW cI cZ a th n wv lo cf tf vs nr) s.heap.size = A at hD ⊢
  have hA : ∀ q : Nat, s.heap.size ≤ q → A q := fun q h => by rw [← hAe]; exact Or.inr h
  have hS : va_S A s.heap s.heap [] := va_S.rf
  have hP : va_P (dC, dI) vwCl (MW cI cZ a th n wv lo cf tf vs nr) s.heap := hP
  have hl := lv_entry ([.ref (a 0), .int (nI i), .int (nI j)]) (n := 3) (Nat.le_of_ble_eq_true rfl)
  rw [lg_entry_eq]
  generalize (lg_sl ([.ref (a 0), .int (nI i), .int (nI j)]) ++ List.replicate (3 - (lg_sl ([.ref (a 0), .int (nI i), .int (nI j)])).length) Slot.unset).toArray = ls at hl ⊢
  have hl : lv_has ls 3 [(0, .ref (a 0)), (1, .int (nI i)), (2, .int (nI j))] := hl
  refine lv_aload_n hx hb dX1_move_0 rfl (lv_at hl 0 rfl) ?_
  refine lv_aload_n hx hb dX1_move_1 rfl (lv_at hl 0 rfl) ?_
  refine lv_iload_n hx hb dX1_move_2 rfl (lv_at hl 1 rfl) ?_
  refine W.callR (r := isn (nI i) n) (W.runV (As := [.int (nI i)]) (rest := [.ref (a 0)]) ⟨hx, hb, hml, hown, hts⟩ (kX1_isNode l dC dI cI cZ cA a th n wv lo cf tf vs nr (nI i)) (cwV 1 hts gX1_move_X1_isNode rfl rfl rfl (by decide +kernel) ⟨Nat.le_of_ble_eq_true rfl, Nat.le_of_ble_eq_true rfl⟩) ⟨blindR, va_recv hK hP (ci := 1) (q0 := 0) rfl rfl, preR hP hK⟩ rfl rfl hl.1 rfl (lv_room (Nat.le_of_ble_eq_true rfl)) dX1_move_3 ⟨Nat.zero_le _, Nat.zero_le _⟩) ?_
  refine W.eq (g2 := F0 m 6 ls [.int (isn (nI i) n), .ref (a 0)]) rfl ?_
  refine lv_if_eq (tgt := 21) hx hb dX1_move_6 (by decide) (fun h6 => absurd h6 (by rw [isn_1 hi (by omega)]; decide)) (fun h6 => ?_)
  refine lv_aload_n hx hb dX1_move_9 rfl (lv_at hl 0 rfl) ?_
  refine lv_iload_n hx hb dX1_move_10 rfl (lv_at hl 2 rfl) ?_
  refine W.callR (r := isn (nI j) n) (W.runV (As := [.int (nI j)]) (rest := [.ref (a 0)]) ⟨hx, hb, hml, hown, hts⟩ (kX1_isNode l dC dI cI cZ cA a th n wv lo cf tf vs nr (nI j)) (cwV 1 hts gX1_move_X1_isNode rfl rfl rfl (by decide +kernel) ⟨Nat.le_of_ble_eq_true rfl, Nat.le_of_ble_eq_true rfl⟩) ⟨blindR, va_recv hK hP (ci := 1) (q0 := 0) rfl rfl, preR hP hK⟩ rfl rfl hl.1 rfl (lv_room (Nat.le_of_ble_eq_true rfl)) dX1_move_11 ⟨Nat.zero_le _, Nat.zero_le _⟩) ?_
  refine W.eq (g2 := F0 m 14 ls [.int (isn (nI j) n), .ref (a 0)]) rfl ?_
  refine lv_if_eq (tgt := 21) hx hb dX1_move_14 (by decide) (fun h14 => absurd h14 (by rw [isn_1 hj (by omega)]; decide)) (fun h14 => ?_)
  refine lv_iconst (v := 0) hx hb dX1_move_17 (by decide) ?_
  refine lv_goto (tgt := 22) hx hb dX1_move_18 (by decide) ?_
  refine ga_is (y := nI 0) (rfl) ?_
  refine va_put (D := (dC, dI)) (ci := 1) (v := .int (nI 0)) (ty := .int) (C := RX1) (T := TX1) (N := 8) hx hb hts hiw tyX1 tyX1_ok nmX1 hown hK hP hD hS 0 rfl rfl 0 (by decide) hf_29 (fun _ h9 => h9) rfl (by decide +kernel) rfl rfl (Nat.le_of_ble_eq_true rfl) dX1_move_22 (fun H locs hP hD hS => ?_)
  have hP : va_P (dC, dI) vwCl (MW cI cZ a 0 n wv lo cf tf vs nr) H := hP
  have hD : va_D A (MW cI cZ a 0 n wv lo cf tf vs nr) := hD
  refine lv_aload_n hx hb dX1_move_25 rfl (lv_at hl 0 rfl) ?_
  refine va_get (D := (dC, dI)) (ci := 1) (v := .int (nI 0)) (C := RX1) (T := TX1) (N := 8) hx hb hts hiw hown hK hP 0 rfl rfl 0 (by decide) hf_29 (fun _ h9 => h9) rfl dX1_move_26 ?_
  refine lv_if_le (tgt := 34) hx hb dX1_move_29 (by decide) (fun h29 => ?_) (fun h29 => absurd (show nI 0 ≤ 0 from Int32.le_refl _) h29)
  refine lv_aload_n hx hb dX1_move_34 rfl (lv_at hl 0 rfl) ?_
  refine lv_aload_n hx hb dX1_move_35 rfl (lv_at hl 0 rfl) ?_
  refine va_get (D := (dC, dI)) (ci := 1) (v := .ref (a 3)) (C := RX1) (T := TX1) (N := 8) hx hb hts hiw hown hK hP 0 rfl rfl 4 (by decide) hf_17 (fun _ h9 => h9) rfl dX1_move_36 ?_
  refine lv_iload_n hx hb dX1_move_39 rfl (lv_at hl 1 rfl) ?_
  refine ga_iald hx hb hK hP 3 0 rfl rfl i (v := nI (cf i)) rfl (by omega) (by decide) dX1_move_40 ?_
  refine lv_bipush (v := 6) hx hb dX1_move_41 (by decide) ?_
  refine lv_icmp_ne (tgt := 50) hx hb dX1_move_43 (by decide) (fun h43 => absurd (show nI (cf i) = 6 by rw [hc]; rfl) h43) (fun h43 => ?_)
  refine lv_iconst (v := 2) hx hb dX1_move_46 (by decide) ?_
  refine lv_goto (tgt := 51) hx hb dX1_move_47 (by decide) ?_
  refine ga_is (y := nI 2) (rfl) ?_
  refine va_put (D := (dC, dI)) (ci := 1) (v := .int (nI 2)) (ty := .int) (C := RX1) (T := TX1) (N := 8) hx hb hts hiw tyX1 tyX1_ok nmX1 hown hK hP hD hS 0 rfl rfl 0 (by decide) hf_29 (fun _ h9 => h9) rfl (by decide +kernel) rfl rfl (Nat.le_of_ble_eq_true rfl) dX1_move_51 (fun H locs hP hD hS => ?_)
  have hP : va_P (dC, dI) vwCl (MW cI cZ a 2 n wv lo cf tf vs nr) H := hP
  have hD : va_D A (MW cI cZ a 2 n wv lo cf tf vs nr) := hD
  refine lv_aload_n hx hb dX1_move_54 rfl (lv_at hl 0 rfl) ?_
  refine va_get (D := (dC, dI)) (ci := 1) (v := .int (nI 2)) (C := RX1) (T := TX1) (N := 8) hx hb hts hiw hown hK hP 0 rfl rfl 0 (by decide) hf_29 (fun _ h9 => h9) rfl dX1_move_55 ?_
  refine lv_if_le (tgt := 63) hx hb dX1_move_58 (by decide) (fun h58 => absurd h58 (nI_nle (by decide) (by decide))) (fun h58 => ?_)
  refine lv_iconst (v := 0) hx hb dX1_move_61 (by decide) ?_
  exact W.iret (v := 0) hx hb hr (fun t ht hW => ⟨⟨0, (), rfl, rfl, by rw [ht]; exact hP, va_K.moved hW.alike hK, hD⟩, hS.F ht⟩) hS.2.2 dX1_move_62
set_option maxHeartbeats 4000000 in
set_option maxRecDepth 100000 in
/-- move, no such nodes -/
theorem kX1_move_n (l : Launch) (dC : Nat → ClassId) (dI : Nat → Nat → Nat) (cI cZ cA : ClassId) (a : Nat → Nat) (sz : Nat) (th : Nat) (n : Nat) (wv : Nat → Int32) (lo : Nat → Int32) (cf : Nat → Nat) (tf : Nat → Nat) (vs : Nat → Int32) (nr : Nat → Nat) (x y : Int32) (hno : isn x n = 0 ∨ isn y n = 0) : Met l yX1_move wsX1_move ({ frames := 1, cells := 0, slots := 0, locals := 21 }) (va_Pc [.ref (a 0), .int x, .int y] (WP dC dI (GT cI cZ cA) (MW cI cZ a th n wv lo cf tf vs nr) sz)) (va_Qi (fun r (_ : Unit) => r = 0) (fun (_ : Unit) => WQ dC dI (GT cI cZ cA) (va_A (MW cI cZ a th n wv lo cf tf vs nr) sz) (MW cI cZ a 1 n wv lo cf tf vs nr)) (va_A (MW cI cZ a th n wv lo cf tf vs nr) sz)) 0 0 (va_A (MW cI cZ a th n wv lo cf tf vs nr) sz) := by
  refine Met.ofW (cc := cX1_move) (maxL := 3) (ret := (some .int)) (by decide) rfl ?_
  intro p e s m args below meth c s₁ B hml hv
  obtain ⟨rfl, hsz, hP, hK, hD0⟩ := hv
  have hx := B.exec
  have hb := B.bytes
  have hr := B.returns
  have hts := atoms_spec (ws := wsX1_move) B.pre
  have hown : s.vm.findClass RX1 = some m.cls := findClass_of_methodNamed B.named
  have hlocks := B.notSynchronized
  have hf_29 := hts (.fieldLink RX1 29 "GraphSearchModel" "thrown" "I") (by decide +kernel)
  have hf_17 := hts (.fieldLink RX1 17 "GraphSearchModel" "many" "[I") (by decide +kernel)
  have hf_20 := hts (.fieldLink RX1 20 "GraphSearchModel" "to" "[I") (by decide +kernel)
  have hiw : ∀ w ∈ wsX10, w ∈ wsX1_move := by decide +kernel
  subst hsz
  have hD := hD0.self (sz := s.heap.size)
  generalize hAe : va_A (MW cI cZ a th n wv lo cf tf vs nr) s.heap.size = A at hD ⊢
  have hA : ∀ q : Nat, s.heap.size ≤ q → A q := fun q h => by rw [← hAe]; exact Or.inr h
  have hS : va_S A s.heap s.heap [] := va_S.rf
  have hP : va_P (dC, dI) vwCl (MW cI cZ a th n wv lo cf tf vs nr) s.heap := hP
  have hl := lv_entry ([.ref (a 0), .int x, .int y]) (n := 3) (Nat.le_of_ble_eq_true rfl)
  rw [lg_entry_eq]
  generalize (lg_sl ([.ref (a 0), .int x, .int y]) ++ List.replicate (3 - (lg_sl ([.ref (a 0), .int x, .int y])).length) Slot.unset).toArray = ls at hl ⊢
  have hl : lv_has ls 3 [(0, .ref (a 0)), (1, .int x), (2, .int y)] := hl
  refine lv_aload_n hx hb dX1_move_0 rfl (lv_at hl 0 rfl) ?_
  refine lv_aload_n hx hb dX1_move_1 rfl (lv_at hl 0 rfl) ?_
  refine lv_iload_n hx hb dX1_move_2 rfl (lv_at hl 1 rfl) ?_
  refine W.callR (r := isn x n) (W.runV (As := [.int x]) (rest := [.ref (a 0)]) ⟨hx, hb, hml, hown, hts⟩ (kX1_isNode l dC dI cI cZ cA a th n wv lo cf tf vs nr x) (cwV 1 hts gX1_move_X1_isNode rfl rfl rfl (by decide +kernel) ⟨Nat.le_of_ble_eq_true rfl, Nat.le_of_ble_eq_true rfl⟩) ⟨blindR, va_recv hK hP (ci := 1) (q0 := 0) rfl rfl, preR hP hK⟩ rfl rfl hl.1 rfl (lv_room (Nat.le_of_ble_eq_true rfl)) dX1_move_3 ⟨Nat.zero_le _, Nat.zero_le _⟩) ?_
  refine W.eq (g2 := F0 m 6 ls [.int (isn x n), .ref (a 0)]) rfl ?_
  refine lv_if_eq (tgt := 21) hx hb dX1_move_6 (by decide) (fun h6 => ?_) (fun h6 => ?_)
  · refine lv_iconst (v := 1) hx hb dX1_move_21 (by decide) ?_
    refine ga_is (y := nI 1) (rfl) ?_
    refine va_put (D := (dC, dI)) (ci := 1) (v := .int (nI 1)) (ty := .int) (C := RX1) (T := TX1) (N := 8) hx hb hts hiw tyX1 tyX1_ok nmX1 hown hK hP hD hS 0 rfl rfl 0 (by decide) hf_29 (fun _ h9 => h9) rfl (by decide +kernel) rfl rfl (Nat.le_of_ble_eq_true rfl) dX1_move_22 (fun H locs hP hD hS => ?_)
    have hP : va_P (dC, dI) vwCl (MW cI cZ a 1 n wv lo cf tf vs nr) H := hP
    have hD : va_D A (MW cI cZ a 1 n wv lo cf tf vs nr) := hD
    refine lv_aload_n hx hb dX1_move_25 rfl (lv_at hl 0 rfl) ?_
    refine va_get (D := (dC, dI)) (ci := 1) (v := .int (nI 1)) (C := RX1) (T := TX1) (N := 8) hx hb hts hiw hown hK hP 0 rfl rfl 0 (by decide) hf_29 (fun _ h9 => h9) rfl dX1_move_26 ?_
    refine lv_if_le (tgt := 34) hx hb dX1_move_29 (by decide) (fun h29 => absurd h29 (nI_nle (by decide) (by decide))) (fun h29 => ?_)
    refine lv_iconst (v := 0) hx hb dX1_move_32 (by decide) ?_
    exact W.iret (v := 0) hx hb hr (fun t ht hW => ⟨⟨0, (), rfl, rfl, by rw [ht]; exact hP, va_K.moved hW.alike hK, hD⟩, hS.F ht⟩) hS.2.2 dX1_move_33
  · refine lv_aload_n hx hb dX1_move_9 rfl (lv_at hl 0 rfl) ?_
    refine lv_iload_n hx hb dX1_move_10 rfl (lv_at hl 2 rfl) ?_
    refine W.callR (r := isn y n) (W.runV (As := [.int y]) (rest := [.ref (a 0)]) ⟨hx, hb, hml, hown, hts⟩ (kX1_isNode l dC dI cI cZ cA a th n wv lo cf tf vs nr y) (cwV 1 hts gX1_move_X1_isNode rfl rfl rfl (by decide +kernel) ⟨Nat.le_of_ble_eq_true rfl, Nat.le_of_ble_eq_true rfl⟩) ⟨blindR, va_recv hK hP (ci := 1) (q0 := 0) rfl rfl, preR hP hK⟩ rfl rfl hl.1 rfl (lv_room (Nat.le_of_ble_eq_true rfl)) dX1_move_11 ⟨Nat.zero_le _, Nat.zero_le _⟩) ?_
    refine W.eq (g2 := F0 m 14 ls [.int (isn y n), .ref (a 0)]) rfl ?_
    refine lv_if_eq (tgt := 21) hx hb dX1_move_14 (by decide) (fun h14 => ?_) (fun h14 => absurd (hno.resolve_left h6) h14)
    refine lv_iconst (v := 1) hx hb dX1_move_21 (by decide) ?_
    refine ga_is (y := nI 1) (rfl) ?_
    refine va_put (D := (dC, dI)) (ci := 1) (v := .int (nI 1)) (ty := .int) (C := RX1) (T := TX1) (N := 8) hx hb hts hiw tyX1 tyX1_ok nmX1 hown hK hP hD hS 0 rfl rfl 0 (by decide) hf_29 (fun _ h9 => h9) rfl (by decide +kernel) rfl rfl (Nat.le_of_ble_eq_true rfl) dX1_move_22 (fun H locs hP hD hS => ?_)
    have hP : va_P (dC, dI) vwCl (MW cI cZ a 1 n wv lo cf tf vs nr) H := hP
    have hD : va_D A (MW cI cZ a 1 n wv lo cf tf vs nr) := hD
    refine lv_aload_n hx hb dX1_move_25 rfl (lv_at hl 0 rfl) ?_
    refine va_get (D := (dC, dI)) (ci := 1) (v := .int (nI 1)) (C := RX1) (T := TX1) (N := 8) hx hb hts hiw hown hK hP 0 rfl rfl 0 (by decide) hf_29 (fun _ h9 => h9) rfl dX1_move_26 ?_
    refine lv_if_le (tgt := 34) hx hb dX1_move_29 (by decide) (fun h29 => absurd h29 (nI_nle (by decide) (by decide))) (fun h29 => ?_)
    refine lv_iconst (v := 0) hx hb dX1_move_32 (by decide) ?_
    exact W.iret (v := 0) hx hb hr (fun t ht hW => ⟨⟨0, (), rfl, rfl, by rw [ht]; exact hP, va_K.moved hW.alike hK, hD⟩, hS.F ht⟩) hS.2.2 dX1_move_33
set_option maxHeartbeats 4000000 in
set_option maxRecDepth 100000 in
/-- drop, no such node -/
theorem kX1_drop_n (l : Launch) (dC : Nat → ClassId) (dI : Nat → Nat → Nat) (cI cZ cA : ClassId) (a : Nat → Nat) (sz : Nat) (th : Nat) (n : Nat) (wv : Nat → Int32) (lo : Nat → Int32) (cf : Nat → Nat) (tf : Nat → Nat) (vs : Nat → Int32) (nr : Nat → Nat) (x : Int32) (hno : isn x n = 0) : Met l yX1_drop wsX1_drop ({ frames := 1, cells := 0, slots := 0, locals := 21 }) (va_Pc [.ref (a 0), .int x] (WP dC dI (GT cI cZ cA) (MW cI cZ a th n wv lo cf tf vs nr) sz)) (va_Qi (fun r (_ : Unit) => r = 0) (fun (_ : Unit) => WQ dC dI (GT cI cZ cA) (va_A (MW cI cZ a th n wv lo cf tf vs nr) sz) (MW cI cZ a 0 n wv lo cf tf vs nr)) (va_A (MW cI cZ a th n wv lo cf tf vs nr) sz)) 0 0 (va_A (MW cI cZ a th n wv lo cf tf vs nr) sz) := by
  refine Met.ofW (cc := cX1_drop) (maxL := 2) (ret := (some .boolean)) (by decide) rfl ?_
  intro p e s m args below meth c s₁ B hml hv
  obtain ⟨rfl, hsz, hP, hK, hD0⟩ := hv
  have hx := B.exec
  have hb := B.bytes
  have hr := B.returns
  have hts := atoms_spec (ws := wsX1_drop) B.pre
  have hown : s.vm.findClass RX1 = some m.cls := findClass_of_methodNamed B.named
  have hlocks := B.notSynchronized
  have hf_29 := hts (.fieldLink RX1 29 "GraphSearchModel" "thrown" "I") (by decide +kernel)
  have hf_17 := hts (.fieldLink RX1 17 "GraphSearchModel" "many" "[I") (by decide +kernel)
  have hiw : ∀ w ∈ wsX10, w ∈ wsX1_drop := by decide +kernel
  subst hsz
  have hD := hD0.self (sz := s.heap.size)
  generalize hAe : va_A (MW cI cZ a th n wv lo cf tf vs nr) s.heap.size = A at hD ⊢
  have hA : ∀ q : Nat, s.heap.size ≤ q → A q := fun q h => by rw [← hAe]; exact Or.inr h
  have hS : va_S A s.heap s.heap [] := va_S.rf
  have hP : va_P (dC, dI) vwCl (MW cI cZ a th n wv lo cf tf vs nr) s.heap := hP
  have hl := lv_entry ([.ref (a 0), .int x]) (n := 2) (Nat.le_of_ble_eq_true rfl)
  rw [lg_entry_eq]
  generalize (lg_sl ([.ref (a 0), .int x]) ++ List.replicate (2 - (lg_sl ([.ref (a 0), .int x])).length) Slot.unset).toArray = ls at hl ⊢
  have hl : lv_has ls 2 [(0, .ref (a 0)), (1, .int x)] := hl
  refine lv_aload_n hx hb dX1_drop_0 rfl (lv_at hl 0 rfl) ?_
  refine lv_iconst (v := 0) hx hb dX1_drop_1 (by decide) ?_
  refine ga_is (y := nI 0) (rfl) ?_
  refine va_put (D := (dC, dI)) (ci := 1) (v := .int (nI 0)) (ty := .int) (C := RX1) (T := TX1) (N := 8) hx hb hts hiw tyX1 tyX1_ok nmX1 hown hK hP hD hS 0 rfl rfl 0 (by decide) hf_29 (fun _ h9 => h9) rfl (by decide +kernel) rfl rfl (Nat.le_of_ble_eq_true rfl) dX1_drop_2 (fun H locs hP hD hS => ?_)
  have hP : va_P (dC, dI) vwCl (MW cI cZ a 0 n wv lo cf tf vs nr) H := hP
  have hD : va_D A (MW cI cZ a 0 n wv lo cf tf vs nr) := hD
  refine lv_aload_n hx hb dX1_drop_5 rfl (lv_at hl 0 rfl) ?_
  refine lv_iload_n hx hb dX1_drop_6 rfl (lv_at hl 1 rfl) ?_
  refine W.callR (r := isn x n) (W.runV (As := [.int x]) (rest := []) ⟨hx, hb, hml, hown, hts⟩ (kX1_isNode l dC dI cI cZ cA a 0 n wv lo cf tf vs nr x) (cwV 1 hts gX1_drop_X1_isNode rfl rfl rfl (by decide +kernel) ⟨Nat.le_of_ble_eq_true rfl, Nat.le_of_ble_eq_true rfl⟩) ⟨blindR, va_recv hK hP (ci := 1) (q0 := 0) rfl rfl, preR hP hK⟩ rfl rfl hl.1 rfl (lv_room (Nat.le_of_ble_eq_true rfl)) dX1_drop_7 ⟨Nat.zero_le _, Nat.zero_le _⟩) ?_
  refine W.eq (g2 := F0 m 10 ls [.int (isn x n)]) rfl ?_
  refine lv_if_eq (tgt := 34) hx hb dX1_drop_10 (by decide) (fun h10 => ?_) (fun h10 => absurd hno h10)
  refine lv_iconst (v := 0) hx hb dX1_drop_34 (by decide) ?_
  exact W.zret (v := 0) hx hb hr (by decide) (fun t ht hW => ⟨⟨0, (), rfl, rfl, by rw [ht]; exact hP, va_K.moved hW.alike hK, hD⟩, hS.F ht⟩) hS.2.2 dX1_drop_35
set_option maxHeartbeats 4000000 in
set_option maxRecDepth 100000 in
/-- drop, a node without moves -/
theorem kX1_drop_z (l : Launch) (dC : Nat → ClassId) (dI : Nat → Nat → Nat) (cI cZ cA : ClassId) (a : Nat → Nat) (sz : Nat) (th : Nat) (n : Nat) (wv : Nat → Int32) (lo : Nat → Int32) (cf : Nat → Nat) (tf : Nat → Nat) (vs : Nat → Int32) (nr : Nat → Nat) (j : Nat) (hn4 : n ≤ 400) (hj : j < n) (hc : cf j = 0) : Met l yX1_drop wsX1_drop ({ frames := 1, cells := 0, slots := 0, locals := 21 }) (va_Pc [.ref (a 0), .int (nI j)] (WP dC dI (GT cI cZ cA) (MW cI cZ a th n wv lo cf tf vs nr) sz)) (va_Qi (fun r (_ : Unit) => r = 0) (fun (_ : Unit) => WQ dC dI (GT cI cZ cA) (va_A (MW cI cZ a th n wv lo cf tf vs nr) sz) (MW cI cZ a 0 n wv lo cf tf vs nr)) (va_A (MW cI cZ a th n wv lo cf tf vs nr) sz)) 0 0 (va_A (MW cI cZ a th n wv lo cf tf vs nr) sz) := by
  refine Met.ofW (cc := cX1_drop) (maxL := 2) (ret := (some .boolean)) (by decide) rfl ?_
  intro p e s m args below meth c s₁ B hml hv
  obtain ⟨rfl, hsz, hP, hK, hD0⟩ := hv
  have hx := B.exec
  have hb := B.bytes
  have hr := B.returns
  have hts := atoms_spec (ws := wsX1_drop) B.pre
  have hown : s.vm.findClass RX1 = some m.cls := findClass_of_methodNamed B.named
  have hlocks := B.notSynchronized
  have hf_29 := hts (.fieldLink RX1 29 "GraphSearchModel" "thrown" "I") (by decide +kernel)
  have hf_17 := hts (.fieldLink RX1 17 "GraphSearchModel" "many" "[I") (by decide +kernel)
  have hiw : ∀ w ∈ wsX10, w ∈ wsX1_drop := by decide +kernel
  subst hsz
  have hD := hD0.self (sz := s.heap.size)
  generalize hAe : va_A (MW cI cZ a th n wv lo cf tf vs nr) s.heap.size = A at hD ⊢
  have hA : ∀ q : Nat, s.heap.size ≤ q → A q := fun q h => by rw [← hAe]; exact Or.inr h
  have hS : va_S A s.heap s.heap [] := va_S.rf
  have hP : va_P (dC, dI) vwCl (MW cI cZ a th n wv lo cf tf vs nr) s.heap := hP
  have hl := lv_entry ([.ref (a 0), .int (nI j)]) (n := 2) (Nat.le_of_ble_eq_true rfl)
  rw [lg_entry_eq]
  generalize (lg_sl ([.ref (a 0), .int (nI j)]) ++ List.replicate (2 - (lg_sl ([.ref (a 0), .int (nI j)])).length) Slot.unset).toArray = ls at hl ⊢
  have hl : lv_has ls 2 [(0, .ref (a 0)), (1, .int (nI j))] := hl
  refine lv_aload_n hx hb dX1_drop_0 rfl (lv_at hl 0 rfl) ?_
  refine lv_iconst (v := 0) hx hb dX1_drop_1 (by decide) ?_
  refine ga_is (y := nI 0) (rfl) ?_
  refine va_put (D := (dC, dI)) (ci := 1) (v := .int (nI 0)) (ty := .int) (C := RX1) (T := TX1) (N := 8) hx hb hts hiw tyX1 tyX1_ok nmX1 hown hK hP hD hS 0 rfl rfl 0 (by decide) hf_29 (fun _ h9 => h9) rfl (by decide +kernel) rfl rfl (Nat.le_of_ble_eq_true rfl) dX1_drop_2 (fun H locs hP hD hS => ?_)
  have hP : va_P (dC, dI) vwCl (MW cI cZ a 0 n wv lo cf tf vs nr) H := hP
  have hD : va_D A (MW cI cZ a 0 n wv lo cf tf vs nr) := hD
  refine lv_aload_n hx hb dX1_drop_5 rfl (lv_at hl 0 rfl) ?_
  refine lv_iload_n hx hb dX1_drop_6 rfl (lv_at hl 1 rfl) ?_
  refine W.callR (r := isn (nI j) n) (W.runV (As := [.int (nI j)]) (rest := []) ⟨hx, hb, hml, hown, hts⟩ (kX1_isNode l dC dI cI cZ cA a 0 n wv lo cf tf vs nr (nI j)) (cwV 1 hts gX1_drop_X1_isNode rfl rfl rfl (by decide +kernel) ⟨Nat.le_of_ble_eq_true rfl, Nat.le_of_ble_eq_true rfl⟩) ⟨blindR, va_recv hK hP (ci := 1) (q0 := 0) rfl rfl, preR hP hK⟩ rfl rfl hl.1 rfl (lv_room (Nat.le_of_ble_eq_true rfl)) dX1_drop_7 ⟨Nat.zero_le _, Nat.zero_le _⟩) ?_
  refine W.eq (g2 := F0 m 10 ls [.int (isn (nI j) n)]) rfl ?_
  refine lv_if_eq (tgt := 34) hx hb dX1_drop_10 (by decide) (fun h10 => absurd h10 (by rw [isn_1 hj (by omega)]; decide)) (fun h10 => ?_)
  refine lv_aload_n hx hb dX1_drop_13 rfl (lv_at hl 0 rfl) ?_
  refine va_get (D := (dC, dI)) (ci := 1) (v := .ref (a 3)) (C := RX1) (T := TX1) (N := 8) hx hb hts hiw hown hK hP 0 rfl rfl 4 (by decide) hf_17 (fun _ h9 => h9) rfl dX1_drop_14 ?_
  refine lv_aload_n hx hb dX1_drop_17 rfl (lv_at hl 0 rfl) ?_
  refine lv_iload_n hx hb dX1_drop_18 rfl (lv_at hl 1 rfl) ?_
  refine W.callR (r := isn (nI j) n) (W.runV (As := [.int (nI j)]) (rest := [.ref (a 3)]) ⟨hx, hb, hml, hown, hts⟩ (kX1_isNode l dC dI cI cZ cA a 0 n wv lo cf tf vs nr (nI j)) (cwV 1 hts gX1_drop_X1_isNode rfl rfl rfl (by decide +kernel) ⟨Nat.le_of_ble_eq_true rfl, Nat.le_of_ble_eq_true rfl⟩) ⟨blindR, va_recv hK hP (ci := 1) (q0 := 0) rfl rfl, preR hP hK⟩ rfl rfl hl.1 rfl (lv_room (Nat.le_of_ble_eq_true rfl)) dX1_drop_19 ⟨Nat.zero_le _, Nat.zero_le _⟩) ?_
  refine W.eq (g2 := F0 m 22 ls [.int (isn (nI j) n), .ref (a 3)]) rfl ?_
  refine lv_if_eq (tgt := 29) hx hb dX1_drop_22 (by decide) (fun h22 => absurd h22 (by rw [isn_1 hj (by omega)]; decide)) (fun h22 => ?_)
  refine lv_iload_n hx hb dX1_drop_25 rfl (lv_at hl 1 rfl) ?_
  refine lv_goto (tgt := 30) hx hb dX1_drop_26 (by decide) ?_
  refine ga_iald hx hb hK hP 3 0 rfl rfl j (v := nI (cf j)) rfl (by omega) (by decide) dX1_drop_30 ?_
  refine lv_if_ne (tgt := 36) hx hb dX1_drop_31 (by decide) (fun h31 => absurd (show nI (cf j) = 0 by rw [hc]; rfl) h31) (fun h31 => ?_)
  refine lv_iconst (v := 0) hx hb dX1_drop_34 (by decide) ?_
  exact W.zret (v := 0) hx hb hr (by decide) (fun t ht hW => ⟨⟨0, (), rfl, rfl, by rw [ht]; exact hP, va_K.moved hW.alike hK, hD⟩, hS.F ht⟩) hS.2.2 dX1_drop_35
set_option maxHeartbeats 4000000 in
set_option maxRecDepth 100000 in
/-- drop -/
theorem kX1_drop (l : Launch) (dC : Nat → ClassId) (dI : Nat → Nat → Nat) (cI cZ cA : ClassId) (a : Nat → Nat) (sz : Nat) (th : Nat) (n : Nat) (wv : Nat → Int32) (lo : Nat → Int32) (cf : Nat → Nat) (tf : Nat → Nat) (vs : Nat → Int32) (nr : Nat → Nat) (j c0 : Nat) (hn4 : n ≤ 400) (hj : j < n) (hc : cf j = c0 + 1) (hc6 : c0 < 6) : Met l yX1_drop wsX1_drop ({ frames := 1, cells := 0, slots := 0, locals := 21 }) (va_Pc [.ref (a 0), .int (nI j)] (WP dC dI (GT cI cZ cA) (MW cI cZ a th n wv lo cf tf vs nr) sz)) (va_Qi (fun r (_ : Unit) => r = 1) (fun (_ : Unit) => WQ dC dI (GT cI cZ cA) (va_A (MW cI cZ a th n wv lo cf tf vs nr) sz) (MW cI cZ a 0 n wv lo (va_up cf j c0) tf vs nr)) (va_A (MW cI cZ a th n wv lo cf tf vs nr) sz)) 0 0 (va_A (MW cI cZ a th n wv lo cf tf vs nr) sz) := by
  refine Met.ofW (cc := cX1_drop) (maxL := 2) (ret := (some .boolean)) (by decide) rfl ?_
  intro p e s m args below meth c s₁ B hml hv
  obtain ⟨rfl, hsz, hP, hK, hD0⟩ := hv
  have hx := B.exec
  have hb := B.bytes
  have hr := B.returns
  have hts := atoms_spec (ws := wsX1_drop) B.pre
  have hown : s.vm.findClass RX1 = some m.cls := findClass_of_methodNamed B.named
  have hlocks := B.notSynchronized
  have hf_29 := hts (.fieldLink RX1 29 "GraphSearchModel" "thrown" "I") (by decide +kernel)
  have hf_17 := hts (.fieldLink RX1 17 "GraphSearchModel" "many" "[I") (by decide +kernel)
  have hiw : ∀ w ∈ wsX10, w ∈ wsX1_drop := by decide +kernel
  subst hsz
  have hD := hD0.self (sz := s.heap.size)
  generalize hAe : va_A (MW cI cZ a th n wv lo cf tf vs nr) s.heap.size = A at hD ⊢
  have hA : ∀ q : Nat, s.heap.size ≤ q → A q := fun q h => by rw [← hAe]; exact Or.inr h
  have hS : va_S A s.heap s.heap [] := va_S.rf
  have hP : va_P (dC, dI) vwCl (MW cI cZ a th n wv lo cf tf vs nr) s.heap := hP
  have hl := lv_entry ([.ref (a 0), .int (nI j)]) (n := 2) (Nat.le_of_ble_eq_true rfl)
  rw [lg_entry_eq]
  generalize (lg_sl ([.ref (a 0), .int (nI j)]) ++ List.replicate (2 - (lg_sl ([.ref (a 0), .int (nI j)])).length) Slot.unset).toArray = ls at hl ⊢
  have hl : lv_has ls 2 [(0, .ref (a 0)), (1, .int (nI j))] := hl
  refine lv_aload_n hx hb dX1_drop_0 rfl (lv_at hl 0 rfl) ?_
  refine lv_iconst (v := 0) hx hb dX1_drop_1 (by decide) ?_
  refine ga_is (y := nI 0) (rfl) ?_
  refine va_put (D := (dC, dI)) (ci := 1) (v := .int (nI 0)) (ty := .int) (C := RX1) (T := TX1) (N := 8) hx hb hts hiw tyX1 tyX1_ok nmX1 hown hK hP hD hS 0 rfl rfl 0 (by decide) hf_29 (fun _ h9 => h9) rfl (by decide +kernel) rfl rfl (Nat.le_of_ble_eq_true rfl) dX1_drop_2 (fun H locs hP hD hS => ?_)
  have hP : va_P (dC, dI) vwCl (MW cI cZ a 0 n wv lo cf tf vs nr) H := hP
  have hD : va_D A (MW cI cZ a 0 n wv lo cf tf vs nr) := hD
  refine lv_aload_n hx hb dX1_drop_5 rfl (lv_at hl 0 rfl) ?_
  refine lv_iload_n hx hb dX1_drop_6 rfl (lv_at hl 1 rfl) ?_
  refine W.callR (r := isn (nI j) n) (W.runV (As := [.int (nI j)]) (rest := []) ⟨hx, hb, hml, hown, hts⟩ (kX1_isNode l dC dI cI cZ cA a 0 n wv lo cf tf vs nr (nI j)) (cwV 1 hts gX1_drop_X1_isNode rfl rfl rfl (by decide +kernel) ⟨Nat.le_of_ble_eq_true rfl, Nat.le_of_ble_eq_true rfl⟩) ⟨blindR, va_recv hK hP (ci := 1) (q0 := 0) rfl rfl, preR hP hK⟩ rfl rfl hl.1 rfl (lv_room (Nat.le_of_ble_eq_true rfl)) dX1_drop_7 ⟨Nat.zero_le _, Nat.zero_le _⟩) ?_
  refine W.eq (g2 := F0 m 10 ls [.int (isn (nI j) n)]) rfl ?_
  refine lv_if_eq (tgt := 34) hx hb dX1_drop_10 (by decide) (fun h10 => absurd h10 (by rw [isn_1 hj (by omega)]; decide)) (fun h10 => ?_)
  refine lv_aload_n hx hb dX1_drop_13 rfl (lv_at hl 0 rfl) ?_
  refine va_get (D := (dC, dI)) (ci := 1) (v := .ref (a 3)) (C := RX1) (T := TX1) (N := 8) hx hb hts hiw hown hK hP 0 rfl rfl 4 (by decide) hf_17 (fun _ h9 => h9) rfl dX1_drop_14 ?_
  refine lv_aload_n hx hb dX1_drop_17 rfl (lv_at hl 0 rfl) ?_
  refine lv_iload_n hx hb dX1_drop_18 rfl (lv_at hl 1 rfl) ?_
  refine W.callR (r := isn (nI j) n) (W.runV (As := [.int (nI j)]) (rest := [.ref (a 3)]) ⟨hx, hb, hml, hown, hts⟩ (kX1_isNode l dC dI cI cZ cA a 0 n wv lo cf tf vs nr (nI j)) (cwV 1 hts gX1_drop_X1_isNode rfl rfl rfl (by decide +kernel) ⟨Nat.le_of_ble_eq_true rfl, Nat.le_of_ble_eq_true rfl⟩) ⟨blindR, va_recv hK hP (ci := 1) (q0 := 0) rfl rfl, preR hP hK⟩ rfl rfl hl.1 rfl (lv_room (Nat.le_of_ble_eq_true rfl)) dX1_drop_19 ⟨Nat.zero_le _, Nat.zero_le _⟩) ?_
  refine W.eq (g2 := F0 m 22 ls [.int (isn (nI j) n), .ref (a 3)]) rfl ?_
  refine lv_if_eq (tgt := 29) hx hb dX1_drop_22 (by decide) (fun h22 => absurd h22 (by rw [isn_1 hj (by omega)]; decide)) (fun h22 => ?_)
  refine lv_iload_n hx hb dX1_drop_25 rfl (lv_at hl 1 rfl) ?_
  refine lv_goto (tgt := 30) hx hb dX1_drop_26 (by decide) ?_
  refine ga_iald hx hb hK hP 3 0 rfl rfl j (v := nI (cf j)) rfl (by omega) (by decide) dX1_drop_30 ?_
  refine lv_if_ne (tgt := 36) hx hb dX1_drop_31 (by decide) (fun h31 => ?_) (fun h31 => absurd h31 (by rw [hc]; exact nI_ne0 (by omega) (by omega)))
  refine lv_aload_n hx hb dX1_drop_36 rfl (lv_at hl 0 rfl) ?_
  refine va_get (D := (dC, dI)) (ci := 1) (v := .ref (a 3)) (C := RX1) (T := TX1) (N := 8) hx hb hts hiw hown hK hP 0 rfl rfl 4 (by decide) hf_17 (fun _ h9 => h9) rfl dX1_drop_37 ?_
  refine lv_iload_n hx hb dX1_drop_40 rfl (lv_at hl 1 rfl) ?_
  refine lv_dup2_11 hx hb dX1_drop_41 rfl rfl ?_
  refine ga_iald hx hb hK hP 3 0 rfl rfl j (v := nI (cf j)) rfl (by omega) (by decide) dX1_drop_42 ?_
  refine lv_iconst (v := 1) hx hb dX1_drop_43 (by decide) ?_
  refine lv_isub hx hb dX1_drop_44 ?_
  refine ga_is (y := nI c0) (by rw [hc]; exact nI_pred c0) ?_
  refine ga_iast hx hb hK hP hD hS 3 0 rfl rfl j (by omega) (by decide) (upd_nI _ _ c0) (ws' := MW cI cZ a 0 n wv lo (va_up cf j c0) tf vs nr) rfl dX1_drop_45 (fun H locs hP hD hS => ?_)
  refine lv_iconst (v := 1) hx hb dX1_drop_46 (by decide) ?_
  exact W.zret (v := 1) hx hb hr (by decide) (fun t ht hW => ⟨⟨1, (), rfl, rfl, by rw [ht]; exact hP, va_K.moved hW.alike hK, hD⟩, hS.F ht⟩) hS.2.2 dX1_drop_47
set_option maxHeartbeats 4000000 in
set_option maxRecDepth 100000 in
/-- change, no such node -/
theorem kX1_change_n (l : Launch) (dC : Nat → ClassId) (dI : Nat → Nat → Nat) (cI cZ cA : ClassId) (a : Nat → Nat) (sz : Nat) (th : Nat) (n : Nat) (wv : Nat → Int32) (lo : Nat → Int32) (cf : Nat → Nat) (tf : Nat → Nat) (vs : Nat → Int32) (nr : Nat → Nat) (x v b : Int32) (hno : isn x n = 0) : Met l yX1_change wsX1_change ({ frames := 1, cells := 0, slots := 0, locals := 21 }) (va_Pc [.ref (a 0), .int x, .int v, .int b] (WP dC dI (GT cI cZ cA) (MW cI cZ a th n wv lo cf tf vs nr) sz)) (va_Qi (fun r (_ : Unit) => r = 0) (fun (_ : Unit) => WQ dC dI (GT cI cZ cA) (va_A (MW cI cZ a th n wv lo cf tf vs nr) sz) (MW cI cZ a 0 n wv lo cf tf vs nr)) (va_A (MW cI cZ a th n wv lo cf tf vs nr) sz)) 0 0 (va_A (MW cI cZ a th n wv lo cf tf vs nr) sz) := by
  refine Met.ofW (cc := cX1_change) (maxL := 4) (ret := (some .boolean)) (by decide) rfl ?_
  intro p e s m args below meth c s₁ B hml hv
  obtain ⟨rfl, hsz, hP, hK, hD0⟩ := hv
  have hx := B.exec
  have hb := B.bytes
  have hr := B.returns
  have hts := atoms_spec (ws := wsX1_change) B.pre
  have hown : s.vm.findClass RX1 = some m.cls := findClass_of_methodNamed B.named
  have hlocks := B.notSynchronized
  have hf_29 := hts (.fieldLink RX1 29 "GraphSearchModel" "thrown" "I") (by decide +kernel)
  have hf_7 := hts (.fieldLink RX1 7 "GraphSearchModel" "worth" "[I") (by decide +kernel)
  have hf_13 := hts (.fieldLink RX1 13 "GraphSearchModel" "lost" "[Z") (by decide +kernel)
  have hiw : ∀ w ∈ wsX10, w ∈ wsX1_change := by decide +kernel
  subst hsz
  have hD := hD0.self (sz := s.heap.size)
  generalize hAe : va_A (MW cI cZ a th n wv lo cf tf vs nr) s.heap.size = A at hD ⊢
  have hA : ∀ q : Nat, s.heap.size ≤ q → A q := fun q h => by rw [← hAe]; exact Or.inr h
  have hS : va_S A s.heap s.heap [] := va_S.rf
  have hP : va_P (dC, dI) vwCl (MW cI cZ a th n wv lo cf tf vs nr) s.heap := hP
  have hl := lv_entry ([.ref (a 0), .int x, .int v, .int b]) (n := 4) (Nat.le_of_ble_eq_true rfl)
  rw [lg_entry_eq]
  generalize (lg_sl ([.ref (a 0), .int x, .int v, .int b]) ++ List.replicate (4 - (lg_sl ([.ref (a 0), .int x, .int v, .int b])).length) Slot.unset).toArray = ls at hl ⊢
  have hl : lv_has ls 4 [(0, .ref (a 0)), (1, .int x), (2, .int v), (3, .int b)] := hl
  refine lv_aload_n hx hb dX1_change_0 rfl (lv_at hl 0 rfl) ?_
  refine lv_iconst (v := 0) hx hb dX1_change_1 (by decide) ?_
  refine ga_is (y := nI 0) (rfl) ?_
  refine va_put (D := (dC, dI)) (ci := 1) (v := .int (nI 0)) (ty := .int) (C := RX1) (T := TX1) (N := 8) hx hb hts hiw tyX1 tyX1_ok nmX1 hown hK hP hD hS 0 rfl rfl 0 (by decide) hf_29 (fun _ h9 => h9) rfl (by decide +kernel) rfl rfl (Nat.le_of_ble_eq_true rfl) dX1_change_2 (fun H locs hP hD hS => ?_)
  have hP : va_P (dC, dI) vwCl (MW cI cZ a 0 n wv lo cf tf vs nr) H := hP
  have hD : va_D A (MW cI cZ a 0 n wv lo cf tf vs nr) := hD
  refine lv_aload_n hx hb dX1_change_5 rfl (lv_at hl 0 rfl) ?_
  refine lv_iload_n hx hb dX1_change_6 rfl (lv_at hl 1 rfl) ?_
  refine W.callR (r := isn x n) (W.runV (As := [.int x]) (rest := []) ⟨hx, hb, hml, hown, hts⟩ (kX1_isNode l dC dI cI cZ cA a 0 n wv lo cf tf vs nr x) (cwV 1 hts gX1_change_X1_isNode rfl rfl rfl (by decide +kernel) ⟨Nat.le_of_ble_eq_true rfl, Nat.le_of_ble_eq_true rfl⟩) ⟨blindR, va_recv hK hP (ci := 1) (q0 := 0) rfl rfl, preR hP hK⟩ rfl rfl hl.1 rfl (lv_room (Nat.le_of_ble_eq_true rfl)) dX1_change_7 ⟨Nat.zero_le _, Nat.zero_le _⟩) ?_
  refine W.eq (g2 := F0 m 10 ls [.int (isn x n)]) rfl ?_
  refine lv_if_eq (tgt := 20) hx hb dX1_change_10 (by decide) (fun h10 => ?_) (fun h10 => absurd hno h10)
  refine lv_iconst (v := 0) hx hb dX1_change_20 (by decide) ?_
  exact W.zret (v := 0) hx hb hr (by decide) (fun t ht hW => ⟨⟨0, (), rfl, rfl, by rw [ht]; exact hP, va_K.moved hW.alike hK, hD⟩, hS.F ht⟩) hS.2.2 dX1_change_21
set_option maxHeartbeats 4000000 in
set_option maxRecDepth 100000 in
/-- change, a wrong worth -/
theorem kX1_change_w (l : Launch) (dC : Nat → ClassId) (dI : Nat → Nat → Nat) (cI cZ cA : ClassId) (a : Nat → Nat) (sz : Nat) (th : Nat) (n : Nat) (wv : Nat → Int32) (lo : Nat → Int32) (cf : Nat → Nat) (tf : Nat → Nat) (vs : Nat → Int32) (nr : Nat → Nat) (j : Nat) (v b : Int32) (hn4 : n ≤ 400) (hj : j < n) (hno : iw v = 0) : Met l yX1_change wsX1_change ({ frames := 1, cells := 0, slots := 0, locals := 21 }) (va_Pc [.ref (a 0), .int (nI j), .int v, .int b] (WP dC dI (GT cI cZ cA) (MW cI cZ a th n wv lo cf tf vs nr) sz)) (va_Qi (fun r (_ : Unit) => r = 0) (fun (_ : Unit) => WQ dC dI (GT cI cZ cA) (va_A (MW cI cZ a th n wv lo cf tf vs nr) sz) (MW cI cZ a 0 n wv lo cf tf vs nr)) (va_A (MW cI cZ a th n wv lo cf tf vs nr) sz)) 0 0 (va_A (MW cI cZ a th n wv lo cf tf vs nr) sz) := by
  refine Met.ofW (cc := cX1_change) (maxL := 4) (ret := (some .boolean)) (by decide) rfl ?_
  intro p e s m args below meth c s₁ B hml hv
  obtain ⟨rfl, hsz, hP, hK, hD0⟩ := hv
  have hx := B.exec
  have hb := B.bytes
  have hr := B.returns
  have hts := atoms_spec (ws := wsX1_change) B.pre
  have hown : s.vm.findClass RX1 = some m.cls := findClass_of_methodNamed B.named
  have hlocks := B.notSynchronized
  have hf_29 := hts (.fieldLink RX1 29 "GraphSearchModel" "thrown" "I") (by decide +kernel)
  have hf_7 := hts (.fieldLink RX1 7 "GraphSearchModel" "worth" "[I") (by decide +kernel)
  have hf_13 := hts (.fieldLink RX1 13 "GraphSearchModel" "lost" "[Z") (by decide +kernel)
  have hiw : ∀ w ∈ wsX10, w ∈ wsX1_change := by decide +kernel
  subst hsz
  have hD := hD0.self (sz := s.heap.size)
  generalize hAe : va_A (MW cI cZ a th n wv lo cf tf vs nr) s.heap.size = A at hD ⊢
  have hA : ∀ q : Nat, s.heap.size ≤ q → A q := fun q h => by rw [← hAe]; exact Or.inr h
  have hS : va_S A s.heap s.heap [] := va_S.rf
  have hP : va_P (dC, dI) vwCl (MW cI cZ a th n wv lo cf tf vs nr) s.heap := hP
  have hl := lv_entry ([.ref (a 0), .int (nI j), .int v, .int b]) (n := 4) (Nat.le_of_ble_eq_true rfl)
  rw [lg_entry_eq]
  generalize (lg_sl ([.ref (a 0), .int (nI j), .int v, .int b]) ++ List.replicate (4 - (lg_sl ([.ref (a 0), .int (nI j), .int v, .int b])).length) Slot.unset).toArray = ls at hl ⊢
  have hl : lv_has ls 4 [(0, .ref (a 0)), (1, .int (nI j)), (2, .int v), (3, .int b)] := hl
  refine lv_aload_n hx hb dX1_change_0 rfl (lv_at hl 0 rfl) ?_
  refine lv_iconst (v := 0) hx hb dX1_change_1 (by decide) ?_
  refine ga_is (y := nI 0) (rfl) ?_
  refine va_put (D := (dC, dI)) (ci := 1) (v := .int (nI 0)) (ty := .int) (C := RX1) (T := TX1) (N := 8) hx hb hts hiw tyX1 tyX1_ok nmX1 hown hK hP hD hS 0 rfl rfl 0 (by decide) hf_29 (fun _ h9 => h9) rfl (by decide +kernel) rfl rfl (Nat.le_of_ble_eq_true rfl) dX1_change_2 (fun H locs hP hD hS => ?_)
  have hP : va_P (dC, dI) vwCl (MW cI cZ a 0 n wv lo cf tf vs nr) H := hP
  have hD : va_D A (MW cI cZ a 0 n wv lo cf tf vs nr) := hD
  refine lv_aload_n hx hb dX1_change_5 rfl (lv_at hl 0 rfl) ?_
  refine lv_iload_n hx hb dX1_change_6 rfl (lv_at hl 1 rfl) ?_
  refine W.callR (r := isn (nI j) n) (W.runV (As := [.int (nI j)]) (rest := []) ⟨hx, hb, hml, hown, hts⟩ (kX1_isNode l dC dI cI cZ cA a 0 n wv lo cf tf vs nr (nI j)) (cwV 1 hts gX1_change_X1_isNode rfl rfl rfl (by decide +kernel) ⟨Nat.le_of_ble_eq_true rfl, Nat.le_of_ble_eq_true rfl⟩) ⟨blindR, va_recv hK hP (ci := 1) (q0 := 0) rfl rfl, preR hP hK⟩ rfl rfl hl.1 rfl (lv_room (Nat.le_of_ble_eq_true rfl)) dX1_change_7 ⟨Nat.zero_le _, Nat.zero_le _⟩) ?_
  refine W.eq (g2 := F0 m 10 ls [.int (isn (nI j) n)]) rfl ?_
  refine lv_if_eq (tgt := 20) hx hb dX1_change_10 (by decide) (fun h10 => absurd h10 (by rw [isn_1 hj (by omega)]; decide)) (fun h10 => ?_)
  refine lv_iload_n hx hb dX1_change_13 rfl (lv_at hl 2 rfl) ?_
  refine W.callR (r := iw v) (W.runS (As := [.int v]) (rest := []) ⟨hx, hb, hml, hown, hts⟩ (kX1_isWorth l v) (va_cwS 1 hts gX1_change_X1_isWorth rfl rfl rfl (by decide +kernel) ⟨Nat.le_of_ble_eq_true rfl, Nat.le_of_ble_eq_true rfl⟩) ⟨blindT, fun _ _ _ => ⟨rfl, trivial⟩⟩ rfl rfl hl.1 rfl (lv_room (Nat.le_of_ble_eq_true rfl)) dX1_change_14 ⟨Nat.zero_le _, Nat.zero_le _⟩) ?_
  refine W.eq (g2 := F0 m 17 ls [.int (iw v)]) rfl ?_
  refine lv_if_ne (tgt := 22) hx hb dX1_change_17 (by decide) (fun h17 => absurd hno h17) (fun h17 => ?_)
  refine lv_iconst (v := 0) hx hb dX1_change_20 (by decide) ?_
  exact W.zret (v := 0) hx hb hr (by decide) (fun t ht hW => ⟨⟨0, (), rfl, rfl, by rw [ht]; exact hP, va_K.moved hW.alike hK, hD⟩, hS.F ht⟩) hS.2.2 dX1_change_21
set_option maxHeartbeats 4000000 in
set_option maxRecDepth 100000 in
/-- change -/
theorem kX1_change (l : Launch) (dC : Nat → ClassId) (dI : Nat → Nat → Nat) (cI cZ cA : ClassId) (a : Nat → Nat) (sz : Nat) (th : Nat) (n : Nat) (wv : Nat → Int32) (lo : Nat → Int32) (cf : Nat → Nat) (tf : Nat → Nat) (vs : Nat → Int32) (nr : Nat → Nat) (j : Nat) (v b : Int32) (hn4 : n ≤ 400) (hj : j < n) (hv : iw v = 1) (hz : b = 0 ∨ b = 1) : Met l yX1_change wsX1_change ({ frames := 1, cells := 0, slots := 0, locals := 21 }) (va_Pc [.ref (a 0), .int (nI j), .int v, .int b] (WP dC dI (GT cI cZ cA) (MW cI cZ a th n wv lo cf tf vs nr) sz)) (va_Qi (fun r (_ : Unit) => r = 1) (fun (_ : Unit) => WQ dC dI (GT cI cZ cA) (va_A (MW cI cZ a th n wv lo cf tf vs nr) sz) (MW cI cZ a 0 n (upd wv j v) (upd lo j b) cf tf vs nr)) (va_A (MW cI cZ a th n wv lo cf tf vs nr) sz)) 0 0 (va_A (MW cI cZ a th n wv lo cf tf vs nr) sz) := by
  refine Met.ofW (cc := cX1_change) (maxL := 4) (ret := (some .boolean)) (by decide) rfl ?_
  intro p e s m args below meth c s₁ B hml hv
  obtain ⟨rfl, hsz, hP, hK, hD0⟩ := hv
  have hx := B.exec
  have hb := B.bytes
  have hr := B.returns
  have hts := atoms_spec (ws := wsX1_change) B.pre
  have hown : s.vm.findClass RX1 = some m.cls := findClass_of_methodNamed B.named
  have hlocks := B.notSynchronized
  have hf_29 := hts (.fieldLink RX1 29 "GraphSearchModel" "thrown" "I") (by decide +kernel)
  have hf_7 := hts (.fieldLink RX1 7 "GraphSearchModel" "worth" "[I") (by decide +kernel)
  have hf_13 := hts (.fieldLink RX1 13 "GraphSearchModel" "lost" "[Z") (by decide +kernel)
  have hiw : ∀ w ∈ wsX10, w ∈ wsX1_change := by decide +kernel
  subst hsz
  have hD := hD0.self (sz := s.heap.size)
  generalize hAe : va_A (MW cI cZ a th n wv lo cf tf vs nr) s.heap.size = A at hD ⊢
  have hA : ∀ q : Nat, s.heap.size ≤ q → A q := fun q h => by rw [← hAe]; exact Or.inr h
  have hS : va_S A s.heap s.heap [] := va_S.rf
  have hP : va_P (dC, dI) vwCl (MW cI cZ a th n wv lo cf tf vs nr) s.heap := hP
  have hl := lv_entry ([.ref (a 0), .int (nI j), .int v, .int b]) (n := 4) (Nat.le_of_ble_eq_true rfl)
  rw [lg_entry_eq]
  generalize (lg_sl ([.ref (a 0), .int (nI j), .int v, .int b]) ++ List.replicate (4 - (lg_sl ([.ref (a 0), .int (nI j), .int v, .int b])).length) Slot.unset).toArray = ls at hl ⊢
  have hl : lv_has ls 4 [(0, .ref (a 0)), (1, .int (nI j)), (2, .int v), (3, .int b)] := hl
  refine lv_aload_n hx hb dX1_change_0 rfl (lv_at hl 0 rfl) ?_
  refine lv_iconst (v := 0) hx hb dX1_change_1 (by decide) ?_
  refine ga_is (y := nI 0) (rfl) ?_
  refine va_put (D := (dC, dI)) (ci := 1) (v := .int (nI 0)) (ty := .int) (C := RX1) (T := TX1) (N := 8) hx hb hts hiw tyX1 tyX1_ok nmX1 hown hK hP hD hS 0 rfl rfl 0 (by decide) hf_29 (fun _ h9 => h9) rfl (by decide +kernel) rfl rfl (Nat.le_of_ble_eq_true rfl) dX1_change_2 (fun H locs hP hD hS => ?_)
  have hP : va_P (dC, dI) vwCl (MW cI cZ a 0 n wv lo cf tf vs nr) H := hP
  have hD : va_D A (MW cI cZ a 0 n wv lo cf tf vs nr) := hD
  refine lv_aload_n hx hb dX1_change_5 rfl (lv_at hl 0 rfl) ?_
  refine lv_iload_n hx hb dX1_change_6 rfl (lv_at hl 1 rfl) ?_
  refine W.callR (r := isn (nI j) n) (W.runV (As := [.int (nI j)]) (rest := []) ⟨hx, hb, hml, hown, hts⟩ (kX1_isNode l dC dI cI cZ cA a 0 n wv lo cf tf vs nr (nI j)) (cwV 1 hts gX1_change_X1_isNode rfl rfl rfl (by decide +kernel) ⟨Nat.le_of_ble_eq_true rfl, Nat.le_of_ble_eq_true rfl⟩) ⟨blindR, va_recv hK hP (ci := 1) (q0 := 0) rfl rfl, preR hP hK⟩ rfl rfl hl.1 rfl (lv_room (Nat.le_of_ble_eq_true rfl)) dX1_change_7 ⟨Nat.zero_le _, Nat.zero_le _⟩) ?_
  refine W.eq (g2 := F0 m 10 ls [.int (isn (nI j) n)]) rfl ?_
  refine lv_if_eq (tgt := 20) hx hb dX1_change_10 (by decide) (fun h10 => absurd h10 (by rw [isn_1 hj (by omega)]; decide)) (fun h10 => ?_)
  refine lv_iload_n hx hb dX1_change_13 rfl (lv_at hl 2 rfl) ?_
  refine W.callR (r := iw v) (W.runS (As := [.int v]) (rest := []) ⟨hx, hb, hml, hown, hts⟩ (kX1_isWorth l v) (va_cwS 1 hts gX1_change_X1_isWorth rfl rfl rfl (by decide +kernel) ⟨Nat.le_of_ble_eq_true rfl, Nat.le_of_ble_eq_true rfl⟩) ⟨blindT, fun _ _ _ => ⟨rfl, trivial⟩⟩ rfl rfl hl.1 rfl (lv_room (Nat.le_of_ble_eq_true rfl)) dX1_change_14 ⟨Nat.zero_le _, Nat.zero_le _⟩) ?_
  refine W.eq (g2 := F0 m 17 ls [.int (iw v)]) rfl ?_
  refine lv_if_ne (tgt := 22) hx hb dX1_change_17 (by decide) (fun h17 => ?_) (fun h17 => absurd h17 (by rw [hv]; decide))
  refine lv_aload_n hx hb dX1_change_22 rfl (lv_at hl 0 rfl) ?_
  refine va_get (D := (dC, dI)) (ci := 1) (v := .ref (a 1)) (C := RX1) (T := TX1) (N := 8) hx hb hts hiw hown hK hP 0 rfl rfl 2 (by decide) hf_7 (fun _ h9 => h9) rfl dX1_change_23 ?_
  refine lv_iload_n hx hb dX1_change_26 rfl (lv_at hl 1 rfl) ?_
  refine lv_iload_n hx hb dX1_change_27 rfl (lv_at hl 2 rfl) ?_
  refine ga_iast hx hb hK hP hD hS 1 0 rfl rfl j (by omega) (by decide) rfl (ws' := MW cI cZ a 0 n (upd wv j v) lo cf tf vs nr) rfl dX1_change_28 (fun H locs hP hD hS => ?_)
  refine lv_aload_n hx hb dX1_change_29 rfl (lv_at hl 0 rfl) ?_
  refine va_get (D := (dC, dI)) (ci := 1) (v := .ref (a 2)) (C := RX1) (T := TX1) (N := 8) hx hb hts hiw hown hK hP 0 rfl rfl 3 (by decide) hf_13 (fun _ h9 => h9) rfl dX1_change_30 ?_
  refine lv_iload_n hx hb dX1_change_33 rfl (lv_at hl 1 rfl) ?_
  refine lv_iload_n hx hb dX1_change_34 rfl (lv_at hl 3 rfl) ?_
  refine ga_zast hx hb hK hP hD hS 2 1 rfl rfl j hz (by omega) (by decide) rfl (ws' := MW cI cZ a 0 n (upd wv j v) (upd lo j b) cf tf vs nr) rfl dX1_change_35 (fun H locs hP hD hS => ?_)
  refine lv_iconst (v := 1) hx hb dX1_change_36 (by decide) ?_
  exact W.zret (v := 1) hx hb hr (by decide) (fun t ht hW => ⟨⟨1, (), rfl, rfl, by rw [ht]; exact hP, va_K.moved hW.alike hK, hD⟩, hS.F ht⟩) hS.2.2 dX1_change_37
set_option maxHeartbeats 4000000 in
set_option maxRecDepth 100000 in
/-- look -/
theorem kX1_look (l : Launch) (dC : Nat → ClassId) (dI : Nat → Nat → Nat) (cI cZ cA : ClassId) (a : Nat → Nat) (sz : Nat) (th : Nat) (n : Nat) (wv : Nat → Int32) (lo : Nat → Int32) (cf : Nat → Nat) (tf : Nat → Nat) (vs : Nat → Int32) (nr : Nat → Nat) (v : Int32) (hn4 : n ≤ 400) : Met l yX1_look wsX1_look ({ frames := 0, cells := 0, slots := 0, locals := 0 }) (va_Pc [.ref (a 0), .int v] (WP dC dI (GT cI cZ cA) (MW cI cZ a th n wv lo cf tf vs nr) sz)) (va_Qi (fun r (_ : Unit) => r = lok n (sum_ cf n) v) (fun (_ : Unit) => WQ dC dI (GT cI cZ cA) (va_A (MW cI cZ a th n wv lo cf tf vs nr) sz) (MW cI cZ a 0 n wv lo cf tf vs nr)) (va_A (MW cI cZ a th n wv lo cf tf vs nr) sz)) 0 0 (va_A (MW cI cZ a th n wv lo cf tf vs nr) sz) := by
  refine Met.ofW (cc := cX1_look) (maxL := 4) (ret := (some .int)) (by decide) rfl ?_
  intro p e s m args below meth c s₁ B hml hv
  obtain ⟨rfl, hsz, hP, hK, hD0⟩ := hv
  have hx := B.exec
  have hb := B.bytes
  have hr := B.returns
  have hts := atoms_spec (ws := wsX1_look) B.pre
  have hown : s.vm.findClass RX1 = some m.cls := findClass_of_methodNamed B.named
  have hlocks := B.notSynchronized
  have hf_29 := hts (.fieldLink RX1 29 "GraphSearchModel" "thrown" "I") (by decide +kernel)
  have hf_33 := hts (.fieldLink RX1 33 "GraphSearchModel" "nodes" "I") (by decide +kernel)
  have hf_17 := hts (.fieldLink RX1 17 "GraphSearchModel" "many" "[I") (by decide +kernel)
  have hiw : ∀ w ∈ wsX10, w ∈ wsX1_look := by decide +kernel
  subst hsz
  have hD := hD0.self (sz := s.heap.size)
  generalize hAe : va_A (MW cI cZ a th n wv lo cf tf vs nr) s.heap.size = A at hD ⊢
  have hA : ∀ q : Nat, s.heap.size ≤ q → A q := fun q h => by rw [← hAe]; exact Or.inr h
  have hS : va_S A s.heap s.heap [] := va_S.rf
  have hP : va_P (dC, dI) vwCl (MW cI cZ a th n wv lo cf tf vs nr) s.heap := hP
  have hl := lv_entry ([.ref (a 0), .int v]) (n := 4) (Nat.le_of_ble_eq_true rfl)
  rw [lg_entry_eq]
  generalize (lg_sl ([.ref (a 0), .int v]) ++ List.replicate (4 - (lg_sl ([.ref (a 0), .int v])).length) Slot.unset).toArray = ls at hl ⊢
  have hl : lv_has ls 4 [(0, .ref (a 0)), (1, .int v)] := hl
  refine lv_aload_n hx hb dX1_look_0 rfl (lv_at hl 0 rfl) ?_
  refine lv_iconst (v := 0) hx hb dX1_look_1 (by decide) ?_
  refine ga_is (y := nI 0) (rfl) ?_
  refine va_put (D := (dC, dI)) (ci := 1) (v := .int (nI 0)) (ty := .int) (C := RX1) (T := TX1) (N := 8) hx hb hts hiw tyX1 tyX1_ok nmX1 hown hK hP hD hS 0 rfl rfl 0 (by decide) hf_29 (fun _ h9 => h9) rfl (by decide +kernel) rfl rfl (Nat.le_of_ble_eq_true rfl) dX1_look_2 (fun H locs hP hD hS => ?_)
  have hP : va_P (dC, dI) vwCl (MW cI cZ a 0 n wv lo cf tf vs nr) H := hP
  have hD : va_D A (MW cI cZ a 0 n wv lo cf tf vs nr) := hD
  refine lv_iconst (v := 0) hx hb dX1_look_5 (by decide) ?_
  refine ga_is (y := nI 0) (rfl) ?_
  refine lv_istore_n (lv' := [(2, .int (nI 0)), (0, .ref (a 0)), (1, .int v)]) hx hb dX1_look_6 rfl hl (by decide) rfl (fun ls hl => ?_)
  refine lv_iconst (v := 0) hx hb dX1_look_7 (by decide) ?_
  refine ga_is (y := nI 0) (rfl) ?_
  refine lv_istore_n (lv' := [(3, .int (nI 0)), (2, .int (nI 0)), (0, .ref (a 0)), (1, .int v)]) hx hb dX1_look_8 rfl hl (by decide) rfl (fun ls hl => ?_)
  have loop : ∀ k i : Nat, i + k = n → ∀ ls : Array Slot, lv_has ls 4 [(3, .int (nI i)), (2, .int (nI (sum_ cf i))), (0, .ref (a 0)), (1, .int v)] → W p l e (headSpec wsX1_look (({ frames := 0, cells := 0, slots := 0, locals := 0 }) : Room)).room s m ([.ref (a 0), .int v] : List Value).toArray below meth c H locs 0 0 (MQ below (va_Qi (fun r (_ : Unit) => r = lok n (sum_ cf n) v) (fun (_ : Unit) => WQ dC dI (GT cI cZ cA) A (MW cI cZ a 0 n wv lo cf tf vs nr)) A) ([.ref (a 0), .int v] : List Value).toArray s 0 0 A) (F0 m 9 ls []) := by
    intro k
    induction k with
    | zero =>
      intro i hi ls hl
      obtain rfl : n = i := by omega
      refine lv_iload_n hx hb dX1_look_9 rfl (lv_at hl 0 rfl) ?_
      refine lv_aload_n hx hb dX1_look_10 rfl (lv_at hl 2 rfl) ?_
      refine va_get (D := (dC, dI)) (ci := 1) (v := .int (nI n)) (C := RX1) (T := TX1) (N := 8) hx hb hts hiw hown hK hP 0 rfl rfl 1 (by decide) hf_33 (fun _ h9 => h9) rfl dX1_look_11 ?_
      refine lv_icmp_ge (tgt := 32) hx hb dX1_look_14 (by decide) (fun h14 => ?_) (fun h14 => absurd (Int32.le_refl _) h14)
      refine lv_iload_n hx hb dX1_look_32 rfl (lv_at hl 3 rfl) ?_
      refine lv_if_ne (tgt := 43) hx hb dX1_look_33 (by decide) (fun h33 => ?_) (fun h33 => ?_)
      · refine lv_iload_n hx hb dX1_look_43 rfl (lv_at hl 3 rfl) ?_
        refine lv_iconst (v := 1) hx hb dX1_look_44 (by decide) ?_
        refine lv_icmp_ne (tgt := 52) hx hb dX1_look_45 (by decide) (fun h45 => ?_) (fun h45 => ?_)
        · refine lv_iconst (v := (-1)) hx hb dX1_look_52 (by decide) ?_
          exact W.iret (v := (-1)) hx hb hr (fun t ht hW => ⟨⟨(-1), (), rfl, by rw [lok, if_neg h33, if_neg h45], by rw [ht]; exact hP, va_K.moved hW.alike hK, hD⟩, hS.F ht⟩) hS.2.2 dX1_look_53
        · refine lv_iload_n hx hb dX1_look_48 rfl (lv_at hl 1 rfl) ?_
          refine lv_goto (tgt := 53) hx hb dX1_look_49 (by decide) ?_
          exact W.iret (v := (nI (sum_ cf n))) hx hb hr (fun t ht hW => ⟨⟨(nI (sum_ cf n)), (), rfl, by rw [lok, if_neg h33, if_pos h45], by rw [ht]; exact hP, va_K.moved hW.alike hK, hD⟩, hS.F ht⟩) hS.2.2 dX1_look_53
      · refine lv_aload_n hx hb dX1_look_36 rfl (lv_at hl 2 rfl) ?_
        refine va_get (D := (dC, dI)) (ci := 1) (v := .int (nI n)) (C := RX1) (T := TX1) (N := 8) hx hb hts hiw hown hK hP 0 rfl rfl 1 (by decide) hf_33 (fun _ h9 => h9) rfl dX1_look_37 ?_
        refine lv_goto (tgt := 53) hx hb dX1_look_40 (by decide) ?_
        exact W.iret (v := (nI n)) hx hb hr (fun t ht hW => ⟨⟨(nI n), (), rfl, by rw [lok, if_pos h33], by rw [ht]; exact hP, va_K.moved hW.alike hK, hD⟩, hS.F ht⟩) hS.2.2 dX1_look_53
    | succ k ih =>
      intro i hi ls hl
      refine lv_iload_n hx hb dX1_look_9 rfl (lv_at hl 0 rfl) ?_
      refine lv_aload_n hx hb dX1_look_10 rfl (lv_at hl 2 rfl) ?_
      refine va_get (D := (dC, dI)) (ci := 1) (v := .int (nI n)) (C := RX1) (T := TX1) (N := 8) hx hb hts hiw hown hK hP 0 rfl rfl 1 (by decide) hf_33 (fun _ h9 => h9) rfl dX1_look_11 ?_
      refine lv_icmp_ge (tgt := 32) hx hb dX1_look_14 (by decide) (fun h14 => absurd h14 (nI_ge (by omega) (by omega))) (fun h14 => ?_)
      refine lv_iload_n hx hb dX1_look_17 rfl (lv_at hl 1 rfl) ?_
      refine lv_aload_n hx hb dX1_look_18 rfl (lv_at hl 2 rfl) ?_
      refine va_get (D := (dC, dI)) (ci := 1) (v := .ref (a 3)) (C := RX1) (T := TX1) (N := 8) hx hb hts hiw hown hK hP 0 rfl rfl 4 (by decide) hf_17 (fun _ h9 => h9) rfl dX1_look_19 ?_
      refine lv_iload_n hx hb dX1_look_22 rfl (lv_at hl 0 rfl) ?_
      refine ga_iald hx hb hK hP 3 0 rfl rfl i (v := nI (cf i)) rfl (by omega) (by decide) dX1_look_23 ?_
      refine lv_iadd hx hb dX1_look_24 ?_
      refine ga_is (y := nI (sum_ cf (i + 1))) (nI_add _ _) ?_
      refine lv_istore_n (lv' := [(2, .int (nI (sum_ cf (i + 1)))), (3, .int (nI i)), (0, .ref (a 0)), (1, .int v)]) hx hb dX1_look_25 rfl hl (by decide) rfl (fun ls hl => ?_)
      refine lv_iinc (v := nI (i + 1)) (lv' := [(3, .int (nI (i + 1))), (2, .int (nI (sum_ cf (i + 1)))), (0, .ref (a 0)), (1, .int v)]) hx hb dX1_look_26 hl (k := 1) rfl (nI_1 i) (by decide) rfl (fun ls hl => ?_)
      refine lv_goto (tgt := 9) hx hb dX1_look_29 (by decide) ?_
      exact ih (i + 1) (by omega) ls (lv_sub hl [0, 1, 2, 3] rfl)
  exact loop n 0 (by omega) ls (lv_sub hl [0, 1, 2, 3] rfl)
end
section
theorem ofx_out {wv lo : Nat → Int32} {cf tf : Nat → Nat} {j : Nat} {v : Int32} (hc : cf j ≤ 6) (h : v < 0 ∨ 8 < v) : ofx wv lo cf tf j v = (-1) := by
  have e0 : (0 : Int32).toInt = 0 := by decide +kernel
  have e1 : (1 : Int32).toInt = 1 := by decide +kernel
  have e2 : (2 : Int32).toInt = 2 := by decide +kernel
  have e3 : (3 : Int32).toInt = 3 := by decide +kernel
  have e8 : (8 : Int32).toInt = 8 := by decide +kernel
  have hv : v.toInt < 0 ∨ 8 < v.toInt := by
    rcases h with h | h
    · rw [Int32.lt_iff_toInt_lt, e0] at h; exact Or.inl h
    · rw [Int32.lt_iff_toInt_lt, e8] at h; exact Or.inr h
  rw [ofx, if_neg (fun q => by rw [q] at hv; omega), if_neg (fun q => by rw [q] at hv; omega), if_neg (fun q => by rw [q] at hv; omega), ton]
  by_cases h3 : v < 3
  · rw [if_pos h3]
  · rw [if_neg h3, if_neg]
    intro q
    rw [Int32.lt_iff_toInt_lt, e3] at h3
    rw [Int32.lt_iff_toInt_lt, nI_toInt (by omega)] at q
    omega
theorem ofx_3 {wv lo : Nat → Int32} {cf tf : Nat → Nat} {j i : Nat} (hi : i < 100) (hc : cf j ≤ 6) : ofx wv lo cf tf j (nI (i + 3)) = if i < cf j then nI (tf (j * 6 + i)) else (-1) := by
  rw [ofx, if_neg (nI_ne0 (by omega) (by omega)), if_neg (fun q => by have := (nI_eq (b := 1) (by omega) (by decide)).mp q; omega), if_neg (fun q => by have := (nI_eq (b := 2) (by omega) (by decide)).mp q; omega)]
  by_cases h : i < cf j
  · rw [if_pos h, ton_at hc h]
  · rw [if_neg h, ton, show (3 : Int32) = nI 3 from rfl, if_neg (nI_nlt (by omega) (by omega)), if_neg (nI_nlt (by omega) (by omega))]
set_option maxHeartbeats 4000000 in
set_option maxRecDepth 100000 in
/-- of -/
theorem kX1_of (l : Launch) (dC : Nat → ClassId) (dI : Nat → Nat → Nat) (cI cZ cA : ClassId) (a : Nat → Nat) (sz : Nat) (th : Nat) (n : Nat) (wv : Nat → Int32) (lo : Nat → Int32) (cf : Nat → Nat) (tf : Nat → Nat) (vs : Nat → Int32) (nr : Nat → Nat) (x v : Int32) (hn4 : n ≤ 400) (hc : ∀ j, j < n → cf j ≤ 6) (hlo : ∀ j, lo j = 0 ∨ lo j = 1) : Met l yX1_of wsX1_of ({ frames := 1, cells := 0, slots := 0, locals := 21 }) (va_Pc [.ref (a 0), .int x, .int v] (WP dC dI (GT cI cZ cA) (MW cI cZ a th n wv lo cf tf vs nr) sz)) (va_Qi (fun r (_ : Unit) => r = off n wv lo cf tf x v) (fun (_ : Unit) => WQ dC dI (GT cI cZ cA) (va_A (MW cI cZ a th n wv lo cf tf vs nr) sz) (MW cI cZ a 0 n wv lo cf tf vs nr)) (va_A (MW cI cZ a th n wv lo cf tf vs nr) sz)) 0 0 (va_A (MW cI cZ a th n wv lo cf tf vs nr) sz) := by
  refine Met.ofW (cc := cX1_of) (maxL := 3) (ret := (some .int)) (by decide) rfl ?_
  intro p e s m args below meth c s₁ B hml hv
  obtain ⟨rfl, hsz, hP, hK, hD0⟩ := hv
  have hx := B.exec
  have hb := B.bytes
  have hr := B.returns
  have hts := atoms_spec (ws := wsX1_of) B.pre
  have hown : s.vm.findClass RX1 = some m.cls := findClass_of_methodNamed B.named
  have hlocks := B.notSynchronized
  have hf_29 := hts (.fieldLink RX1 29 "GraphSearchModel" "thrown" "I") (by decide +kernel)
  have hf_7 := hts (.fieldLink RX1 7 "GraphSearchModel" "worth" "[I") (by decide +kernel)
  have hf_13 := hts (.fieldLink RX1 13 "GraphSearchModel" "lost" "[Z") (by decide +kernel)
  have hf_17 := hts (.fieldLink RX1 17 "GraphSearchModel" "many" "[I") (by decide +kernel)
  have hf_20 := hts (.fieldLink RX1 20 "GraphSearchModel" "to" "[I") (by decide +kernel)
  have hiw : ∀ w ∈ wsX10, w ∈ wsX1_of := by decide +kernel
  subst hsz
  have hD := hD0.self (sz := s.heap.size)
  generalize hAe : va_A (MW cI cZ a th n wv lo cf tf vs nr) s.heap.size = A at hD ⊢
  have hA : ∀ q : Nat, s.heap.size ≤ q → A q := fun q h => by rw [← hAe]; exact Or.inr h
  have hS : va_S A s.heap s.heap [] := va_S.rf
  have hP : va_P (dC, dI) vwCl (MW cI cZ a th n wv lo cf tf vs nr) s.heap := hP
  have hl := lv_entry ([.ref (a 0), .int x, .int v]) (n := 3) (Nat.le_of_ble_eq_true rfl)
  rw [lg_entry_eq]
  generalize (lg_sl ([.ref (a 0), .int x, .int v]) ++ List.replicate (3 - (lg_sl ([.ref (a 0), .int x, .int v])).length) Slot.unset).toArray = ls at hl ⊢
  have hl : lv_has ls 3 [(0, .ref (a 0)), (1, .int x), (2, .int v)] := hl
  refine lv_aload_n hx hb dX1_of_0 rfl (lv_at hl 0 rfl) ?_
  refine lv_iconst (v := 0) hx hb dX1_of_1 (by decide) ?_
  refine ga_is (y := nI 0) (rfl) ?_
  refine va_put (D := (dC, dI)) (ci := 1) (v := .int (nI 0)) (ty := .int) (C := RX1) (T := TX1) (N := 8) hx hb hts hiw tyX1 tyX1_ok nmX1 hown hK hP hD hS 0 rfl rfl 0 (by decide) hf_29 (fun _ h9 => h9) rfl (by decide +kernel) rfl rfl (Nat.le_of_ble_eq_true rfl) dX1_of_2 (fun H locs hP hD hS => ?_)
  have hP : va_P (dC, dI) vwCl (MW cI cZ a 0 n wv lo cf tf vs nr) H := hP
  have hD : va_D A (MW cI cZ a 0 n wv lo cf tf vs nr) := hD
  refine lv_aload_n hx hb dX1_of_5 rfl (lv_at hl 0 rfl) ?_
  refine lv_iload_n hx hb dX1_of_6 rfl (lv_at hl 1 rfl) ?_
  refine W.callR (r := isn x n) (W.runV (As := [.int x]) (rest := []) ⟨hx, hb, hml, hown, hts⟩ (kX1_isNode l dC dI cI cZ cA a 0 n wv lo cf tf vs nr x) (cwV 1 hts gX1_of_X1_isNode rfl rfl rfl (by decide +kernel) ⟨Nat.le_of_ble_eq_true rfl, Nat.le_of_ble_eq_true rfl⟩) ⟨blindR, va_recv hK hP (ci := 1) (q0 := 0) rfl rfl, preR hP hK⟩ rfl rfl hl.1 rfl (lv_room (Nat.le_of_ble_eq_true rfl)) dX1_of_7 ⟨Nat.zero_le _, Nat.zero_le _⟩) ?_
  refine W.eq (g2 := F0 m 10 ls [.int (isn x n)]) rfl ?_
  refine lv_if_eq (tgt := 23) hx hb dX1_of_10 (by decide) (fun h10 => ?_) (fun h10 => ?_)
  · refine lv_iconst (v := (-1)) hx hb dX1_of_23 (by decide) ?_
    exact W.iret (v := (-1)) hx hb hr (fun t ht hW => ⟨⟨(-1), (), rfl, by rw [off, if_pos h10], by rw [ht]; exact hP, va_K.moved hW.alike hK, hD⟩, hS.F ht⟩) hS.2.2 dX1_of_24
  · rcases isn_in (x := x) (n := n) (by omega) with ⟨i1, j, hj, rfl⟩ | ⟨i0, -⟩
    · have ho : off n wv lo cf tf (nI j) v = ofx wv lo cf tf j v := by rw [off, if_neg (by rw [i1]; decide), nI_clamp (by omega)]
      have hcj := hc j hj
      refine lv_iload_n hx hb dX1_of_13 rfl (lv_at hl 2 rfl) ?_
      refine lv_if_lt (tgt := 23) hx hb dX1_of_14 (by decide) (fun h14 => ?_) (fun h14 => ?_)
      · refine lv_iconst (v := (-1)) hx hb dX1_of_23 (by decide) ?_
        exact W.iret (v := (-1)) hx hb hr (fun t ht hW => ⟨⟨(-1), (), rfl, by rw [ho, ofx_out hcj (Or.inl h14)], by rw [ht]; exact hP, va_K.moved hW.alike hK, hD⟩, hS.F ht⟩) hS.2.2 dX1_of_24
      · refine lv_iload_n hx hb dX1_of_17 rfl (lv_at hl 2 rfl) ?_
        refine lv_bipush (v := 8) hx hb dX1_of_18 (by decide) ?_
        refine lv_icmp_le (tgt := 25) hx hb dX1_of_20 (by decide) (fun h20 => ?_) (fun h20 => ?_)
        · refine lv_iload_n hx hb dX1_of_25 rfl (lv_at hl 2 rfl) ?_
          refine lv_iconst (v := 3) hx hb dX1_of_26 (by decide) ?_
          refine lv_icmp_ge (tgt := 72) hx hb dX1_of_27 (by decide) (fun h27 => ?_) (fun h27 => ?_)
          · obtain ⟨k, hk, rfl⟩ := nI_of2 (M := 8) (n := 8) (by decide +kernel) h14 h20
            have h3k : 3 ≤ k := by rcases Nat.lt_or_ge k 3 with z | z; exact absurd h27 (nI_ge z (by decide)); exact z
            obtain ⟨i, rfl⟩ : ∃ i, k = i + 3 := ⟨k - 3, by omega⟩
            rw [ofx_3 (by omega) hcj] at ho
            refine lv_iload_n hx hb dX1_of_72 rfl (lv_at hl 2 rfl) ?_
            refine lv_iconst (v := 3) hx hb dX1_of_73 (by decide) ?_
            refine lv_isub hx hb dX1_of_74 ?_
            refine ga_is (y := nI i) (by rw [show (3 : Int32) = nI 3 from rfl, pk_sub (by omega), Nat.add_sub_cancel]) ?_
            refine lv_aload_n hx hb dX1_of_75 rfl (lv_at hl 0 rfl) ?_
            refine va_get (D := (dC, dI)) (ci := 1) (v := .ref (a 3)) (C := RX1) (T := TX1) (N := 8) hx hb hts hiw hown hK hP 0 rfl rfl 4 (by decide) hf_17 (fun _ h9 => h9) rfl dX1_of_76 ?_
            refine lv_iload_n hx hb dX1_of_79 rfl (lv_at hl 1 rfl) ?_
            refine ga_iald hx hb hK hP 3 0 rfl rfl j (v := nI (cf j)) rfl (by omega) (by decide) dX1_of_80 ?_
            refine lv_icmp_ge (tgt := 100) hx hb dX1_of_81 (by decide) (fun h81 => ?_) (fun h81 => ?_)
            · have hn : ¬ i < cf j := fun z => absurd h81 (nI_ge z (by omega))
              refine lv_iconst (v := (-1)) hx hb dX1_of_100 (by decide) ?_
              exact W.iret (v := (-1)) hx hb hr (fun t ht hW => ⟨⟨(-1), (), rfl, by rw [ho, if_neg hn], by rw [ht]; exact hP, va_K.moved hW.alike hK, hD⟩, hS.F ht⟩) hS.2.2 dX1_of_101
            · have hn : i < cf j := by rcases Nat.lt_or_ge i (cf j) with z | z; exact z; exact absurd (nI_le z (by omega)) h81
              refine lv_aload_n hx hb dX1_of_84 rfl (lv_at hl 0 rfl) ?_
              refine va_get (D := (dC, dI)) (ci := 1) (v := .ref (a 4)) (C := RX1) (T := TX1) (N := 8) hx hb hts hiw hown hK hP 0 rfl rfl 5 (by decide) hf_20 (fun _ h9 => h9) rfl dX1_of_85 ?_
              refine lv_bipush (v := 6) hx hb dX1_of_88 (by decide) ?_
              refine lv_iload_n hx hb dX1_of_90 rfl (lv_at hl 1 rfl) ?_
              refine lv_imul hx hb dX1_of_91 ?_
              refine lv_iload_n hx hb dX1_of_92 rfl (lv_at hl 2 rfl) ?_
              refine lv_iadd hx hb dX1_of_93 ?_
              refine lv_iconst (v := 3) hx hb dX1_of_94 (by decide) ?_
              refine lv_isub hx hb dX1_of_95 ?_
              refine ga_is (y := nI (j * 6 + i)) (by rw [show (6 : Int32) = nI 6 from rfl, pk_mul, nI_add, show (3 : Int32) = nI 3 from rfl, pk_sub (by omega)]; congr 1; omega) ?_
              refine ga_iald hx hb hK hP 4 0 rfl rfl (j * 6 + i) (v := nI (tf (j * 6 + i))) rfl (by omega) (by decide) dX1_of_96 ?_
              refine lv_goto (tgt := 101) hx hb dX1_of_97 (by decide) ?_
              exact W.iret (v := (nI (tf (j * 6 + i)))) hx hb hr (fun t ht hW => ⟨⟨(nI (tf (j * 6 + i))), (), rfl, by rw [ho, if_pos hn], by rw [ht]; exact hP, va_K.moved hW.alike hK, hD⟩, hS.F ht⟩) hS.2.2 dX1_of_101
          · refine lv_iload_n hx hb dX1_of_30 rfl (lv_at hl 2 rfl) ?_
            refine lv_if_ne (tgt := 43) hx hb dX1_of_31 (by decide) (fun h31 => ?_) (fun h31 => ?_)
            · refine lv_iload_n hx hb dX1_of_43 rfl (lv_at hl 2 rfl) ?_
              refine lv_iconst (v := 1) hx hb dX1_of_44 (by decide) ?_
              refine lv_icmp_ne (tgt := 65) hx hb dX1_of_45 (by decide) (fun h45 => ?_) (fun h45 => ?_)
              · have hv2 : v = 2 := by
                  rcases of_sw v with z | z | z | ⟨-, -, -, z | z⟩
                  · exact absurd z h31
                  · exact absurd z h45
                  · exact z
                  · exact absurd (by rw [Int32.lt_iff_toInt_lt]; exact z) h14
                  · refine absurd ?_ h27
                    rw [Int32.le_iff_toInt_le, show (3 : Int32).toInt = 3 by decide +kernel]
                    omega
                refine lv_aload_n hx hb dX1_of_65 rfl (lv_at hl 0 rfl) ?_
                refine va_get (D := (dC, dI)) (ci := 1) (v := .ref (a 3)) (C := RX1) (T := TX1) (N := 8) hx hb hts hiw hown hK hP 0 rfl rfl 4 (by decide) hf_17 (fun _ h9 => h9) rfl dX1_of_66 ?_
                refine lv_iload_n hx hb dX1_of_69 rfl (lv_at hl 1 rfl) ?_
                refine ga_iald hx hb hK hP 3 0 rfl rfl j (v := nI (cf j)) rfl (by omega) (by decide) dX1_of_70 ?_
                exact W.iret (v := (nI (cf j))) hx hb hr (fun t ht hW => ⟨⟨(nI (cf j)), (), rfl, by rw [ho, ofx, if_neg h31, if_neg h45, if_pos hv2], by rw [ht]; exact hP, va_K.moved hW.alike hK, hD⟩, hS.F ht⟩) hS.2.2 dX1_of_71
              · refine lv_aload_n hx hb dX1_of_48 rfl (lv_at hl 0 rfl) ?_
                refine va_get (D := (dC, dI)) (ci := 1) (v := .ref (a 2)) (C := RX1) (T := TX1) (N := 8) hx hb hts hiw hown hK hP 0 rfl rfl 3 (by decide) hf_13 (fun _ h9 => h9) rfl dX1_of_49 ?_
                refine lv_iload_n hx hb dX1_of_52 rfl (lv_at hl 1 rfl) ?_
                refine ga_zald hx hb hK hP 2 1 rfl rfl j (v := lo j) rfl (by omega) (by decide) dX1_of_53 ?_
                refine lv_if_eq (tgt := 61) hx hb dX1_of_54 (by decide) (fun h54 => ?_) (fun h54 => ?_)
                · refine lv_iconst (v := 0) hx hb dX1_of_61 (by decide) ?_
                  refine lv_goto (tgt := 71) hx hb dX1_of_62 (by decide) ?_
                  exact W.iret (v := 0) hx hb hr (fun t ht hW => ⟨⟨0, (), rfl, by rw [ho, ofx, if_neg h31, if_pos h45, h54], by rw [ht]; exact hP, va_K.moved hW.alike hK, hD⟩, hS.F ht⟩) hS.2.2 dX1_of_71
                · refine lv_iconst (v := 1) hx hb dX1_of_57 (by decide) ?_
                  refine lv_goto (tgt := 71) hx hb dX1_of_58 (by decide) ?_
                  exact W.iret (v := 1) hx hb hr (fun t ht hW => ⟨⟨1, (), rfl, by rw [ho, ofx, if_neg h31, if_pos h45, (hlo j).resolve_left h54], by rw [ht]; exact hP, va_K.moved hW.alike hK, hD⟩, hS.F ht⟩) hS.2.2 dX1_of_71
            · refine lv_aload_n hx hb dX1_of_34 rfl (lv_at hl 0 rfl) ?_
              refine va_get (D := (dC, dI)) (ci := 1) (v := .ref (a 1)) (C := RX1) (T := TX1) (N := 8) hx hb hts hiw hown hK hP 0 rfl rfl 2 (by decide) hf_7 (fun _ h9 => h9) rfl dX1_of_35 ?_
              refine lv_iload_n hx hb dX1_of_38 rfl (lv_at hl 1 rfl) ?_
              refine ga_iald hx hb hK hP 1 0 rfl rfl j (v := wv j) rfl (by omega) (by decide) dX1_of_39 ?_
              refine lv_goto (tgt := 71) hx hb dX1_of_40 (by decide) ?_
              exact W.iret (v := (wv j)) hx hb hr (fun t ht hW => ⟨⟨(wv j), (), rfl, by rw [ho, ofx, if_pos h31], by rw [ht]; exact hP, va_K.moved hW.alike hK, hD⟩, hS.F ht⟩) hS.2.2 dX1_of_71
        · refine lv_iconst (v := (-1)) hx hb dX1_of_23 (by decide) ?_
          exact W.iret (v := (-1)) hx hb hr (fun t ht hW => ⟨⟨(-1), (), rfl, by rw [ho, ofx_out hcj (Or.inr (i32_nle h20))], by rw [ht]; exact hP, va_K.moved hW.alike hK, hD⟩, hS.F ht⟩) hS.2.2 dX1_of_24
    · exact absurd i0 h10
end
section
/-- the model's near, behind t rounds -/
def Nr (n : Nat) (cf tf : Nat → Nat) (x t : Nat) (nr : Nat → Nat) : Prop := (∀ y, y < n → nr y ≤ t ∨ nr y = 100) ∧ (∀ y, y < n → (nr y < 100 ↔ rch cf tf x t y)) ∧ ∀ k, k < n → nr k < t → ∀ j, j < cf k → nr (tf (k * 6 + j)) ≤ t
/-- within round t, from nr: the targets that E names are set -/
def Nw (n t : Nat) (nr : Nat → Nat) (E : Nat → Prop) (nr2 : Nat → Nat) : Prop := ∀ y, y < n → (nr y ≤ t → nr2 y = nr y) ∧ (¬ nr y ≤ t → (E y → nr2 y = t + 1) ∧ (¬ E y → nr2 y = 100))
def Ex (cf tf nr : Nat → Nat) (t k j : Nat) (y : Nat) : Prop := (∃ z, z < k ∧ nr z = t ∧ ∃ i, i < cf z ∧ tf (z * 6 + i) = y) ∨ (nr k = t ∧ ∃ i, i < j ∧ tf (k * 6 + i) = y)
theorem rch_lt {n : Nat} {cf tf : Nat → Nat} {x : Nat} (hx : x < n) (ht : ∀ x, x < n → ∀ j, j < cf x → tf (x * 6 + j) < n) : ∀ d y : Nat, rch cf tf x d y → y < n
  | 0, y, h => by have e : y = x := h; omega
  | d + 1, y, h => by
    rcases h with h | ⟨z, h1, j, h2, h3⟩
    · exact rch_lt hx ht d y h
    · rw [← h3]; exact ht z (rch_lt hx ht d z h1) j h2
theorem Nw.iff {n t : Nat} {nr nr2 : Nat → Nat} {E E2 : Nat → Prop} (h : Nw n t nr E nr2) (e : ∀ y, E y ↔ E2 y) : Nw n t nr E2 nr2 := fun y hy => ⟨(h y hy).1, fun q => ⟨fun z => ((h y hy).2 q).1 ((e y).mpr z), fun z => ((h y hy).2 q).2 (fun w => z ((e y).mp w))⟩⟩
theorem Nw.le {n t : Nat} {nr nr2 : Nat → Nat} {E : Nat → Prop} (ht : t < 8) (h : Nw n t nr E nr2) {y : Nat} (hy : y < n) : nr2 y ≤ 100 := by
  by_cases h1 : nr y ≤ t
  · rw [(h y hy).1 h1]; omega
  · by_cases h2 : E y
    · rw [((h y hy).2 h1).1 h2]; omega
    · rw [((h y hy).2 h1).2 h2]; omega
theorem Nw.at {n t : Nat} {nr nr2 : Nat → Nat} {E : Nat → Prop} (ht : t < 8) (h : Nw n t nr E nr2) {y : Nat} (hy : y < n) : nr2 y = t ↔ nr y = t := by
  by_cases h1 : nr y ≤ t
  · rw [(h y hy).1 h1]
  · refine ⟨fun q => ?_, fun q => absurd (Nat.le_of_eq q) h1⟩
    by_cases h2 : E y
    · rw [((h y hy).2 h1).1 h2] at q; omega
    · rw [((h y hy).2 h1).2 h2] at q; omega
theorem Nw.put {n t : Nat} {nr nr2 : Nat → Nat} {E E2 : Nat → Prop} (ht : t < 8) (h : Nw n t nr E nr2) {y v : Nat} (hy : y < n) (hv : v = if nr2 y ≤ t then nr2 y else t + 1) (e : ∀ z, E2 z ↔ E z ∨ z = y) : Nw n t nr E2 (va_up nr2 y v) := by
  intro z hz
  by_cases e1 : z = y
  · subst e1
    rw [va_up_self]
    refine ⟨fun q => ?_, fun q => ⟨fun _ => ?_, fun w => absurd ((e z).mpr (Or.inr rfl)) w⟩⟩
    · rw [hv, (h z hz).1 q, if_pos q]
    · rw [hv, if_neg]
      by_cases h2 : E z
      · rw [((h z hz).2 q).1 h2]; omega
      · rw [((h z hz).2 q).2 h2]; omega
  · rw [va_up_ne _ _ e1]
    exact ⟨(h z hz).1, fun q => ⟨fun w => ((h z hz).2 q).1 (((e z).mp w).resolve_right e1), fun w => ((h z hz).2 q).2 (fun u => w ((e z).mpr (Or.inl u)))⟩⟩
theorem Ex_0 {cf tf nr : Nat → Nat} {t k : Nat} (y : Nat) : Ex cf tf nr t k (if nr k = t then cf k else 0) y ↔ Ex cf tf nr t (k + 1) 0 y := by
  unfold Ex
  constructor
  · rintro (⟨z, h1, h2, h3⟩ | ⟨h1, i, h2, h3⟩)
    · exact Or.inl ⟨z, by omega, h2, h3⟩
    · rw [if_pos h1] at h2
      exact Or.inl ⟨k, by omega, h1, i, h2, h3⟩
  · rintro (⟨z, h1, h2, i, h3, h4⟩ | ⟨h1, i, h2, h3⟩)
    · by_cases e : z = k
      · subst e
        exact Or.inr ⟨h2, i, by rw [if_pos h2]; exact h3, h4⟩
      · exact Or.inl ⟨z, by omega, h2, i, h3, h4⟩
    · exact absurd h2 (by omega)
theorem Ex_s {cf tf nr : Nat → Nat} {t k j : Nat} (hk : nr k = t) (y : Nat) : Ex cf tf nr t k (j + 1) y ↔ Ex cf tf nr t k j y ∨ y = tf (k * 6 + j) := by
  unfold Ex
  constructor
  · rintro (h | ⟨h1, i, h2, h3⟩)
    · exact Or.inl (Or.inl h)
    · by_cases e : i = j
      · exact Or.inr (by rw [← h3, e])
      · exact Or.inl (Or.inr ⟨h1, i, by omega, h3⟩)
  · rintro ((h | ⟨h1, i, h2, h3⟩) | h)
    · exact Or.inl h
    · exact Or.inr ⟨h1, i, by omega, h3⟩
    · exact Or.inr ⟨hk, j, by omega, h.symm⟩
theorem Ex_n {cf tf nr : Nat → Nat} {t k j : Nat} (hk : ¬ nr k = t) (y : Nat) : Ex cf tf nr t k j y ↔ Ex cf tf nr t k 0 y := by
  unfold Ex
  constructor
  · rintro (h | ⟨h1, -⟩)
    · exact Or.inl h
    · exact absurd h1 hk
  · rintro (h | ⟨h1, -⟩)
    · exact Or.inl h
    · exact absurd h1 hk
theorem Nr.next {n : Nat} {cf tf : Nat → Nat} {x t : Nat} {nr nr2 : Nat → Nat} (hx : x < n) (ht8 : t < 8) (htt : ∀ x, x < n → ∀ j, j < cf x → tf (x * 6 + j) < n) (h : Nr n cf tf x t nr) (h2 : Nw n t nr (Ex cf tf nr t n 0) nr2) : Nr n cf tf x (t + 1) nr2 := by
  obtain ⟨a1, a2, a3⟩ := h
  have hE : ∀ y, Ex cf tf nr t n 0 y ↔ ∃ z, z < n ∧ nr z = t ∧ ∃ i, i < cf z ∧ tf (z * 6 + i) = y := fun y => ⟨fun q => q.elim id (fun ⟨_, i, w, _⟩ => absurd w (by omega)), fun q => Or.inl q⟩
  have hlow : ∀ y, y < n → nr2 y < 100 → nr y ≤ t ∨ (¬ nr y ≤ t ∧ Ex cf tf nr t n 0 y) := by
    intro y hy q
    by_cases c1 : nr y ≤ t
    · exact Or.inl c1
    · by_cases c2 : Ex cf tf nr t n 0 y
      · exact Or.inr ⟨c1, c2⟩
      · rw [((h2 y hy).2 c1).2 c2] at q; omega
  refine ⟨fun y hy => ?_, fun y hy => ⟨fun q => ?_, fun q => ?_⟩, fun k hk hkt j hj => ?_⟩
  · by_cases c1 : nr y ≤ t
    · rw [(h2 y hy).1 c1]; exact Or.inl (by omega)
    · by_cases c2 : Ex cf tf nr t n 0 y
      · rw [((h2 y hy).2 c1).1 c2]; exact Or.inl (Nat.le_refl _)
      · rw [((h2 y hy).2 c1).2 c2]; exact Or.inr rfl
  · rcases hlow y hy q with c1 | ⟨c1, c2⟩
    · exact Or.inl ((a2 y hy).mp (by omega))
    · obtain ⟨z, b1, b2, b3⟩ := (hE y).mp c2
      exact Or.inr ⟨z, (a2 z b1).mp (by omega), b3⟩
  · by_cases c1 : nr y ≤ t
    · rw [(h2 y hy).1 c1]; omega
    · have c2 : Ex cf tf nr t n 0 y := by
        rcases q with q | ⟨z, q1, j, q2, q3⟩
        · have := (a2 y hy).mpr q
          have := a1 y hy
          omega
        · have hz := rch_lt hx htt t z q1
          have w1 := (a2 z hz).mpr q1
          have w2 := a1 z hz
          by_cases e : nr z = t
          · exact (hE y).mpr ⟨z, hz, e, j, q2, q3⟩
          · have := a3 z hz (by omega) j q2
            rw [q3] at this
            exact absurd this c1
      rw [((h2 y hy).2 c1).1 c2]; omega
  · have hy := htt k hk j hj
    have ck : nr k ≤ t := by
      by_cases c1 : nr k ≤ t
      · exact c1
      · by_cases c2 : Ex cf tf nr t n 0 k
        · rw [((h2 k hk).2 c1).1 c2] at hkt; omega
        · rw [((h2 k hk).2 c1).2 c2] at hkt; omega
    by_cases c1 : nr (tf (k * 6 + j)) ≤ t
    · rw [(h2 _ hy).1 c1]; omega
    · by_cases e : nr k = t
      · rw [((h2 _ hy).2 c1).1 ((hE _).mpr ⟨k, hk, e, j, hj, rfl⟩)]; exact Nat.le_refl _
      · exact absurd (a3 k hk (by omega) j hj) c1
set_option maxHeartbeats 4000000 in
set_option maxRecDepth 100000 in
/-- around, refused -/
theorem kX1_around_no (l : Launch) (dC : Nat → ClassId) (dI : Nat → Nat → Nat) (cI cZ cA : ClassId) (a : Nat → Nat) (sz : Nat) (th : Nat) (n : Nat) (wv : Nat → Int32) (lo : Nat → Int32) (cf : Nat → Nat) (tf : Nat → Nat) (vs : Nat → Int32) (nr : Nat → Nat) (x d : Int32) (hB : Bad n x d) : Met l yX1_around wsX1_around ({ frames := 1, cells := 0, slots := 0, locals := 21 }) (va_Pc [.ref (a 0), .int x, .int d] (WP dC dI (GT cI cZ cA) (MW cI cZ a th n wv lo cf tf vs nr) sz)) (va_Qi (fun r (_ : Unit) => r = 0) (fun (_ : Unit) => WQ dC dI (GT cI cZ cA) (va_A (MW cI cZ a th n wv lo cf tf vs nr) sz) (MW cI cZ a 1 n wv lo cf tf vs nr)) (va_A (MW cI cZ a th n wv lo cf tf vs nr) sz)) 0 0 (va_A (MW cI cZ a th n wv lo cf tf vs nr) sz) := by
  refine Met.ofW (cc := cX1_around) (maxL := 7) (ret := (some .int)) (by decide) rfl ?_
  intro p e s m args below meth c s₁ B hml hv
  obtain ⟨rfl, hsz, hP, hK, hD0⟩ := hv
  have hx := B.exec
  have hb := B.bytes
  have hr := B.returns
  have hts := atoms_spec (ws := wsX1_around) B.pre
  have hown : s.vm.findClass RX1 = some m.cls := findClass_of_methodNamed B.named
  have hlocks := B.notSynchronized
  have hf_29 := hts (.fieldLink RX1 29 "GraphSearchModel" "thrown" "I") (by decide +kernel)
  have hf_33 := hts (.fieldLink RX1 33 "GraphSearchModel" "nodes" "I") (by decide +kernel)
  have hf_26 := hts (.fieldLink RX1 26 "GraphSearchModel" "near" "[I") (by decide +kernel)
  have hf_17 := hts (.fieldLink RX1 17 "GraphSearchModel" "many" "[I") (by decide +kernel)
  have hf_20 := hts (.fieldLink RX1 20 "GraphSearchModel" "to" "[I") (by decide +kernel)
  have hiw : ∀ w ∈ wsX10, w ∈ wsX1_around := by decide +kernel
  subst hsz
  have hD := hD0.self (sz := s.heap.size)
  generalize hAe : va_A (MW cI cZ a th n wv lo cf tf vs nr) s.heap.size = A at hD ⊢
  have hA : ∀ q : Nat, s.heap.size ≤ q → A q := fun q h => by rw [← hAe]; exact Or.inr h
  have hS : va_S A s.heap s.heap [] := va_S.rf
  have hP : va_P (dC, dI) vwCl (MW cI cZ a th n wv lo cf tf vs nr) s.heap := hP
  have hl := lv_entry ([.ref (a 0), .int x, .int d]) (n := 7) (Nat.le_of_ble_eq_true rfl)
  rw [lg_entry_eq]
  generalize (lg_sl ([.ref (a 0), .int x, .int d]) ++ List.replicate (7 - (lg_sl ([.ref (a 0), .int x, .int d])).length) Slot.unset).toArray = ls at hl ⊢
  have hl : lv_has ls 7 [(0, .ref (a 0)), (1, .int x), (2, .int d)] := hl
  refine lv_aload_n hx hb dX1_around_0 rfl (lv_at hl 0 rfl) ?_
  refine lv_aload_n hx hb dX1_around_1 rfl (lv_at hl 0 rfl) ?_
  refine lv_iload_n hx hb dX1_around_2 rfl (lv_at hl 1 rfl) ?_
  refine W.callR (r := isn x n) (W.runV (As := [.int x]) (rest := [.ref (a 0)]) ⟨hx, hb, hml, hown, hts⟩ (kX1_isNode l dC dI cI cZ cA a th n wv lo cf tf vs nr x) (cwV 1 hts gX1_around_X1_isNode rfl rfl rfl (by decide +kernel) ⟨Nat.le_of_ble_eq_true rfl, Nat.le_of_ble_eq_true rfl⟩) ⟨blindR, va_recv hK hP (ci := 1) (q0 := 0) rfl rfl, preR hP hK⟩ rfl rfl hl.1 rfl (lv_room (Nat.le_of_ble_eq_true rfl)) dX1_around_3 ⟨Nat.zero_le _, Nat.zero_le _⟩) ?_
  refine W.eq (g2 := F0 m 6 ls [.int (isn x n), .ref (a 0)]) rfl ?_
  refine lv_if_eq (tgt := 23) hx hb dX1_around_6 (by decide) (fun h6 => ?_) (fun h6 => ?_)
  · refine lv_iconst (v := 1) hx hb dX1_around_23 (by decide) ?_
    refine ga_is (y := nI 1) (rfl) ?_
    refine va_put (D := (dC, dI)) (ci := 1) (v := .int (nI 1)) (ty := .int) (C := RX1) (T := TX1) (N := 8) hx hb hts hiw tyX1 tyX1_ok nmX1 hown hK hP hD hS 0 rfl rfl 0 (by decide) hf_29 (fun _ h9 => h9) rfl (by decide +kernel) rfl rfl (Nat.le_of_ble_eq_true rfl) dX1_around_24 (fun H locs hP hD hS => ?_)
    have hP : va_P (dC, dI) vwCl (MW cI cZ a 1 n wv lo cf tf vs nr) H := hP
    have hD : va_D A (MW cI cZ a 1 n wv lo cf tf vs nr) := hD
    refine lv_aload_n hx hb dX1_around_27 rfl (lv_at hl 0 rfl) ?_
    refine va_get (D := (dC, dI)) (ci := 1) (v := .int (nI 1)) (C := RX1) (T := TX1) (N := 8) hx hb hts hiw hown hK hP 0 rfl rfl 0 (by decide) hf_29 (fun _ h9 => h9) rfl dX1_around_28 ?_
    refine lv_if_le (tgt := 36) hx hb dX1_around_31 (by decide) (fun h31 => absurd h31 (nI_nle (by decide) (by decide))) (fun h31 => ?_)
    refine lv_iconst (v := 0) hx hb dX1_around_34 (by decide) ?_
    exact W.iret (v := 0) hx hb hr (fun t ht hW => ⟨⟨0, (), rfl, rfl, by rw [ht]; exact hP, va_K.moved hW.alike hK, hD⟩, hS.F ht⟩) hS.2.2 dX1_around_35
  · refine lv_iload_n hx hb dX1_around_9 rfl (lv_at hl 2 rfl) ?_
    refine lv_if_lt (tgt := 23) hx hb dX1_around_10 (by decide) (fun h10 => ?_) (fun h10 => ?_)
    · refine lv_iconst (v := 1) hx hb dX1_around_23 (by decide) ?_
      refine ga_is (y := nI 1) (rfl) ?_
      refine va_put (D := (dC, dI)) (ci := 1) (v := .int (nI 1)) (ty := .int) (C := RX1) (T := TX1) (N := 8) hx hb hts hiw tyX1 tyX1_ok nmX1 hown hK hP hD hS 0 rfl rfl 0 (by decide) hf_29 (fun _ h9 => h9) rfl (by decide +kernel) rfl rfl (Nat.le_of_ble_eq_true rfl) dX1_around_24 (fun H locs hP hD hS => ?_)
      have hP : va_P (dC, dI) vwCl (MW cI cZ a 1 n wv lo cf tf vs nr) H := hP
      have hD : va_D A (MW cI cZ a 1 n wv lo cf tf vs nr) := hD
      refine lv_aload_n hx hb dX1_around_27 rfl (lv_at hl 0 rfl) ?_
      refine va_get (D := (dC, dI)) (ci := 1) (v := .int (nI 1)) (C := RX1) (T := TX1) (N := 8) hx hb hts hiw hown hK hP 0 rfl rfl 0 (by decide) hf_29 (fun _ h9 => h9) rfl dX1_around_28 ?_
      refine lv_if_le (tgt := 36) hx hb dX1_around_31 (by decide) (fun h31 => absurd h31 (nI_nle (by decide) (by decide))) (fun h31 => ?_)
      refine lv_iconst (v := 0) hx hb dX1_around_34 (by decide) ?_
      exact W.iret (v := 0) hx hb hr (fun t ht hW => ⟨⟨0, (), rfl, rfl, by rw [ht]; exact hP, va_K.moved hW.alike hK, hD⟩, hS.F ht⟩) hS.2.2 dX1_around_35
    · refine lv_iload_n hx hb dX1_around_13 rfl (lv_at hl 2 rfl) ?_
      refine lv_bipush (v := 7) hx hb dX1_around_14 (by decide) ?_
      refine lv_icmp_gt (tgt := 23) hx hb dX1_around_16 (by decide) (fun h16 => ?_) (fun h16 => absurd ((hB.resolve_left h6).resolve_left h10) h16)
      refine lv_iconst (v := 1) hx hb dX1_around_23 (by decide) ?_
      refine ga_is (y := nI 1) (rfl) ?_
      refine va_put (D := (dC, dI)) (ci := 1) (v := .int (nI 1)) (ty := .int) (C := RX1) (T := TX1) (N := 8) hx hb hts hiw tyX1 tyX1_ok nmX1 hown hK hP hD hS 0 rfl rfl 0 (by decide) hf_29 (fun _ h9 => h9) rfl (by decide +kernel) rfl rfl (Nat.le_of_ble_eq_true rfl) dX1_around_24 (fun H locs hP hD hS => ?_)
      have hP : va_P (dC, dI) vwCl (MW cI cZ a 1 n wv lo cf tf vs nr) H := hP
      have hD : va_D A (MW cI cZ a 1 n wv lo cf tf vs nr) := hD
      refine lv_aload_n hx hb dX1_around_27 rfl (lv_at hl 0 rfl) ?_
      refine va_get (D := (dC, dI)) (ci := 1) (v := .int (nI 1)) (C := RX1) (T := TX1) (N := 8) hx hb hts hiw hown hK hP 0 rfl rfl 0 (by decide) hf_29 (fun _ h9 => h9) rfl dX1_around_28 ?_
      refine lv_if_le (tgt := 36) hx hb dX1_around_31 (by decide) (fun h31 => absurd h31 (nI_nle (by decide) (by decide))) (fun h31 => ?_)
      refine lv_iconst (v := 0) hx hb dX1_around_34 (by decide) ?_
      exact W.iret (v := 0) hx hb hr (fun t ht hW => ⟨⟨0, (), rfl, rfl, by rw [ht]; exact hP, va_K.moved hW.alike hK, hD⟩, hS.F ht⟩) hS.2.2 dX1_around_35
end
section
set_option maxHeartbeats 4000000 in
set_option maxRecDepth 100000 in
/-- around -/
theorem kX1_around (l : Launch) (dC : Nat → ClassId) (dI : Nat → Nat → Nat) (cI cZ cA : ClassId) (a : Nat → Nat) (sz : Nat) (th : Nat) (n : Nat) (wv : Nat → Int32) (lo : Nat → Int32) (cf : Nat → Nat) (tf : Nat → Nat) (vs : Nat → Int32) (nr : Nat → Nat) (j d : Nat) (hd : d < 8) (hG : Gok n wv lo cf tf) (hj : j < n) : Met l yX1_around wsX1_around ({ frames := 1, cells := 0, slots := 0, locals := 21 }) (va_Pc [.ref (a 0), .int (nI j), .int (nI d)] (WP dC dI (GT cI cZ cA) (MW cI cZ a th n wv lo cf tf vs nr) sz)) (va_Qi (fun r (nr1 : Nat → Nat) => r = nI (cntP (rch cf tf j d) n)) (fun nr1 => WQ dC dI (GT cI cZ cA) (va_A (MW cI cZ a th n wv lo cf tf vs nr) sz) (MW cI cZ a 0 n wv lo cf tf vs nr1)) (va_A (MW cI cZ a th n wv lo cf tf vs nr) sz)) 0 0 (va_A (MW cI cZ a th n wv lo cf tf vs nr) sz) := by
  refine Met.ofW (cc := cX1_around) (maxL := 7) (ret := (some .int)) (by decide) rfl ?_
  intro p e s m args below meth c s₁ B hml hv
  obtain ⟨rfl, hsz, hP, hK, hD0⟩ := hv
  have hx := B.exec
  have hb := B.bytes
  have hr := B.returns
  have hts := atoms_spec (ws := wsX1_around) B.pre
  have hown : s.vm.findClass RX1 = some m.cls := findClass_of_methodNamed B.named
  have hlocks := B.notSynchronized
  have hf_29 := hts (.fieldLink RX1 29 "GraphSearchModel" "thrown" "I") (by decide +kernel)
  have hf_33 := hts (.fieldLink RX1 33 "GraphSearchModel" "nodes" "I") (by decide +kernel)
  have hf_26 := hts (.fieldLink RX1 26 "GraphSearchModel" "near" "[I") (by decide +kernel)
  have hf_17 := hts (.fieldLink RX1 17 "GraphSearchModel" "many" "[I") (by decide +kernel)
  have hf_20 := hts (.fieldLink RX1 20 "GraphSearchModel" "to" "[I") (by decide +kernel)
  have hiw : ∀ w ∈ wsX10, w ∈ wsX1_around := by decide +kernel
  subst hsz
  have hD := hD0.self (sz := s.heap.size)
  generalize hAe : va_A (MW cI cZ a th n wv lo cf tf vs nr) s.heap.size = A at hD ⊢
  have hA : ∀ q : Nat, s.heap.size ≤ q → A q := fun q h => by rw [← hAe]; exact Or.inr h
  have hS : va_S A s.heap s.heap [] := va_S.rf
  have hP : va_P (dC, dI) vwCl (MW cI cZ a th n wv lo cf tf vs nr) s.heap := hP
  have hl := lv_entry ([.ref (a 0), .int (nI j), .int (nI d)]) (n := 7) (Nat.le_of_ble_eq_true rfl)
  rw [lg_entry_eq]
  generalize (lg_sl ([.ref (a 0), .int (nI j), .int (nI d)]) ++ List.replicate (7 - (lg_sl ([.ref (a 0), .int (nI j), .int (nI d)])).length) Slot.unset).toArray = ls at hl ⊢
  have hl : lv_has ls 7 [(0, .ref (a 0)), (1, .int (nI j)), (2, .int (nI d))] := hl
  obtain ⟨-, hwr, hc, htt, hlo, hz0⟩ := id hG
  have hn4 := hG.1
  refine lv_aload_n hx hb dX1_around_0 rfl (lv_at hl 0 rfl) ?_
  refine lv_aload_n hx hb dX1_around_1 rfl (lv_at hl 0 rfl) ?_
  refine lv_iload_n hx hb dX1_around_2 rfl (lv_at hl 1 rfl) ?_
  refine W.callR (r := isn (nI j) n) (W.runV (As := [.int (nI j)]) (rest := [.ref (a 0)]) ⟨hx, hb, hml, hown, hts⟩ (kX1_isNode l dC dI cI cZ cA a th n wv lo cf tf vs nr (nI j)) (cwV 1 hts gX1_around_X1_isNode rfl rfl rfl (by decide +kernel) ⟨Nat.le_of_ble_eq_true rfl, Nat.le_of_ble_eq_true rfl⟩) ⟨blindR, va_recv hK hP (ci := 1) (q0 := 0) rfl rfl, preR hP hK⟩ rfl rfl hl.1 rfl (lv_room (Nat.le_of_ble_eq_true rfl)) dX1_around_3 ⟨Nat.zero_le _, Nat.zero_le _⟩) ?_
  refine W.eq (g2 := F0 m 6 ls [.int (isn (nI j) n), .ref (a 0)]) rfl ?_
  refine lv_if_eq (tgt := 23) hx hb dX1_around_6 (by decide) (fun h6 => absurd h6 (by rw [isn_1 hj (by omega)]; decide)) (fun h6 => ?_)
  refine lv_iload_n hx hb dX1_around_9 rfl (lv_at hl 2 rfl) ?_
  refine lv_if_lt (tgt := 23) hx hb dX1_around_10 (by decide) (fun h10 => absurd h10 (nI_pos (by omega))) (fun h10 => ?_)
  refine lv_iload_n hx hb dX1_around_13 rfl (lv_at hl 2 rfl) ?_
  refine lv_bipush (v := 7) hx hb dX1_around_14 (by decide) ?_
  refine lv_icmp_gt (tgt := 23) hx hb dX1_around_16 (by decide) (fun h16 => absurd h16 (seven_nlt hd)) (fun h16 => ?_)
  refine lv_iconst (v := 0) hx hb dX1_around_19 (by decide) ?_
  refine lv_goto (tgt := 24) hx hb dX1_around_20 (by decide) ?_
  refine ga_is (y := nI 0) (rfl) ?_
  refine va_put (D := (dC, dI)) (ci := 1) (v := .int (nI 0)) (ty := .int) (C := RX1) (T := TX1) (N := 8) hx hb hts hiw tyX1 tyX1_ok nmX1 hown hK hP hD hS 0 rfl rfl 0 (by decide) hf_29 (fun _ h9 => h9) rfl (by decide +kernel) rfl rfl (Nat.le_of_ble_eq_true rfl) dX1_around_24 (fun H locs hP hD hS => ?_)
  have hP : va_P (dC, dI) vwCl (MW cI cZ a 0 n wv lo cf tf vs nr) H := hP
  have hD : va_D A (MW cI cZ a 0 n wv lo cf tf vs nr) := hD
  refine lv_aload_n hx hb dX1_around_27 rfl (lv_at hl 0 rfl) ?_
  refine va_get (D := (dC, dI)) (ci := 1) (v := .int (nI 0)) (C := RX1) (T := TX1) (N := 8) hx hb hts hiw hown hK hP 0 rfl rfl 0 (by decide) hf_29 (fun _ h9 => h9) rfl dX1_around_28 ?_
  refine lv_if_le (tgt := 36) hx hb dX1_around_31 (by decide) (fun h31 => ?_) (fun h31 => absurd (show nI 0 ≤ 0 from Int32.le_refl _) h31)
  refine lv_iconst (v := 0) hx hb dX1_around_36 (by decide) ?_
  refine ga_is (y := nI 0) (rfl) ?_
  refine lv_istore_n (lv' := [(3, .int (nI 0)), (0, .ref (a 0)), (1, .int (nI j)), (2, .int (nI d))]) hx hb dX1_around_37 rfl hl (by decide) rfl (fun ls hl => ?_)
  have count : ∀ nr3 : Nat → Nat, Nr n cf tf j d nr3 → ∀ (k i : Nat), i + k = n → ∀ (H : Heap) (locs : List Loc), va_P (dC, dI) vwCl (MW cI cZ a 0 n wv lo cf tf vs nr3) H → va_D A (MW cI cZ a 0 n wv lo cf tf vs nr3) → va_S A s.heap H locs → ∀ ls : Array Slot, lv_has ls 7 [(4, .int (nI i)), (3, .int (nI (cntP (fun y => nr3 y < 100) i))), (0, .ref (a 0)), (1, .int (nI j)), (2, .int (nI d))] → W p l e (headSpec wsX1_around (({ frames := 1, cells := 0, slots := 0, locals := 21 }) : Room)).room s m ([.ref (a 0), .int (nI j), .int (nI d)] : List Value).toArray below meth c H locs 0 0 (MQ below (va_Qi (fun r (nr1 : Nat → Nat) => r = nI (cntP (rch cf tf j d) n)) (fun nr1 => WQ dC dI (GT cI cZ cA) A (MW cI cZ a 0 n wv lo cf tf vs nr1)) A) ([.ref (a 0), .int (nI j), .int (nI d)] : List Value).toArray s 0 0 A) (F0 m 183 ls []) := by
    intro nr3 hN k
    induction k with
    | zero =>
      intro i hi H locs hP hD hS ls hl
      obtain rfl : n = i := by omega
      refine lv_iload hx hb dX1_around_183 (lv_at hl 0 rfl) ?_
      refine lv_aload_n hx hb dX1_around_185 rfl (lv_at hl 2 rfl) ?_
      refine va_get (D := (dC, dI)) (ci := 1) (v := .int (nI n)) (C := RX1) (T := TX1) (N := 8) hx hb hts hiw hown hK hP 0 rfl rfl 1 (by decide) hf_33 (fun _ h9 => h9) rfl dX1_around_186 ?_
      refine lv_icmp_ge (tgt := 218) hx hb dX1_around_189 (by decide) (fun h189 => ?_) (fun h189 => absurd (Int32.le_refl _) h189)
      refine lv_iload_n hx hb dX1_around_218 rfl (lv_at hl 1 rfl) ?_
      exact W.iret (v := (nI (cntP (fun y => nr3 y < 100) n))) hx hb hr (fun t ht hW => ⟨⟨(nI (cntP (fun y => nr3 y < 100) n)), nr3, rfl, congrArg nI (cntP_congr n (fun k hk => hN.2.1 k hk)), by rw [ht]; exact hP, va_K.moved hW.alike hK, hD⟩, hS.F ht⟩) hS.2.2 dX1_around_219
    | succ k ih =>
      intro i hi H locs hP hD hS ls hl
      have hb1 : nr3 i ≤ 100 := by have := hN.1 i (by omega); omega
      refine lv_iload hx hb dX1_around_183 (lv_at hl 0 rfl) ?_
      refine lv_aload_n hx hb dX1_around_185 rfl (lv_at hl 2 rfl) ?_
      refine va_get (D := (dC, dI)) (ci := 1) (v := .int (nI n)) (C := RX1) (T := TX1) (N := 8) hx hb hts hiw hown hK hP 0 rfl rfl 1 (by decide) hf_33 (fun _ h9 => h9) rfl dX1_around_186 ?_
      refine lv_icmp_ge (tgt := 218) hx hb dX1_around_189 (by decide) (fun h189 => absurd h189 (nI_ge (by omega) (by omega))) (fun h189 => ?_)
      refine lv_iload_n hx hb dX1_around_192 rfl (lv_at hl 1 rfl) ?_
      refine lv_aload_n hx hb dX1_around_193 rfl (lv_at hl 2 rfl) ?_
      refine va_get (D := (dC, dI)) (ci := 1) (v := .ref (a 6)) (C := RX1) (T := TX1) (N := 8) hx hb hts hiw hown hK hP 0 rfl rfl 7 (by decide) hf_26 (fun _ h9 => h9) rfl dX1_around_194 ?_
      refine lv_iload hx hb dX1_around_197 (lv_at hl 0 rfl) ?_
      refine ga_iald hx hb hK hP 6 0 rfl rfl i (v := nI (nr3 i)) rfl (by omega) (by decide) dX1_around_199 ?_
      refine lv_bipush (v := 100) hx hb dX1_around_200 (by decide) ?_
      refine lv_icmp_ge (tgt := 209) hx hb dX1_around_202 (by decide) (fun h202 => ?_) (fun h202 => ?_)
      · refine lv_iconst (v := 0) hx hb dX1_around_209 (by decide) ?_
        refine lv_iadd hx hb dX1_around_210 ?_
        refine ga_is (y := nI (cntP (fun y => nr3 y < 100) (i + 1))) (by rw [cntP, if_neg (fun z => absurd h202 (nI_ge (b := 100) z (by decide)))]; exact nI_add _ 0) ?_
        refine lv_istore_n (lv' := [(3, .int (nI (cntP (fun y => nr3 y < 100) (i + 1)))), (4, .int (nI i)), (0, .ref (a 0)), (1, .int (nI j)), (2, .int (nI d))]) hx hb dX1_around_211 rfl hl (by decide) rfl (fun ls hl => ?_)
        refine lv_iinc (v := nI (i + 1)) (lv' := [(4, .int (nI (i + 1))), (3, .int (nI (cntP (fun y => nr3 y < 100) (i + 1)))), (0, .ref (a 0)), (1, .int (nI j)), (2, .int (nI d))]) hx hb dX1_around_212 hl (k := 1) rfl (nI_1 i) (by decide) rfl (fun ls hl => ?_)
        refine lv_goto (tgt := 183) hx hb dX1_around_215 (by decide) ?_
        exact ih (i + 1) (by omega) H locs hP hD hS ls (lv_sub hl [0, 1, 2, 3, 4] rfl)
      · refine lv_iconst (v := 1) hx hb dX1_around_205 (by decide) ?_
        refine lv_goto (tgt := 210) hx hb dX1_around_206 (by decide) ?_
        refine lv_iadd hx hb dX1_around_210 ?_
        refine ga_is (y := nI (cntP (fun y => nr3 y < 100) (i + 1))) (by rw [cntP, if_pos (by rcases Nat.lt_or_ge (nr3 i) 100 with z | z; exact z; exact absurd (nI_le (a := 100) z (by omega)) h202)]; exact nI_1 _) ?_
        refine lv_istore_n (lv' := [(3, .int (nI (cntP (fun y => nr3 y < 100) (i + 1)))), (4, .int (nI i)), (0, .ref (a 0)), (1, .int (nI j)), (2, .int (nI d))]) hx hb dX1_around_211 rfl hl (by decide) rfl (fun ls hl => ?_)
        refine lv_iinc (v := nI (i + 1)) (lv' := [(4, .int (nI (i + 1))), (3, .int (nI (cntP (fun y => nr3 y < 100) (i + 1)))), (0, .ref (a 0)), (1, .int (nI j)), (2, .int (nI d))]) hx hb dX1_around_212 hl (k := 1) rfl (nI_1 i) (by decide) rfl (fun ls hl => ?_)
        refine lv_goto (tgt := 183) hx hb dX1_around_215 (by decide) ?_
        exact ih (i + 1) (by omega) H locs hP hD hS ls (lv_sub hl [0, 1, 2, 3, 4] rfl)
  have outer : ∀ (k t : Nat), t + k = d → ∀ nr1 : Nat → Nat, Nr n cf tf j t nr1 → ∀ (H : Heap) (locs : List Loc), va_P (dC, dI) vwCl (MW cI cZ a 0 n wv lo cf tf vs nr1) H → va_D A (MW cI cZ a 0 n wv lo cf tf vs nr1) → va_S A s.heap H locs → ∀ ls : Array Slot, lv_has ls 7 [(3, .int (nI t)), (0, .ref (a 0)), (1, .int (nI j)), (2, .int (nI d))] → W p l e (headSpec wsX1_around (({ frames := 1, cells := 0, slots := 0, locals := 21 }) : Room)).room s m ([.ref (a 0), .int (nI j), .int (nI d)] : List Value).toArray below meth c H locs 0 0 (MQ below (va_Qi (fun r (nr1 : Nat → Nat) => r = nI (cntP (rch cf tf j d) n)) (fun nr1 => WQ dC dI (GT cI cZ cA) A (MW cI cZ a 0 n wv lo cf tf vs nr1)) A) ([.ref (a 0), .int (nI j), .int (nI d)] : List Value).toArray s 0 0 A) (F0 m 71 ls []) := by
    intro k
    induction k with
    | zero =>
      intro t ht nr1 hN H locs hP hD hS ls hl
      obtain rfl : d = t := by omega
      refine lv_iload_n hx hb dX1_around_71 rfl (lv_at hl 0 rfl) ?_
      refine lv_iload_n hx hb dX1_around_72 rfl (lv_at hl 3 rfl) ?_
      refine lv_icmp_ge (tgt := 178) hx hb dX1_around_73 (by decide) (fun h73 => ?_) (fun h73 => absurd (Int32.le_refl _) h73)
      refine lv_iconst (v := 0) hx hb dX1_around_178 (by decide) ?_
      refine ga_is (y := nI 0) (rfl) ?_
      refine lv_istore_n (lv' := [(3, .int (nI 0)), (0, .ref (a 0)), (1, .int (nI j)), (2, .int (nI d))]) hx hb dX1_around_179 rfl hl (by decide) rfl (fun ls hl => ?_)
      refine lv_iconst (v := 0) hx hb dX1_around_180 (by decide) ?_
      refine ga_is (y := nI 0) (rfl) ?_
      refine lv_istore (lv' := [(4, .int (nI 0)), (3, .int (nI 0)), (0, .ref (a 0)), (1, .int (nI j)), (2, .int (nI d))]) hx hb dX1_around_181 hl (by decide) rfl (fun ls hl => ?_)
      exact count nr1 hN n 0 (by omega) H locs hP hD hS ls (lv_sub hl [0, 1, 2, 3, 4] rfl)
    | succ k ih =>
      intro t ht nr1 hN H locs hP hD hS ls hl
      have ht8 : t < 8 := by omega
      refine lv_iload_n hx hb dX1_around_71 rfl (lv_at hl 0 rfl) ?_
      refine lv_iload_n hx hb dX1_around_72 rfl (lv_at hl 3 rfl) ?_
      refine lv_icmp_ge (tgt := 178) hx hb dX1_around_73 (by decide) (fun h73 => absurd h73 (nI_ge (by omega) (by omega))) (fun h73 => ?_)
      refine lv_iconst (v := 0) hx hb dX1_around_76 (by decide) ?_
      refine ga_is (y := nI 0) (rfl) ?_
      refine lv_istore (lv' := [(4, .int (nI 0)), (3, .int (nI t)), (0, .ref (a 0)), (1, .int (nI j)), (2, .int (nI d))]) hx hb dX1_around_77 hl (by decide) rfl (fun ls hl => ?_)
      have middle : ∀ (f2 k2 : Nat), k2 + f2 = n → ∀ nr2 : Nat → Nat, Nw n t nr1 (Ex cf tf nr1 t k2 0) nr2 → ∀ (H : Heap) (locs : List Loc), va_P (dC, dI) vwCl (MW cI cZ a 0 n wv lo cf tf vs nr2) H → va_D A (MW cI cZ a 0 n wv lo cf tf vs nr2) → va_S A s.heap H locs → ∀ ls : Array Slot, lv_has ls 7 [(4, .int (nI k2)), (3, .int (nI t)), (0, .ref (a 0)), (1, .int (nI j)), (2, .int (nI d))] → W p l e (headSpec wsX1_around (({ frames := 1, cells := 0, slots := 0, locals := 21 }) : Room)).room s m ([.ref (a 0), .int (nI j), .int (nI d)] : List Value).toArray below meth c H locs 0 0 (MQ below (va_Qi (fun r (nr1 : Nat → Nat) => r = nI (cntP (rch cf tf j d) n)) (fun nr1 => WQ dC dI (GT cI cZ cA) A (MW cI cZ a 0 n wv lo cf tf vs nr1)) A) ([.ref (a 0), .int (nI j), .int (nI d)] : List Value).toArray s 0 0 A) (F0 m 79 ls []) := by
        intro f2
        induction f2 with
        | zero =>
          intro k2 hk2 nr2 hW2 H locs hP hD hS ls hl
          obtain rfl : n = k2 := by omega
          refine lv_iload hx hb dX1_around_79 (lv_at hl 0 rfl) ?_
          refine lv_aload_n hx hb dX1_around_81 rfl (lv_at hl 2 rfl) ?_
          refine va_get (D := (dC, dI)) (ci := 1) (v := .int (nI n)) (C := RX1) (T := TX1) (N := 8) hx hb hts hiw hown hK hP 0 rfl rfl 1 (by decide) hf_33 (fun _ h9 => h9) rfl dX1_around_82 ?_
          refine lv_icmp_ge (tgt := 172) hx hb dX1_around_85 (by decide) (fun h85 => ?_) (fun h85 => absurd (Int32.le_refl _) h85)
          refine lv_iinc (v := nI (t + 1)) (lv' := [(3, .int (nI (t + 1))), (4, .int (nI n)), (0, .ref (a 0)), (1, .int (nI j)), (2, .int (nI d))]) hx hb dX1_around_172 hl (k := 1) rfl (nI_1 t) (by decide) rfl (fun ls hl => ?_)
          refine lv_goto (tgt := 71) hx hb dX1_around_175 (by decide) ?_
          exact ih (t + 1) (by omega) nr2 (hN.next hj ht8 htt hW2) H locs hP hD hS ls (lv_sub hl [0, 2, 3, 4] rfl)
        | succ f2 ih2 =>
          intro k2 hk2 nr2 hW2 H locs hP hD hS ls hl
          have hk2n : k2 < n := by omega
          have hck := hc k2 hk2n
          refine lv_iload hx hb dX1_around_79 (lv_at hl 0 rfl) ?_
          refine lv_aload_n hx hb dX1_around_81 rfl (lv_at hl 2 rfl) ?_
          refine va_get (D := (dC, dI)) (ci := 1) (v := .int (nI n)) (C := RX1) (T := TX1) (N := 8) hx hb hts hiw hown hK hP 0 rfl rfl 1 (by decide) hf_33 (fun _ h9 => h9) rfl dX1_around_82 ?_
          refine lv_icmp_ge (tgt := 172) hx hb dX1_around_85 (by decide) (fun h85 => absurd h85 (nI_ge (by omega) (by omega))) (fun h85 => ?_)
          refine lv_iconst (v := 0) hx hb dX1_around_88 (by decide) ?_
          refine ga_is (y := nI 0) (rfl) ?_
          refine lv_istore (lv' := [(5, .int (nI 0)), (4, .int (nI k2)), (3, .int (nI t)), (0, .ref (a 0)), (1, .int (nI j)), (2, .int (nI d))]) hx hb dX1_around_89 hl (by decide) rfl (fun ls hl => ?_)
          have inner : ∀ (f3 i : Nat), i + f3 = cf k2 → ∀ nr3 : Nat → Nat, Nw n t nr1 (Ex cf tf nr1 t k2 i) nr3 → ∀ (H : Heap) (locs : List Loc), va_P (dC, dI) vwCl (MW cI cZ a 0 n wv lo cf tf vs nr3) H → va_D A (MW cI cZ a 0 n wv lo cf tf vs nr3) → va_S A s.heap H locs → ∀ ls : Array Slot, lv_has ls 7 [(5, .int (nI i)), (4, .int (nI k2)), (3, .int (nI t)), (0, .ref (a 0)), (1, .int (nI j)), (2, .int (nI d))] → W p l e (headSpec wsX1_around (({ frames := 1, cells := 0, slots := 0, locals := 21 }) : Room)).room s m ([.ref (a 0), .int (nI j), .int (nI d)] : List Value).toArray below meth c H locs 0 0 (MQ below (va_Qi (fun r (nr1 : Nat → Nat) => r = nI (cntP (rch cf tf j d) n)) (fun nr1 => WQ dC dI (GT cI cZ cA) A (MW cI cZ a 0 n wv lo cf tf vs nr1)) A) ([.ref (a 0), .int (nI j), .int (nI d)] : List Value).toArray s 0 0 A) (F0 m 91 ls []) := by
            intro f3
            induction f3 with
            | zero =>
              intro i hi nr3 hW3 H locs hP hD hS ls hl
              obtain rfl : i = cf k2 := by omega
              refine lv_iload hx hb dX1_around_91 (lv_at hl 0 rfl) ?_
              refine lv_aload_n hx hb dX1_around_93 rfl (lv_at hl 3 rfl) ?_
              refine va_get (D := (dC, dI)) (ci := 1) (v := .ref (a 3)) (C := RX1) (T := TX1) (N := 8) hx hb hts hiw hown hK hP 0 rfl rfl 4 (by decide) hf_17 (fun _ h9 => h9) rfl dX1_around_94 ?_
              refine lv_iload hx hb dX1_around_97 (lv_at hl 1 rfl) ?_
              refine ga_iald hx hb hK hP 3 0 rfl rfl k2 (v := nI (cf k2)) rfl (by omega) (by decide) dX1_around_99 ?_
              refine lv_icmp_ge (tgt := 166) hx hb dX1_around_100 (by decide) (fun h100 => ?_) (fun h100 => absurd (Int32.le_refl _) h100)
              refine lv_iinc (v := nI (k2 + 1)) (lv' := [(4, .int (nI (k2 + 1))), (5, .int (nI (cf k2))), (3, .int (nI t)), (0, .ref (a 0)), (1, .int (nI j)), (2, .int (nI d))]) hx hb dX1_around_166 hl (k := 1) rfl (nI_1 k2) (by decide) rfl (fun ls hl => ?_)
              refine lv_goto (tgt := 79) hx hb dX1_around_169 (by decide) ?_
              refine ih2 (k2 + 1) (by omega) nr3 (hW3.iff (fun y => ?_)) H locs hP hD hS ls (lv_sub hl [0, 2, 3, 4, 5] rfl)
              rw [← Ex_0 y]
              by_cases e : nr1 k2 = t
              · rw [if_pos e]
              · rw [if_neg e]; exact Ex_n e y
            | succ f3 ih3 =>
              intro i hi nr3 hW3 H locs hP hD hS ls hl
              have hle := hW3.le ht8 hk2n
              refine lv_iload hx hb dX1_around_91 (lv_at hl 0 rfl) ?_
              refine lv_aload_n hx hb dX1_around_93 rfl (lv_at hl 3 rfl) ?_
              refine va_get (D := (dC, dI)) (ci := 1) (v := .ref (a 3)) (C := RX1) (T := TX1) (N := 8) hx hb hts hiw hown hK hP 0 rfl rfl 4 (by decide) hf_17 (fun _ h9 => h9) rfl dX1_around_94 ?_
              refine lv_iload hx hb dX1_around_97 (lv_at hl 1 rfl) ?_
              refine ga_iald hx hb hK hP 3 0 rfl rfl k2 (v := nI (cf k2)) rfl (by omega) (by decide) dX1_around_99 ?_
              refine lv_icmp_ge (tgt := 166) hx hb dX1_around_100 (by decide) (fun h100 => absurd h100 (nI_ge (by omega) (by omega))) (fun h100 => ?_)
              refine lv_aload_n hx hb dX1_around_103 rfl (lv_at hl 3 rfl) ?_
              refine va_get (D := (dC, dI)) (ci := 1) (v := .ref (a 6)) (C := RX1) (T := TX1) (N := 8) hx hb hts hiw hown hK hP 0 rfl rfl 7 (by decide) hf_26 (fun _ h9 => h9) rfl dX1_around_104 ?_
              refine lv_iload hx hb dX1_around_107 (lv_at hl 1 rfl) ?_
              refine ga_iald hx hb hK hP 6 0 rfl rfl k2 (v := nI (nr3 k2)) rfl (by omega) (by decide) dX1_around_109 ?_
              refine lv_iload_n hx hb dX1_around_110 rfl (lv_at hl 2 rfl) ?_
              refine lv_icmp_ne (tgt := 166) hx hb dX1_around_111 (by decide) (fun h111 => ?_) (fun h111 => ?_)
              · have e : ¬ nr1 k2 = t := fun e => h111 (by rw [(hW3.at ht8 hk2n).mpr e])
                refine lv_iinc (v := nI (k2 + 1)) (lv' := [(4, .int (nI (k2 + 1))), (5, .int (nI i)), (3, .int (nI t)), (0, .ref (a 0)), (1, .int (nI j)), (2, .int (nI d))]) hx hb dX1_around_166 hl (k := 1) rfl (nI_1 k2) (by decide) rfl (fun ls hl => ?_)
                refine lv_goto (tgt := 79) hx hb dX1_around_169 (by decide) ?_
                refine ih2 (k2 + 1) (by omega) nr3 (hW3.iff (fun y => ?_)) H locs hP hD hS ls (lv_sub hl [0, 2, 3, 4, 5] rfl)
                rw [← Ex_0 y, if_neg e]
                exact Ex_n e y
              · have e : nr1 k2 = t := (hW3.at ht8 hk2n).mp ((nI_eq (by omega) (by omega)).mp h111)
                have hyn := htt k2 hk2n i (by omega)
                have hly := hW3.le ht8 hyn
                refine lv_aload_n hx hb dX1_around_114 rfl (lv_at hl 3 rfl) ?_
                refine va_get (D := (dC, dI)) (ci := 1) (v := .ref (a 4)) (C := RX1) (T := TX1) (N := 8) hx hb hts hiw hown hK hP 0 rfl rfl 5 (by decide) hf_20 (fun _ h9 => h9) rfl dX1_around_115 ?_
                refine lv_bipush (v := 6) hx hb dX1_around_118 (by decide) ?_
                refine lv_iload hx hb dX1_around_120 (lv_at hl 1 rfl) ?_
                refine lv_imul hx hb dX1_around_122 ?_
                refine lv_iload hx hb dX1_around_123 (lv_at hl 0 rfl) ?_
                refine lv_iadd hx hb dX1_around_125 ?_
                refine ga_is (y := nI (k2 * 6 + i)) (by rw [show (6 : Int32) = nI 6 from rfl, pk_mul, nI_add, Nat.mul_comm 6 k2]) ?_
                refine ga_iald hx hb hK hP 4 0 rfl rfl (k2 * 6 + i) (v := nI (tf (k2 * 6 + i))) rfl (by omega) (by decide) dX1_around_126 ?_
                refine lv_istore (lv' := [(6, .int (nI (tf (k2 * 6 + i)))), (5, .int (nI i)), (4, .int (nI k2)), (3, .int (nI t)), (0, .ref (a 0)), (1, .int (nI j)), (2, .int (nI d))]) hx hb dX1_around_127 hl (by decide) rfl (fun ls hl => ?_)
                refine lv_aload_n hx hb dX1_around_129 rfl (lv_at hl 4 rfl) ?_
                refine va_get (D := (dC, dI)) (ci := 1) (v := .ref (a 6)) (C := RX1) (T := TX1) (N := 8) hx hb hts hiw hown hK hP 0 rfl rfl 7 (by decide) hf_26 (fun _ h9 => h9) rfl dX1_around_130 ?_
                refine lv_iload hx hb dX1_around_133 (lv_at hl 0 rfl) ?_
                refine lv_aload_n hx hb dX1_around_135 rfl (lv_at hl 4 rfl) ?_
                refine va_get (D := (dC, dI)) (ci := 1) (v := .ref (a 6)) (C := RX1) (T := TX1) (N := 8) hx hb hts hiw hown hK hP 0 rfl rfl 7 (by decide) hf_26 (fun _ h9 => h9) rfl dX1_around_136 ?_
                refine lv_iload hx hb dX1_around_139 (lv_at hl 0 rfl) ?_
                refine ga_iald hx hb hK hP 6 0 rfl rfl (tf (k2 * 6 + i)) (v := nI (nr3 (tf (k2 * 6 + i)))) rfl (by omega) (by decide) dX1_around_141 ?_
                refine lv_iload_n hx hb dX1_around_142 rfl (lv_at hl 3 rfl) ?_
                refine lv_icmp_le (tgt := 152) hx hb dX1_around_143 (by decide) (fun h143 => ?_) (fun h143 => ?_)
                · refine lv_aload_n hx hb dX1_around_152 rfl (lv_at hl 4 rfl) ?_
                  refine va_get (D := (dC, dI)) (ci := 1) (v := .ref (a 6)) (C := RX1) (T := TX1) (N := 8) hx hb hts hiw hown hK hP 0 rfl rfl 7 (by decide) hf_26 (fun _ h9 => h9) rfl dX1_around_153 ?_
                  refine lv_iload hx hb dX1_around_156 (lv_at hl 0 rfl) ?_
                  refine ga_iald hx hb hK hP 6 0 rfl rfl (tf (k2 * 6 + i)) (v := nI (nr3 (tf (k2 * 6 + i)))) rfl (by omega) (by decide) dX1_around_158 ?_
                  refine ga_iast hx hb hK hP hD hS 6 0 rfl rfl (tf (k2 * 6 + i)) (by omega) (by decide) (upd_nI _ _ (nr3 (tf (k2 * 6 + i)))) (ws' := MW cI cZ a 0 n wv lo cf tf vs (va_up nr3 (tf (k2 * 6 + i)) (nr3 (tf (k2 * 6 + i))))) rfl dX1_around_159 (fun H locs hP hD hS => ?_)
                  refine lv_iinc (v := nI (i + 1)) (lv' := [(5, .int (nI (i + 1))), (6, .int (nI (tf (k2 * 6 + i)))), (4, .int (nI k2)), (3, .int (nI t)), (0, .ref (a 0)), (1, .int (nI j)), (2, .int (nI d))]) hx hb dX1_around_160 hl (k := 1) rfl (nI_1 i) (by decide) rfl (fun ls hl => ?_)
                  refine lv_goto (tgt := 91) hx hb dX1_around_163 (by decide) ?_
                  exact ih3 (i + 1) (by omega) _ (hW3.put ht8 hyn (by rw [if_pos ((nI_leI (by omega) (by omega)).mp h143)]) (Ex_s e)) H locs hP hD hS ls (lv_sub hl [0, 2, 3, 4, 5, 6] rfl)
                · refine lv_iload_n hx hb dX1_around_146 rfl (lv_at hl 3 rfl) ?_
                  refine lv_iconst (v := 1) hx hb dX1_around_147 (by decide) ?_
                  refine lv_iadd hx hb dX1_around_148 ?_
                  refine ga_is (y := nI (t + 1)) (nI_1 t) ?_
                  refine lv_goto (tgt := 159) hx hb dX1_around_149 (by decide) ?_
                  refine ga_iast hx hb hK hP hD hS 6 0 rfl rfl (tf (k2 * 6 + i)) (by omega) (by decide) (upd_nI _ _ (t + 1)) (ws' := MW cI cZ a 0 n wv lo cf tf vs (va_up nr3 (tf (k2 * 6 + i)) (t + 1))) rfl dX1_around_159 (fun H locs hP hD hS => ?_)
                  refine lv_iinc (v := nI (i + 1)) (lv' := [(5, .int (nI (i + 1))), (6, .int (nI (tf (k2 * 6 + i)))), (4, .int (nI k2)), (3, .int (nI t)), (0, .ref (a 0)), (1, .int (nI j)), (2, .int (nI d))]) hx hb dX1_around_160 hl (k := 1) rfl (nI_1 i) (by decide) rfl (fun ls hl => ?_)
                  refine lv_goto (tgt := 91) hx hb dX1_around_163 (by decide) ?_
                  exact ih3 (i + 1) (by omega) _ (hW3.put ht8 hyn (by rw [if_neg (fun z => h143 ((nI_leI (by omega) (by omega)).mpr z))]) (Ex_s e)) H locs hP hD hS ls (lv_sub hl [0, 2, 3, 4, 5, 6] rfl)
          exact inner (cf k2) 0 (by omega) nr2 hW2 H locs hP hD hS ls (lv_sub hl [0, 1, 2, 3, 4, 5] rfl)
      refine middle n 0 (by omega) nr1 (fun y hy => ⟨fun _ => rfl, fun q => ⟨fun z => ?_, fun _ => ?_⟩⟩) H locs hP hD hS ls (lv_sub hl [0, 1, 2, 3, 4] rfl)
      · rcases z with ⟨v, z1, -⟩ | ⟨-, v, z1, -⟩
        · exact absurd z1 (by omega)
        · exact absurd z1 (by omega)
      · have := hN.1 y hy
        omega
  have start : ∀ (k i : Nat), i + k = n → ∀ nr1 : Nat → Nat, (∀ y, y < i → nr1 y = if y = j then 0 else 100) → ∀ (H : Heap) (locs : List Loc), va_P (dC, dI) vwCl (MW cI cZ a 0 n wv lo cf tf vs nr1) H → va_D A (MW cI cZ a 0 n wv lo cf tf vs nr1) → va_S A s.heap H locs → ∀ ls : Array Slot, lv_has ls 7 [(3, .int (nI i)), (0, .ref (a 0)), (1, .int (nI j)), (2, .int (nI d))] → W p l e (headSpec wsX1_around (({ frames := 1, cells := 0, slots := 0, locals := 21 }) : Room)).room s m ([.ref (a 0), .int (nI j), .int (nI d)] : List Value).toArray below meth c H locs 0 0 (MQ below (va_Qi (fun r (nr1 : Nat → Nat) => r = nI (cntP (rch cf tf j d) n)) (fun nr1 => WQ dC dI (GT cI cZ cA) A (MW cI cZ a 0 n wv lo cf tf vs nr1)) A) ([.ref (a 0), .int (nI j), .int (nI d)] : List Value).toArray s 0 0 A) (F0 m 38 ls []) := by
    intro k
    induction k with
    | zero =>
      intro i hi nr1 h1 H locs hP hD hS ls hl
      obtain rfl : n = i := by omega
      refine lv_iload_n hx hb dX1_around_38 rfl (lv_at hl 0 rfl) ?_
      refine lv_aload_n hx hb dX1_around_39 rfl (lv_at hl 1 rfl) ?_
      refine va_get (D := (dC, dI)) (ci := 1) (v := .int (nI n)) (C := RX1) (T := TX1) (N := 8) hx hb hts hiw hown hK hP 0 rfl rfl 1 (by decide) hf_33 (fun _ h9 => h9) rfl dX1_around_40 ?_
      refine lv_icmp_ge (tgt := 69) hx hb dX1_around_43 (by decide) (fun h43 => ?_) (fun h43 => absurd (Int32.le_refl _) h43)
      refine lv_iconst (v := 0) hx hb dX1_around_69 (by decide) ?_
      refine ga_is (y := nI 0) (rfl) ?_
      refine lv_istore_n (lv' := [(3, .int (nI 0)), (0, .ref (a 0)), (1, .int (nI j)), (2, .int (nI d))]) hx hb dX1_around_70 rfl hl (by decide) rfl (fun ls hl => ?_)
      refine outer d 0 (by omega) nr1 ⟨fun y hy => ?_, fun y hy => ?_, fun k _ hk => absurd hk (by omega)⟩ H locs hP hD hS ls (lv_sub hl [0, 1, 2, 3] rfl)
      · rw [h1 y hy]
        by_cases e : y = j
        · rw [if_pos e]; exact Or.inl (Nat.le_refl _)
        · rw [if_neg e]; exact Or.inr rfl
      · rw [h1 y hy]
        show _ ↔ y = j
        by_cases e : y = j
        · rw [if_pos e]; exact ⟨fun _ => e, fun _ => by omega⟩
        · rw [if_neg e]; exact ⟨fun q => absurd q (by omega), fun q => absurd q e⟩
    | succ k ih =>
      intro i hi nr1 h1 H locs hP hD hS ls hl
      refine lv_iload_n hx hb dX1_around_38 rfl (lv_at hl 0 rfl) ?_
      refine lv_aload_n hx hb dX1_around_39 rfl (lv_at hl 1 rfl) ?_
      refine va_get (D := (dC, dI)) (ci := 1) (v := .int (nI n)) (C := RX1) (T := TX1) (N := 8) hx hb hts hiw hown hK hP 0 rfl rfl 1 (by decide) hf_33 (fun _ h9 => h9) rfl dX1_around_40 ?_
      refine lv_icmp_ge (tgt := 69) hx hb dX1_around_43 (by decide) (fun h43 => absurd h43 (nI_ge (by omega) (by omega))) (fun h43 => ?_)
      refine lv_aload_n hx hb dX1_around_46 rfl (lv_at hl 1 rfl) ?_
      refine va_get (D := (dC, dI)) (ci := 1) (v := .ref (a 6)) (C := RX1) (T := TX1) (N := 8) hx hb hts hiw hown hK hP 0 rfl rfl 7 (by decide) hf_26 (fun _ h9 => h9) rfl dX1_around_47 ?_
      refine lv_iload_n hx hb dX1_around_50 rfl (lv_at hl 0 rfl) ?_
      refine lv_iload_n hx hb dX1_around_51 rfl (lv_at hl 0 rfl) ?_
      refine lv_iload_n hx hb dX1_around_52 rfl (lv_at hl 2 rfl) ?_
      refine lv_icmp_ne (tgt := 60) hx hb dX1_around_53 (by decide) (fun h53 => ?_) (fun h53 => ?_)
      · refine lv_bipush (v := 100) hx hb dX1_around_60 (by decide) ?_
        refine ga_is (y := nI 100) (rfl) ?_
        refine ga_iast hx hb hK hP hD hS 6 0 rfl rfl i (by omega) (by decide) (upd_nI _ _ 100) (ws' := MW cI cZ a 0 n wv lo cf tf vs (va_up nr1 i 100)) rfl dX1_around_62 (fun H locs hP hD hS => ?_)
        refine lv_iinc (v := nI (i + 1)) (lv' := [(3, .int (nI (i + 1))), (0, .ref (a 0)), (1, .int (nI j)), (2, .int (nI d))]) hx hb dX1_around_63 hl (k := 0) rfl (nI_1 i) (by decide) rfl (fun ls hl => ?_)
        refine lv_goto (tgt := 38) hx hb dX1_around_66 (by decide) ?_
        refine ih (i + 1) (by omega) _ (fun y hy => ?_) H locs hP hD hS ls (lv_sub hl [0, 1, 2, 3] rfl)
        by_cases e : y = i
        · rw [e, va_up_self, if_neg (fun z => h53 (by rw [z]))]
        · rw [va_up_ne _ _ e]; exact h1 y (by omega)
      · refine lv_iconst (v := 0) hx hb dX1_around_56 (by decide) ?_
        refine lv_goto (tgt := 62) hx hb dX1_around_57 (by decide) ?_
        refine ga_is (y := nI 0) (rfl) ?_
        refine ga_iast hx hb hK hP hD hS 6 0 rfl rfl i (by omega) (by decide) (upd_nI _ _ 0) (ws' := MW cI cZ a 0 n wv lo cf tf vs (va_up nr1 i 0)) rfl dX1_around_62 (fun H locs hP hD hS => ?_)
        refine lv_iinc (v := nI (i + 1)) (lv' := [(3, .int (nI (i + 1))), (0, .ref (a 0)), (1, .int (nI j)), (2, .int (nI d))]) hx hb dX1_around_63 hl (k := 0) rfl (nI_1 i) (by decide) rfl (fun ls hl => ?_)
        refine lv_goto (tgt := 38) hx hb dX1_around_66 (by decide) ?_
        refine ih (i + 1) (by omega) _ (fun y hy => ?_) H locs hP hD hS ls (lv_sub hl [0, 1, 2, 3] rfl)
        by_cases e : y = i
        · rw [e, va_up_self, if_pos ((nI_eq (by omega) (by omega)).mp h53)]
        · rw [va_up_ne _ _ e]; exact h1 y (by omega)
  exact start n 0 (by omega) nr (fun y hy => absurd hy (by omega)) H locs hP hD hS ls (lv_sub hl [0, 1, 2, 3] rfl)
end
section
/-- what a throw needs of the state: Throwable's two statics, the tables' words on the exceptions, the five texts -/
def EX (sa : Nat → Nat) (A : Nat → Prop) (U : State) (H : Heap) : Prop :=
  (vx_Zq Bundle.tN "UNASSIGNED_STACK" Bundle.steD A U H ∧ vx_Zq Bundle.tN "SUPPRESSED_SENTINEL" Bundle.listD A U H) ∧
  (va_Nw (.castable "java/lang/IllegalArgumentException" "java/lang/IllegalArgumentException") U ∧ va_Nw (.castable "java/lang/IllegalStateException" "java/lang/IllegalStateException") U ∧ va_Nc "java/lang/IllegalStateException" "java/lang/IllegalArgumentException" U) ∧
  (va_Nw (.declares ⟨"java/lang/RuntimeException", "<init>", "(Ljava/lang/String;)V"⟩) U ∧ va_Nw (.declares ⟨"java/lang/Exception", "<init>", "(Ljava/lang/String;)V"⟩) U ∧ va_Nw (.declares ⟨"java/lang/Throwable", "<init>", "(Ljava/lang/String;)V"⟩) U) ∧
  (vk_R RX0 53 "the worth is not -500 .. 500" (sa 0) U ∧ vk_R RX0 60 "there are 400 nodes" (sa 1) U ∧ vk_R RX0 69 "there are no such nodes" (sa 2) U ∧ vk_R RX0 71 "the node has 6 moves" (sa 3) U ∧ vk_R RX0 104 "there is no such node, or the depth is not 0 .. 7" (sa 4) U)
theorem EX.warm {sa : Nat → Nat} {A : Nat → Prop} {s U : State} {H : Heap} (hW : s.WarmedH U.vm) (h : EX sa A s H) : EX sa A U H := by
  obtain ⟨⟨a1, a2⟩, ⟨b1, b2, b3⟩, ⟨c1, c2, c3⟩, d1, d2, d3, d4, d5⟩ := h
  exact ⟨⟨vx_Zq.moved hW.alike a1, vx_Zq.moved hW.alike a2⟩, ⟨va_Nw.warmC hW b1, va_Nw.warmC hW b2, va_Nc.moved hW.alike b3⟩, ⟨va_Nw.warmD hW c1, va_Nw.warmD hW c2, va_Nw.warmD hW c3⟩, d1.warm hW, d2.warm hW, d3.warm hW, d4.warm hW, d5.warm hW⟩
theorem EX.kept {sa : Nat → Nat} {A : Nat → Prop} {s : State} {H H1 : Heap} (h : EX sa A s H) (hq : ∀ a : Nat, a < H.size → ¬ A a → H1[a]? = H[a]?) : EX sa A s H1 := by
  obtain ⟨⟨a1, a2⟩, hb⟩ := h
  exact ⟨⟨a1.kept hq, a2.kept hq⟩, hb⟩
theorem EX.narrow {sa : Nat → Nat} {A B : Nat → Prop} {s : State} {H : Heap} (h : EX sa A s H) (hAB : ∀ q, B q → A q) : EX sa B s H := by
  obtain ⟨⟨a1, a2⟩, hb⟩ := h
  exact ⟨⟨a1.narrow hAB, a2.narrow hAB⟩, hb⟩
abbrev TP (dC : Nat → ClassId) (dI : Nat → Nat → Nat) (tys : List (ClassId × FieldType)) (ws : va_W) (sz : Nat) (sa : Nat → Nat) : State → Prop := fun U => U.heap.size = sz ∧ (va_P (dC, dI) vwCl ws U.heap ∧ va_K (dC, dI) vwCl tys U) ∧ EX sa (fun _ => False) U U.heap
abbrev TXc (E0 : String) (sz : Nat) : String → State → State → Prop := vx_X (fun _ : Unit => True) (fun E _ _ => E = E0) (fun q => sz ≤ q)
abbrev TQi (sz : Nat) : Array Value → State → Outcome → State → Prop := va_Qi (fun (_ : Int32) (_ : Unit) => False) (fun _ _ => True) (fun q => sz ≤ q)
abbrev TQv (sz : Nat) : Array Value → State → Outcome → State → Prop := va_Qv (fun (_ : Unit) => False) (fun _ _ => True) (fun q => sz ≤ q)
theorem blindTP {dC : Nat → ClassId} {dI : Nat → Nat → Nat} {tys : List (ClassId × FieldType)} {ws : va_W} {sz : Nat} {sa : Nat → Nat} {av : List Value} : FrameBlind (va_Pc av (TP dC dI tys ws sz sa)) := fun a U g mk q => by
  obtain ⟨q0, q1, ⟨qP, qK⟩, qE⟩ := q
  exact ⟨q0, q1, ⟨qP, va_K.moved (u := U) (U := U.calling g mk a) (Vm.Alike.refl U.vm) qK⟩, EX.warm (U := U.calling g mk a) (State.WarmedH.refl U) qE⟩
theorem preTP {dC : Nat → ClassId} {dI : Nat → Nat → Nat} {tys : List (ClassId × FieldType)} {ws : va_W} {sa : Nat → Nat} {av : List Value} {s : State} {H : Heap} (hP : va_P (dC, dI) vwCl ws H) (hK : va_K (dC, dI) vwCl tys s) (hE : EX sa (fun _ => False) s H) : ∀ U : State, U.heap = H → s.WarmedH U.vm → va_Pc av (TP dC dI tys ws H.size sa) av.toArray U :=
  fun U hU hW => ⟨rfl, by rw [hU], ⟨by rw [hU]; exact hP, va_K.moved hW.alike hK⟩, by rw [hU]; exact hE.warm hW⟩
set_option maxHeartbeats 4000000 in
set_option maxRecDepth 100000 in
/-- refuseWrongQuestion throws -/
theorem tX0_refuse (l : Launch) (hl9 : l.stackTraces = false) (dC : Nat → ClassId) (dI : Nat → Nat → Nat) (cI cZ cA : ClassId) (a : Nat → Nat) (sz : Nat) (sa : Nat → Nat) (n : Nat) (am : Nat) (rf : Nat) (mk : Nat) (wv : Nat → Int32) (lo : Nat → Int32) (cf : Nat → Nat) (tf : Nat → Nat) (T : Nat → Nat → Int32) (mt : Nat → Nat) (im : Nat → Int32) (x d : Int32) (hB : Bad n x d) : vx_Met l yX0_refuseWrongQuestion wsX0_refuseWrongQuestion ({ frames := 6, cells := 1, slots := 6, locals := 82 }) (va_Pc [.ref (a 0), .int x, .int d] (TP dC dI (GT cI cZ cA) (XW cI cZ cA a n am rf mk wv lo cf tf T mt im) sz sa)) (TQv sz) (TXc "java/lang/IllegalArgumentException" sz) 1 6 (fun q => sz ≤ q) := by
  refine vx_ofW (cc := cX0_refuseWrongQuestion) (maxL := 3) (ret := none) (by decide) rfl ?_
  intro p e s m args below meth c s₁ B hml htab hv
  obtain ⟨rfl, hsz, ⟨hP, hK⟩, hE⟩ := hv
  have hx := B.exec
  have hb := B.bytes
  have hr := B.returns
  have hts := atoms_spec (ws := wsX0_refuseWrongQuestion) B.pre
  have hown : s.vm.findClass RX0 = some m.cls := findClass_of_methodNamed B.named
  have hlocks := B.notSynchronized
  subst hsz
  have hl := lv_entry ([.ref (a 0), .int x, .int d]) (n := 3) (Nat.le_of_ble_eq_true rfl)
  rw [lg_entry_eq]
  generalize (lg_sl ([.ref (a 0), .int x, .int d]) ++ List.replicate (3 - (lg_sl ([.ref (a 0), .int x, .int d])).length) Slot.unset).toArray = ls at hl ⊢
  have hl : lv_has ls 3 [(0, .ref (a 0)), (1, .int x), (2, .int d)] := hl
  refine lv_aload_n hx hb dX0_refuseWrongQuestion_0 rfl (lv_at hl 0 rfl) ?_
  refine lv_iload_n hx hb dX0_refuseWrongQuestion_1 rfl (lv_at hl 1 rfl) ?_
  refine W.callR (r := isn x n) (W.runV (As := [.int x]) (rest := []) ⟨hx, hb, hml, hown, hts⟩ (kX0_isNode l dC dI cI cZ cA a n am rf mk wv lo cf tf T mt im x) (cwV 1 hts gX0_refuseWrongQuestion_X0_isNode rfl rfl rfl (by decide +kernel) ⟨Nat.le_of_ble_eq_true rfl, Nat.le_of_ble_eq_true rfl⟩) ⟨blindR, va_recv hK hP (ci := 0) (q0 := 0) rfl rfl, preR hP hK⟩ rfl rfl hl.1 rfl (lv_room (Nat.le_of_ble_eq_true rfl)) dX0_refuseWrongQuestion_2 ⟨Nat.zero_le _, Nat.zero_le _⟩) ?_
  refine W.eq (g2 := F0 m 5 ls [.int (isn x n)]) rfl ?_
  refine lv_if_eq (tgt := 18) hx hb dX0_refuseWrongQuestion_5 (by decide) (fun h5 => ?_) (fun h5 => ?_)
  · exact vx_throwS hx hb hl9 (own := RX0) (cls := "java/lang/IllegalArgumentException") (text := "there is no such node, or the depth is not 0 .. 7") (names := ["java/lang/RuntimeException", "java/lang/Exception"]) (ik := 51) (is := 104) (ic := 55) (sa := sa 4) (A := fun _ => False) hown (by decide) (by decide) (hts (.classLink RX0 51 "java/lang/IllegalArgumentException") (by decide +kernel)) (hts (.initialized "java/lang/IllegalArgumentException") (by decide +kernel)) (hE.2.2.2.2.2.2.2) (vx_hat (L := vx_atS RX0 55 "java/lang/IllegalArgumentException" ["java/lang/RuntimeException", "java/lang/Exception"]) (B := [.castable "java/lang/IllegalArgumentException" "java/lang/IllegalArgumentException", .declares ⟨"java/lang/RuntimeException", "<init>", "(Ljava/lang/String;)V"⟩, .declares ⟨"java/lang/Exception", "<init>", "(Ljava/lang/String;)V"⟩, .declares ⟨"java/lang/Throwable", "<init>", "(Ljava/lang/String;)V"⟩]) (fun w hw => hts w ((by decide +kernel : ∀ w ∈ (vx_atS RX0 55 "java/lang/IllegalArgumentException" ["java/lang/RuntimeException", "java/lang/Exception"]).filter goodWord, w ∈ wsX0_refuseWrongQuestion) w hw)) (by decide +kernel) (vx_c (va_Nw.use rfl hE.2.1.1) (vx_c (va_Nw.use rfl hE.2.2.1.1) (vx_c (va_Nw.use rfl hE.2.2.1.2.1) (vx_c (va_Nw.use rfl hE.2.2.1.2.2) vx_n))))) (by decide +kernel) hE.1.1 hE.1.2 va_S.rf (hl.1.trans hml.symm) dX0_refuseWrongQuestion_18 dX0_refuseWrongQuestion_21 dX0_refuseWrongQuestion_22 dX0_refuseWrongQuestion_24 dX0_refuseWrongQuestion_27 (fun x hx => (htab x hx).elim) (Nat.le_of_ble_eq_true rfl) (Nat.le_of_ble_eq_true rfl) (Nat.le_of_ble_eq_true rfl) (Nat.le_of_ble_eq_true rfl) hlocks (fun t hA h1 h2 => ⟨(), trivial, rfl, h1, fun q hq _ => h2 q hq⟩) (fun _ h => nomatch h) (Nat.le_of_ble_eq_true rfl) (Nat.le_of_ble_eq_true rfl)
  · refine lv_iload_n hx hb dX0_refuseWrongQuestion_8 rfl (lv_at hl 2 rfl) ?_
    refine lv_if_lt (tgt := 18) hx hb dX0_refuseWrongQuestion_9 (by decide) (fun h9 => ?_) (fun h9 => ?_)
    · exact vx_throwS hx hb hl9 (own := RX0) (cls := "java/lang/IllegalArgumentException") (text := "there is no such node, or the depth is not 0 .. 7") (names := ["java/lang/RuntimeException", "java/lang/Exception"]) (ik := 51) (is := 104) (ic := 55) (sa := sa 4) (A := fun _ => False) hown (by decide) (by decide) (hts (.classLink RX0 51 "java/lang/IllegalArgumentException") (by decide +kernel)) (hts (.initialized "java/lang/IllegalArgumentException") (by decide +kernel)) (hE.2.2.2.2.2.2.2) (vx_hat (L := vx_atS RX0 55 "java/lang/IllegalArgumentException" ["java/lang/RuntimeException", "java/lang/Exception"]) (B := [.castable "java/lang/IllegalArgumentException" "java/lang/IllegalArgumentException", .declares ⟨"java/lang/RuntimeException", "<init>", "(Ljava/lang/String;)V"⟩, .declares ⟨"java/lang/Exception", "<init>", "(Ljava/lang/String;)V"⟩, .declares ⟨"java/lang/Throwable", "<init>", "(Ljava/lang/String;)V"⟩]) (fun w hw => hts w ((by decide +kernel : ∀ w ∈ (vx_atS RX0 55 "java/lang/IllegalArgumentException" ["java/lang/RuntimeException", "java/lang/Exception"]).filter goodWord, w ∈ wsX0_refuseWrongQuestion) w hw)) (by decide +kernel) (vx_c (va_Nw.use rfl hE.2.1.1) (vx_c (va_Nw.use rfl hE.2.2.1.1) (vx_c (va_Nw.use rfl hE.2.2.1.2.1) (vx_c (va_Nw.use rfl hE.2.2.1.2.2) vx_n))))) (by decide +kernel) hE.1.1 hE.1.2 va_S.rf (hl.1.trans hml.symm) dX0_refuseWrongQuestion_18 dX0_refuseWrongQuestion_21 dX0_refuseWrongQuestion_22 dX0_refuseWrongQuestion_24 dX0_refuseWrongQuestion_27 (fun x hx => (htab x hx).elim) (Nat.le_of_ble_eq_true rfl) (Nat.le_of_ble_eq_true rfl) (Nat.le_of_ble_eq_true rfl) (Nat.le_of_ble_eq_true rfl) hlocks (fun t hA h1 h2 => ⟨(), trivial, rfl, h1, fun q hq _ => h2 q hq⟩) (fun _ h => nomatch h) (Nat.le_of_ble_eq_true rfl) (Nat.le_of_ble_eq_true rfl)
    · refine lv_iload_n hx hb dX0_refuseWrongQuestion_12 rfl (lv_at hl 2 rfl) ?_
      refine lv_bipush (v := 7) hx hb dX0_refuseWrongQuestion_13 (by decide) ?_
      refine lv_icmp_le (tgt := 28) hx hb dX0_refuseWrongQuestion_15 (by decide) (fun h15 => absurd h15 (fun q => by have z := (hB.resolve_left h5).resolve_left h9; rw [Int32.lt_iff_toInt_lt] at z; rw [Int32.le_iff_toInt_le] at q; omega)) (fun h15 => ?_)
      exact vx_throwS hx hb hl9 (own := RX0) (cls := "java/lang/IllegalArgumentException") (text := "there is no such node, or the depth is not 0 .. 7") (names := ["java/lang/RuntimeException", "java/lang/Exception"]) (ik := 51) (is := 104) (ic := 55) (sa := sa 4) (A := fun _ => False) hown (by decide) (by decide) (hts (.classLink RX0 51 "java/lang/IllegalArgumentException") (by decide +kernel)) (hts (.initialized "java/lang/IllegalArgumentException") (by decide +kernel)) (hE.2.2.2.2.2.2.2) (vx_hat (L := vx_atS RX0 55 "java/lang/IllegalArgumentException" ["java/lang/RuntimeException", "java/lang/Exception"]) (B := [.castable "java/lang/IllegalArgumentException" "java/lang/IllegalArgumentException", .declares ⟨"java/lang/RuntimeException", "<init>", "(Ljava/lang/String;)V"⟩, .declares ⟨"java/lang/Exception", "<init>", "(Ljava/lang/String;)V"⟩, .declares ⟨"java/lang/Throwable", "<init>", "(Ljava/lang/String;)V"⟩]) (fun w hw => hts w ((by decide +kernel : ∀ w ∈ (vx_atS RX0 55 "java/lang/IllegalArgumentException" ["java/lang/RuntimeException", "java/lang/Exception"]).filter goodWord, w ∈ wsX0_refuseWrongQuestion) w hw)) (by decide +kernel) (vx_c (va_Nw.use rfl hE.2.1.1) (vx_c (va_Nw.use rfl hE.2.2.1.1) (vx_c (va_Nw.use rfl hE.2.2.1.2.1) (vx_c (va_Nw.use rfl hE.2.2.1.2.2) vx_n))))) (by decide +kernel) hE.1.1 hE.1.2 va_S.rf (hl.1.trans hml.symm) dX0_refuseWrongQuestion_18 dX0_refuseWrongQuestion_21 dX0_refuseWrongQuestion_22 dX0_refuseWrongQuestion_24 dX0_refuseWrongQuestion_27 (fun x hx => (htab x hx).elim) (Nat.le_of_ble_eq_true rfl) (Nat.le_of_ble_eq_true rfl) (Nat.le_of_ble_eq_true rfl) (Nat.le_of_ble_eq_true rfl) hlocks (fun t hA h1 h2 => ⟨(), trivial, rfl, h1, fun q hq _ => h2 q hq⟩) (fun _ h => nomatch h) (Nat.le_of_ble_eq_true rfl) (Nat.le_of_ble_eq_true rfl)
set_option maxHeartbeats 4000000 in
set_option maxRecDepth 100000 in
/-- node throws -/
theorem tX0_node_w (l : Launch) (hl9 : l.stackTraces = false) (dC : Nat → ClassId) (dI : Nat → Nat → Nat) (cI cZ cA : ClassId) (a : Nat → Nat) (sz : Nat) (sa : Nat → Nat) (n : Nat) (am : Nat) (rf : Nat) (mk : Nat) (wv : Nat → Int32) (lo : Nat → Int32) (cf : Nat → Nat) (tf : Nat → Nat) (T : Nat → Nat → Int32) (mt : Nat → Nat) (im : Nat → Int32) (v b : Int32) (hv : iw v = 0) : vx_Met l yX0_node wsX0_node ({ frames := 6, cells := 1, slots := 6, locals := 82 }) (va_Pc [.ref (a 0), .int v, .int b] (TP dC dI (GT cI cZ cA) (XW cI cZ cA a n am rf mk wv lo cf tf T mt im) sz sa)) (TQi sz) (TXc "java/lang/IllegalArgumentException" sz) 1 6 (fun q => sz ≤ q) := by
  refine vx_ofW (cc := cX0_node) (maxL := 4) (ret := (some .int)) (by decide) rfl ?_
  intro p e s m args below meth c s₁ B hml htab hv
  obtain ⟨rfl, hsz, ⟨hP, hK⟩, hE⟩ := hv
  have hx := B.exec
  have hb := B.bytes
  have hr := B.returns
  have hts := atoms_spec (ws := wsX0_node) B.pre
  have hown : s.vm.findClass RX0 = some m.cls := findClass_of_methodNamed B.named
  have hlocks := B.notSynchronized
  subst hsz
  have hf_23 := hts (.fieldLink RX0 23 "GraphSearch" "nodeCount" "I") (by decide +kernel)
  have hf_9 := hts (.fieldLink RX0 9 "GraphSearch" "worths" "[I") (by decide +kernel)
  have hf_13 := hts (.fieldLink RX0 13 "GraphSearch" "losts" "[Z") (by decide +kernel)
  have hiw : ∀ w ∈ wsX00, w ∈ wsX0_node := by decide +kernel
  have hl := lv_entry ([.ref (a 0), .int v, .int b]) (n := 4) (Nat.le_of_ble_eq_true rfl)
  rw [lg_entry_eq]
  generalize (lg_sl ([.ref (a 0), .int v, .int b]) ++ List.replicate (4 - (lg_sl ([.ref (a 0), .int v, .int b])).length) Slot.unset).toArray = ls at hl ⊢
  have hl : lv_has ls 4 [(0, .ref (a 0)), (1, .int v), (2, .int b)] := hl
  refine lv_iload_n hx hb dX0_node_0 rfl (lv_at hl 1 rfl) ?_
  refine W.callR (r := iw v) (W.runS (As := [.int v]) (rest := []) ⟨hx, hb, hml, hown, hts⟩ (kX0_isWorth l v) (va_cwS 1 hts gX0_node_X0_isWorth rfl rfl rfl (by decide +kernel) ⟨Nat.le_of_ble_eq_true rfl, Nat.le_of_ble_eq_true rfl⟩) ⟨blindT, fun _ _ _ => ⟨rfl, trivial⟩⟩ rfl rfl hl.1 rfl (lv_room (Nat.le_of_ble_eq_true rfl)) dX0_node_1 ⟨Nat.zero_le _, Nat.zero_le _⟩) ?_
  refine W.eq (g2 := F0 m 4 ls [.int (iw v)]) rfl ?_
  refine lv_if_ne (tgt := 17) hx hb dX0_node_4 (by decide) (fun h4 => absurd hv h4) (fun h4 => ?_)
  exact vx_throwS hx hb hl9 (own := RX0) (cls := "java/lang/IllegalArgumentException") (text := "the worth is not -500 .. 500") (names := ["java/lang/RuntimeException", "java/lang/Exception"]) (ik := 51) (is := 53) (ic := 55) (sa := sa 0) (A := fun _ => False) hown (by decide) (by decide) (hts (.classLink RX0 51 "java/lang/IllegalArgumentException") (by decide +kernel)) (hts (.initialized "java/lang/IllegalArgumentException") (by decide +kernel)) (hE.2.2.2.1) (vx_hat (L := vx_atS RX0 55 "java/lang/IllegalArgumentException" ["java/lang/RuntimeException", "java/lang/Exception"]) (B := [.castable "java/lang/IllegalArgumentException" "java/lang/IllegalArgumentException", .declares ⟨"java/lang/RuntimeException", "<init>", "(Ljava/lang/String;)V"⟩, .declares ⟨"java/lang/Exception", "<init>", "(Ljava/lang/String;)V"⟩, .declares ⟨"java/lang/Throwable", "<init>", "(Ljava/lang/String;)V"⟩]) (fun w hw => hts w ((by decide +kernel : ∀ w ∈ (vx_atS RX0 55 "java/lang/IllegalArgumentException" ["java/lang/RuntimeException", "java/lang/Exception"]).filter goodWord, w ∈ wsX0_node) w hw)) (by decide +kernel) (vx_c (va_Nw.use rfl hE.2.1.1) (vx_c (va_Nw.use rfl hE.2.2.1.1) (vx_c (va_Nw.use rfl hE.2.2.1.2.1) (vx_c (va_Nw.use rfl hE.2.2.1.2.2) vx_n))))) (by decide +kernel) hE.1.1 hE.1.2 va_S.rf (hl.1.trans hml.symm) dX0_node_7 dX0_node_10 dX0_node_11 dX0_node_13 dX0_node_16 (fun x hx => (htab x hx).elim) (Nat.le_of_ble_eq_true rfl) (Nat.le_of_ble_eq_true rfl) (Nat.le_of_ble_eq_true rfl) (Nat.le_of_ble_eq_true rfl) hlocks (fun t hA h1 h2 => ⟨(), trivial, rfl, h1, fun q hq _ => h2 q hq⟩) (fun _ h => nomatch h) (Nat.le_of_ble_eq_true rfl) (Nat.le_of_ble_eq_true rfl)
set_option maxHeartbeats 4000000 in
set_option maxRecDepth 100000 in
/-- node throws -/
theorem tX0_node_f (l : Launch) (hl9 : l.stackTraces = false) (dC : Nat → ClassId) (dI : Nat → Nat → Nat) (cI cZ cA : ClassId) (a : Nat → Nat) (sz : Nat) (sa : Nat → Nat) (n : Nat) (am : Nat) (rf : Nat) (mk : Nat) (wv : Nat → Int32) (lo : Nat → Int32) (cf : Nat → Nat) (tf : Nat → Nat) (T : Nat → Nat → Int32) (mt : Nat → Nat) (im : Nat → Int32) (v b : Int32) (hv : iw v = 1) (hn : n = 400) : vx_Met l yX0_node wsX0_node ({ frames := 6, cells := 1, slots := 6, locals := 82 }) (va_Pc [.ref (a 0), .int v, .int b] (TP dC dI (GT cI cZ cA) (XW cI cZ cA a n am rf mk wv lo cf tf T mt im) sz sa)) (TQi sz) (TXc "java/lang/IllegalStateException" sz) 1 6 (fun q => sz ≤ q) := by
  refine vx_ofW (cc := cX0_node) (maxL := 4) (ret := (some .int)) (by decide) rfl ?_
  intro p e s m args below meth c s₁ B hml htab hv
  obtain ⟨rfl, hsz, ⟨hP, hK⟩, hE⟩ := hv
  have hx := B.exec
  have hb := B.bytes
  have hr := B.returns
  have hts := atoms_spec (ws := wsX0_node) B.pre
  have hown : s.vm.findClass RX0 = some m.cls := findClass_of_methodNamed B.named
  have hlocks := B.notSynchronized
  subst hsz
  have hf_23 := hts (.fieldLink RX0 23 "GraphSearch" "nodeCount" "I") (by decide +kernel)
  have hf_9 := hts (.fieldLink RX0 9 "GraphSearch" "worths" "[I") (by decide +kernel)
  have hf_13 := hts (.fieldLink RX0 13 "GraphSearch" "losts" "[Z") (by decide +kernel)
  have hiw : ∀ w ∈ wsX00, w ∈ wsX0_node := by decide +kernel
  have hl := lv_entry ([.ref (a 0), .int v, .int b]) (n := 4) (Nat.le_of_ble_eq_true rfl)
  rw [lg_entry_eq]
  generalize (lg_sl ([.ref (a 0), .int v, .int b]) ++ List.replicate (4 - (lg_sl ([.ref (a 0), .int v, .int b])).length) Slot.unset).toArray = ls at hl ⊢
  have hl : lv_has ls 4 [(0, .ref (a 0)), (1, .int v), (2, .int b)] := hl
  refine lv_iload_n hx hb dX0_node_0 rfl (lv_at hl 1 rfl) ?_
  refine W.callR (r := iw v) (W.runS (As := [.int v]) (rest := []) ⟨hx, hb, hml, hown, hts⟩ (kX0_isWorth l v) (va_cwS 1 hts gX0_node_X0_isWorth rfl rfl rfl (by decide +kernel) ⟨Nat.le_of_ble_eq_true rfl, Nat.le_of_ble_eq_true rfl⟩) ⟨blindT, fun _ _ _ => ⟨rfl, trivial⟩⟩ rfl rfl hl.1 rfl (lv_room (Nat.le_of_ble_eq_true rfl)) dX0_node_1 ⟨Nat.zero_le _, Nat.zero_le _⟩) ?_
  refine W.eq (g2 := F0 m 4 ls [.int (iw v)]) rfl ?_
  refine lv_if_ne (tgt := 17) hx hb dX0_node_4 (by decide) (fun h4 => ?_) (fun h4 => absurd h4 (by rw [hv]; decide))
  refine lv_aload_n hx hb dX0_node_17 rfl (lv_at hl 0 rfl) ?_
  refine va_get (D := (dC, dI)) (ci := 0) (v := .int (nI n)) (C := RX0) (T := TX0) (N := 11) hx hb hts hiw hown hK hP 0 rfl rfl 4 (by decide) hf_23 (fun _ h9 => h9) rfl dX0_node_18 ?_
  refine lv_sipush (v := 400) hx hb dX0_node_21 (by decide) ?_
  refine lv_icmp_lt (tgt := 37) hx hb dX0_node_24 (by decide) (fun h24 => absurd h24 (by rw [hn]; decide)) (fun h24 => ?_)
  exact vx_throwS hx hb hl9 (own := RX0) (cls := "java/lang/IllegalStateException") (text := "there are 400 nodes") (names := ["java/lang/RuntimeException", "java/lang/Exception"]) (ik := 58) (is := 60) (ic := 62) (sa := sa 1) (A := fun _ => False) hown (by decide) (by decide) (hts (.classLink RX0 58 "java/lang/IllegalStateException") (by decide +kernel)) (hts (.initialized "java/lang/IllegalStateException") (by decide +kernel)) (hE.2.2.2.2.1) (vx_hat (L := vx_atS RX0 62 "java/lang/IllegalStateException" ["java/lang/RuntimeException", "java/lang/Exception"]) (B := [.castable "java/lang/IllegalStateException" "java/lang/IllegalStateException", .declares ⟨"java/lang/RuntimeException", "<init>", "(Ljava/lang/String;)V"⟩, .declares ⟨"java/lang/Exception", "<init>", "(Ljava/lang/String;)V"⟩, .declares ⟨"java/lang/Throwable", "<init>", "(Ljava/lang/String;)V"⟩]) (fun w hw => hts w ((by decide +kernel : ∀ w ∈ (vx_atS RX0 62 "java/lang/IllegalStateException" ["java/lang/RuntimeException", "java/lang/Exception"]).filter goodWord, w ∈ wsX0_node) w hw)) (by decide +kernel) (vx_c (va_Nw.use rfl hE.2.1.2.1) (vx_c (va_Nw.use rfl hE.2.2.1.1) (vx_c (va_Nw.use rfl hE.2.2.1.2.1) (vx_c (va_Nw.use rfl hE.2.2.1.2.2) vx_n))))) (by decide +kernel) hE.1.1 hE.1.2 va_S.rf (hl.1.trans hml.symm) dX0_node_27 dX0_node_30 dX0_node_31 dX0_node_33 dX0_node_36 (fun x hx => (htab x hx).elim) (Nat.le_of_ble_eq_true rfl) (Nat.le_of_ble_eq_true rfl) (Nat.le_of_ble_eq_true rfl) (Nat.le_of_ble_eq_true rfl) hlocks (fun t hA h1 h2 => ⟨(), trivial, rfl, h1, fun q hq _ => h2 q hq⟩) (fun _ h => nomatch h) (Nat.le_of_ble_eq_true rfl) (Nat.le_of_ble_eq_true rfl)
set_option maxHeartbeats 4000000 in
set_option maxRecDepth 100000 in
/-- move throws -/
theorem tX0_move_n (l : Launch) (hl9 : l.stackTraces = false) (dC : Nat → ClassId) (dI : Nat → Nat → Nat) (cI cZ cA : ClassId) (a : Nat → Nat) (sz : Nat) (sa : Nat → Nat) (n : Nat) (am : Nat) (rf : Nat) (mk : Nat) (wv : Nat → Int32) (lo : Nat → Int32) (cf : Nat → Nat) (tf : Nat → Nat) (T : Nat → Nat → Int32) (mt : Nat → Nat) (im : Nat → Int32) (x y : Int32) (hno : isn x n = 0 ∨ isn y n = 0) : vx_Met l yX0_move wsX0_move ({ frames := 6, cells := 1, slots := 6, locals := 82 }) (va_Pc [.ref (a 0), .int x, .int y] (TP dC dI (GT cI cZ cA) (XW cI cZ cA a n am rf mk wv lo cf tf T mt im) sz sa)) (TQi sz) (TXc "java/lang/IllegalArgumentException" sz) 1 6 (fun q => sz ≤ q) := by
  refine vx_ofW (cc := cX0_move) (maxL := 4) (ret := (some .int)) (by decide) rfl ?_
  intro p e s m args below meth c s₁ B hml htab hv
  obtain ⟨rfl, hsz, ⟨hP, hK⟩, hE⟩ := hv
  have hx := B.exec
  have hb := B.bytes
  have hr := B.returns
  have hts := atoms_spec (ws := wsX0_move) B.pre
  have hown : s.vm.findClass RX0 = some m.cls := findClass_of_methodNamed B.named
  have hlocks := B.notSynchronized
  subst hsz
  have hf_17 := hts (.fieldLink RX0 17 "GraphSearch" "moveCounts" "[I") (by decide +kernel)
  have hf_20 := hts (.fieldLink RX0 20 "GraphSearch" "targets" "[I") (by decide +kernel)
  have hf_27 := hts (.fieldLink RX0 27 "GraphSearch" "allMoves" "I") (by decide +kernel)
  have hiw : ∀ w ∈ wsX00, w ∈ wsX0_move := by decide +kernel
  have hl := lv_entry ([.ref (a 0), .int x, .int y]) (n := 4) (Nat.le_of_ble_eq_true rfl)
  rw [lg_entry_eq]
  generalize (lg_sl ([.ref (a 0), .int x, .int y]) ++ List.replicate (4 - (lg_sl ([.ref (a 0), .int x, .int y])).length) Slot.unset).toArray = ls at hl ⊢
  have hl : lv_has ls 4 [(0, .ref (a 0)), (1, .int x), (2, .int y)] := hl
  refine lv_aload_n hx hb dX0_move_0 rfl (lv_at hl 0 rfl) ?_
  refine lv_iload_n hx hb dX0_move_1 rfl (lv_at hl 1 rfl) ?_
  refine W.callR (r := isn x n) (W.runV (As := [.int x]) (rest := []) ⟨hx, hb, hml, hown, hts⟩ (kX0_isNode l dC dI cI cZ cA a n am rf mk wv lo cf tf T mt im x) (cwV 1 hts gX0_move_X0_isNode rfl rfl rfl (by decide +kernel) ⟨Nat.le_of_ble_eq_true rfl, Nat.le_of_ble_eq_true rfl⟩) ⟨blindR, va_recv hK hP (ci := 0) (q0 := 0) rfl rfl, preR hP hK⟩ rfl rfl hl.1 rfl (lv_room (Nat.le_of_ble_eq_true rfl)) dX0_move_2 ⟨Nat.zero_le _, Nat.zero_le _⟩) ?_
  refine W.eq (g2 := F0 m 5 ls [.int (isn x n)]) rfl ?_
  refine lv_if_eq (tgt := 16) hx hb dX0_move_5 (by decide) (fun h5 => ?_) (fun h5 => ?_)
  · exact vx_throwS hx hb hl9 (own := RX0) (cls := "java/lang/IllegalArgumentException") (text := "there are no such nodes") (names := ["java/lang/RuntimeException", "java/lang/Exception"]) (ik := 51) (is := 69) (ic := 55) (sa := sa 2) (A := fun _ => False) hown (by decide) (by decide) (hts (.classLink RX0 51 "java/lang/IllegalArgumentException") (by decide +kernel)) (hts (.initialized "java/lang/IllegalArgumentException") (by decide +kernel)) (hE.2.2.2.2.2.1) (vx_hat (L := vx_atS RX0 55 "java/lang/IllegalArgumentException" ["java/lang/RuntimeException", "java/lang/Exception"]) (B := [.castable "java/lang/IllegalArgumentException" "java/lang/IllegalArgumentException", .declares ⟨"java/lang/RuntimeException", "<init>", "(Ljava/lang/String;)V"⟩, .declares ⟨"java/lang/Exception", "<init>", "(Ljava/lang/String;)V"⟩, .declares ⟨"java/lang/Throwable", "<init>", "(Ljava/lang/String;)V"⟩]) (fun w hw => hts w ((by decide +kernel : ∀ w ∈ (vx_atS RX0 55 "java/lang/IllegalArgumentException" ["java/lang/RuntimeException", "java/lang/Exception"]).filter goodWord, w ∈ wsX0_move) w hw)) (by decide +kernel) (vx_c (va_Nw.use rfl hE.2.1.1) (vx_c (va_Nw.use rfl hE.2.2.1.1) (vx_c (va_Nw.use rfl hE.2.2.1.2.1) (vx_c (va_Nw.use rfl hE.2.2.1.2.2) vx_n))))) (by decide +kernel) hE.1.1 hE.1.2 va_S.rf (hl.1.trans hml.symm) dX0_move_16 dX0_move_19 dX0_move_20 dX0_move_22 dX0_move_25 (fun x hx => (htab x hx).elim) (Nat.le_of_ble_eq_true rfl) (Nat.le_of_ble_eq_true rfl) (Nat.le_of_ble_eq_true rfl) (Nat.le_of_ble_eq_true rfl) hlocks (fun t hA h1 h2 => ⟨(), trivial, rfl, h1, fun q hq _ => h2 q hq⟩) (fun _ h => nomatch h) (Nat.le_of_ble_eq_true rfl) (Nat.le_of_ble_eq_true rfl)
  · refine lv_aload_n hx hb dX0_move_8 rfl (lv_at hl 0 rfl) ?_
    refine lv_iload_n hx hb dX0_move_9 rfl (lv_at hl 2 rfl) ?_
    refine W.callR (r := isn y n) (W.runV (As := [.int y]) (rest := []) ⟨hx, hb, hml, hown, hts⟩ (kX0_isNode l dC dI cI cZ cA a n am rf mk wv lo cf tf T mt im y) (cwV 1 hts gX0_move_X0_isNode rfl rfl rfl (by decide +kernel) ⟨Nat.le_of_ble_eq_true rfl, Nat.le_of_ble_eq_true rfl⟩) ⟨blindR, va_recv hK hP (ci := 0) (q0 := 0) rfl rfl, preR hP hK⟩ rfl rfl hl.1 rfl (lv_room (Nat.le_of_ble_eq_true rfl)) dX0_move_10 ⟨Nat.zero_le _, Nat.zero_le _⟩) ?_
    refine W.eq (g2 := F0 m 13 ls [.int (isn y n)]) rfl ?_
    refine lv_if_ne (tgt := 26) hx hb dX0_move_13 (by decide) (fun h13 => absurd (hno.resolve_left h5) h13) (fun h13 => ?_)
    exact vx_throwS hx hb hl9 (own := RX0) (cls := "java/lang/IllegalArgumentException") (text := "there are no such nodes") (names := ["java/lang/RuntimeException", "java/lang/Exception"]) (ik := 51) (is := 69) (ic := 55) (sa := sa 2) (A := fun _ => False) hown (by decide) (by decide) (hts (.classLink RX0 51 "java/lang/IllegalArgumentException") (by decide +kernel)) (hts (.initialized "java/lang/IllegalArgumentException") (by decide +kernel)) (hE.2.2.2.2.2.1) (vx_hat (L := vx_atS RX0 55 "java/lang/IllegalArgumentException" ["java/lang/RuntimeException", "java/lang/Exception"]) (B := [.castable "java/lang/IllegalArgumentException" "java/lang/IllegalArgumentException", .declares ⟨"java/lang/RuntimeException", "<init>", "(Ljava/lang/String;)V"⟩, .declares ⟨"java/lang/Exception", "<init>", "(Ljava/lang/String;)V"⟩, .declares ⟨"java/lang/Throwable", "<init>", "(Ljava/lang/String;)V"⟩]) (fun w hw => hts w ((by decide +kernel : ∀ w ∈ (vx_atS RX0 55 "java/lang/IllegalArgumentException" ["java/lang/RuntimeException", "java/lang/Exception"]).filter goodWord, w ∈ wsX0_move) w hw)) (by decide +kernel) (vx_c (va_Nw.use rfl hE.2.1.1) (vx_c (va_Nw.use rfl hE.2.2.1.1) (vx_c (va_Nw.use rfl hE.2.2.1.2.1) (vx_c (va_Nw.use rfl hE.2.2.1.2.2) vx_n))))) (by decide +kernel) hE.1.1 hE.1.2 va_S.rf (hl.1.trans hml.symm) dX0_move_16 dX0_move_19 dX0_move_20 dX0_move_22 dX0_move_25 (fun x hx => (htab x hx).elim) (Nat.le_of_ble_eq_true rfl) (Nat.le_of_ble_eq_true rfl) (Nat.le_of_ble_eq_true rfl) (Nat.le_of_ble_eq_true rfl) hlocks (fun t hA h1 h2 => ⟨(), trivial, rfl, h1, fun q hq _ => h2 q hq⟩) (fun _ h => nomatch h) (Nat.le_of_ble_eq_true rfl) (Nat.le_of_ble_eq_true rfl)
set_option maxHeartbeats 4000000 in
set_option maxRecDepth 100000 in
/-- move throws -/
theorem tX0_move_f (l : Launch) (hl9 : l.stackTraces = false) (dC : Nat → ClassId) (dI : Nat → Nat → Nat) (cI cZ cA : ClassId) (a : Nat → Nat) (sz : Nat) (sa : Nat → Nat) (n : Nat) (am : Nat) (rf : Nat) (mk : Nat) (wv : Nat → Int32) (lo : Nat → Int32) (cf : Nat → Nat) (tf : Nat → Nat) (T : Nat → Nat → Int32) (mt : Nat → Nat) (im : Nat → Int32) (i j : Nat) (hn4 : n ≤ 400) (hi : i < n) (hj : j < n) (hc : cf i = 6) : vx_Met l yX0_move wsX0_move ({ frames := 6, cells := 1, slots := 6, locals := 82 }) (va_Pc [.ref (a 0), .int (nI i), .int (nI j)] (TP dC dI (GT cI cZ cA) (XW cI cZ cA a n am rf mk wv lo cf tf T mt im) sz sa)) (TQi sz) (TXc "java/lang/IllegalStateException" sz) 1 6 (fun q => sz ≤ q) := by
  refine vx_ofW (cc := cX0_move) (maxL := 4) (ret := (some .int)) (by decide) rfl ?_
  intro p e s m args below meth c s₁ B hml htab hv
  obtain ⟨rfl, hsz, ⟨hP, hK⟩, hE⟩ := hv
  have hx := B.exec
  have hb := B.bytes
  have hr := B.returns
  have hts := atoms_spec (ws := wsX0_move) B.pre
  have hown : s.vm.findClass RX0 = some m.cls := findClass_of_methodNamed B.named
  have hlocks := B.notSynchronized
  subst hsz
  have hf_17 := hts (.fieldLink RX0 17 "GraphSearch" "moveCounts" "[I") (by decide +kernel)
  have hf_20 := hts (.fieldLink RX0 20 "GraphSearch" "targets" "[I") (by decide +kernel)
  have hf_27 := hts (.fieldLink RX0 27 "GraphSearch" "allMoves" "I") (by decide +kernel)
  have hiw : ∀ w ∈ wsX00, w ∈ wsX0_move := by decide +kernel
  have hl := lv_entry ([.ref (a 0), .int (nI i), .int (nI j)]) (n := 4) (Nat.le_of_ble_eq_true rfl)
  rw [lg_entry_eq]
  generalize (lg_sl ([.ref (a 0), .int (nI i), .int (nI j)]) ++ List.replicate (4 - (lg_sl ([.ref (a 0), .int (nI i), .int (nI j)])).length) Slot.unset).toArray = ls at hl ⊢
  have hl : lv_has ls 4 [(0, .ref (a 0)), (1, .int (nI i)), (2, .int (nI j))] := hl
  refine lv_aload_n hx hb dX0_move_0 rfl (lv_at hl 0 rfl) ?_
  refine lv_iload_n hx hb dX0_move_1 rfl (lv_at hl 1 rfl) ?_
  refine W.callR (r := isn (nI i) n) (W.runV (As := [.int (nI i)]) (rest := []) ⟨hx, hb, hml, hown, hts⟩ (kX0_isNode l dC dI cI cZ cA a n am rf mk wv lo cf tf T mt im (nI i)) (cwV 1 hts gX0_move_X0_isNode rfl rfl rfl (by decide +kernel) ⟨Nat.le_of_ble_eq_true rfl, Nat.le_of_ble_eq_true rfl⟩) ⟨blindR, va_recv hK hP (ci := 0) (q0 := 0) rfl rfl, preR hP hK⟩ rfl rfl hl.1 rfl (lv_room (Nat.le_of_ble_eq_true rfl)) dX0_move_2 ⟨Nat.zero_le _, Nat.zero_le _⟩) ?_
  refine W.eq (g2 := F0 m 5 ls [.int (isn (nI i) n)]) rfl ?_
  refine lv_if_eq (tgt := 16) hx hb dX0_move_5 (by decide) (fun h5 => absurd h5 (by rw [isn_1 hi (by omega)]; decide)) (fun h5 => ?_)
  refine lv_aload_n hx hb dX0_move_8 rfl (lv_at hl 0 rfl) ?_
  refine lv_iload_n hx hb dX0_move_9 rfl (lv_at hl 2 rfl) ?_
  refine W.callR (r := isn (nI j) n) (W.runV (As := [.int (nI j)]) (rest := []) ⟨hx, hb, hml, hown, hts⟩ (kX0_isNode l dC dI cI cZ cA a n am rf mk wv lo cf tf T mt im (nI j)) (cwV 1 hts gX0_move_X0_isNode rfl rfl rfl (by decide +kernel) ⟨Nat.le_of_ble_eq_true rfl, Nat.le_of_ble_eq_true rfl⟩) ⟨blindR, va_recv hK hP (ci := 0) (q0 := 0) rfl rfl, preR hP hK⟩ rfl rfl hl.1 rfl (lv_room (Nat.le_of_ble_eq_true rfl)) dX0_move_10 ⟨Nat.zero_le _, Nat.zero_le _⟩) ?_
  refine W.eq (g2 := F0 m 13 ls [.int (isn (nI j) n)]) rfl ?_
  refine lv_if_ne (tgt := 26) hx hb dX0_move_13 (by decide) (fun h13 => ?_) (fun h13 => absurd h13 (by rw [isn_1 hj (by omega)]; decide))
  refine lv_aload_n hx hb dX0_move_26 rfl (lv_at hl 0 rfl) ?_
  refine va_get (D := (dC, dI)) (ci := 0) (v := .ref (a 3)) (C := RX0) (T := TX0) (N := 11) hx hb hts hiw hown hK hP 0 rfl rfl 2 (by decide) hf_17 (fun _ h9 => h9) rfl dX0_move_27 ?_
  refine lv_iload_n hx hb dX0_move_30 rfl (lv_at hl 1 rfl) ?_
  refine ga_iald hx hb hK hP 3 0 rfl rfl i (v := nI (cf i)) rfl (by omega) (by decide) dX0_move_31 ?_
  refine lv_bipush (v := 6) hx hb dX0_move_32 (by decide) ?_
  refine lv_icmp_lt (tgt := 47) hx hb dX0_move_34 (by decide) (fun h34 => absurd h34 (by rw [hc]; decide)) (fun h34 => ?_)
  exact vx_throwS hx hb hl9 (own := RX0) (cls := "java/lang/IllegalStateException") (text := "the node has 6 moves") (names := ["java/lang/RuntimeException", "java/lang/Exception"]) (ik := 58) (is := 71) (ic := 62) (sa := sa 3) (A := fun _ => False) hown (by decide) (by decide) (hts (.classLink RX0 58 "java/lang/IllegalStateException") (by decide +kernel)) (hts (.initialized "java/lang/IllegalStateException") (by decide +kernel)) (hE.2.2.2.2.2.2.1) (vx_hat (L := vx_atS RX0 62 "java/lang/IllegalStateException" ["java/lang/RuntimeException", "java/lang/Exception"]) (B := [.castable "java/lang/IllegalStateException" "java/lang/IllegalStateException", .declares ⟨"java/lang/RuntimeException", "<init>", "(Ljava/lang/String;)V"⟩, .declares ⟨"java/lang/Exception", "<init>", "(Ljava/lang/String;)V"⟩, .declares ⟨"java/lang/Throwable", "<init>", "(Ljava/lang/String;)V"⟩]) (fun w hw => hts w ((by decide +kernel : ∀ w ∈ (vx_atS RX0 62 "java/lang/IllegalStateException" ["java/lang/RuntimeException", "java/lang/Exception"]).filter goodWord, w ∈ wsX0_move) w hw)) (by decide +kernel) (vx_c (va_Nw.use rfl hE.2.1.2.1) (vx_c (va_Nw.use rfl hE.2.2.1.1) (vx_c (va_Nw.use rfl hE.2.2.1.2.1) (vx_c (va_Nw.use rfl hE.2.2.1.2.2) vx_n))))) (by decide +kernel) hE.1.1 hE.1.2 va_S.rf (hl.1.trans hml.symm) dX0_move_37 dX0_move_40 dX0_move_41 dX0_move_43 dX0_move_46 (fun x hx => (htab x hx).elim) (Nat.le_of_ble_eq_true rfl) (Nat.le_of_ble_eq_true rfl) (Nat.le_of_ble_eq_true rfl) (Nat.le_of_ble_eq_true rfl) hlocks (fun t hA h1 h2 => ⟨(), trivial, rfl, h1, fun q hq _ => h2 q hq⟩) (fun _ h => nomatch h) (Nat.le_of_ble_eq_true rfl) (Nat.le_of_ble_eq_true rfl)
set_option maxHeartbeats 4000000 in
set_option maxRecDepth 100000 in
/-- value throws -/
theorem tX0_value (l : Launch) (hl9 : l.stackTraces = false) (dC : Nat → ClassId) (dI : Nat → Nat → Nat) (cI cZ cA : ClassId) (a : Nat → Nat) (sz : Nat) (sa : Nat → Nat) (n : Nat) (am : Nat) (rf : Nat) (mk : Nat) (wv : Nat → Int32) (lo : Nat → Int32) (cf : Nat → Nat) (tf : Nat → Nat) (T : Nat → Nat → Int32) (mt : Nat → Nat) (im : Nat → Int32) (x d : Int32)  (hB : Bad n x d) : vx_Met l yX0_value wsX0_value ({ frames := 7, cells := 1, slots := 6, locals := 111 }) (va_Pc [.ref (a 0), .int x, .int d] (TP dC dI (GT cI cZ cA) (XW cI cZ cA a n am rf mk wv lo cf tf T mt im) sz sa)) (TQi sz) (TXc "java/lang/IllegalArgumentException" sz) 1 6 (fun q => sz ≤ q) := by
  refine vx_ofW (cc := cX0_value) (maxL := 3) (ret := (some .int)) (by decide) rfl ?_
  intro p e s m args below meth c s₁ B hml htab hv
  obtain ⟨rfl, hsz, ⟨hP, hK⟩, hE⟩ := hv
  have hx := B.exec
  have hb := B.bytes
  have hr := B.returns
  have hts := atoms_spec (ws := wsX0_value) B.pre
  have hown : s.vm.findClass RX0 = some m.cls := findClass_of_methodNamed B.named
  have hlocks := B.notSynchronized
  subst hsz
  have hf_32 := hts (.fieldLink RX0 32 "GraphSearch" "table" "[[I") (by decide +kernel)
  have hiw : ∀ w ∈ wsX00, w ∈ wsX0_value := by decide +kernel
  have hl := lv_entry ([.ref (a 0), .int x, .int d]) (n := 3) (Nat.le_of_ble_eq_true rfl)
  rw [lg_entry_eq]
  generalize (lg_sl ([.ref (a 0), .int x, .int d]) ++ List.replicate (3 - (lg_sl ([.ref (a 0), .int x, .int d])).length) Slot.unset).toArray = ls at hl ⊢
  have hl : lv_has ls 3 [(0, .ref (a 0)), (1, .int x), (2, .int d)] := hl
  refine lv_aload_n hx hb dX0_value_0 rfl (lv_at hl 0 rfl) ?_
  refine lv_iload_n hx hb dX0_value_1 rfl (lv_at hl 1 rfl) ?_
  refine lv_iload_n hx hb dX0_value_2 rfl (lv_at hl 2 rfl) ?_
  refine vx_callv (A0 := fun q => s.heap.size ≤ q) (H0 := s.heap) (vx_runV (As := [.int x, .int d]) (rest := []) ⟨hx, hb, hml, hown, hts⟩ (tX0_refuse l hl9 dC dI cI cZ cA a s.heap.size sa n am rf mk wv lo cf tf T mt im x d hB) (cwV 2 hts gX0_value_X0_refuseWrongQuestion rfl rfl rfl (by decide +kernel) ⟨Nat.le_of_ble_eq_true rfl, Nat.le_of_ble_eq_true rfl⟩) ⟨blindTP, va_recv hK hP (ci := 0) (q0 := 0) rfl rfl, preTP hP hK hE⟩ rfl rfl hl.1 rfl (lv_room (Nat.le_of_ble_eq_true rfl)) dX0_value_3 ⟨Nat.le_of_ble_eq_true rfl, Nat.le_of_ble_eq_true rfl⟩) va_S.rf (fun q _ h => h) (fun q h => h) (fun q _ h => h) (fun E ce q9 u t H1 locs ht hvm hpx hBX hz hk hS hce hcv hcl => ?_) (fun u t H1 locs ht hvm hw hB hz hk hS => hw.elim)
  have hEe : E = "java/lang/IllegalArgumentException" := hBX
  subst hEe
  exact vx_out (fun x hx => (htab x hx).elim) hlocks hce hcv hcl (fun t2 ht2 _ => ⟨(), trivial, rfl, hS.F ht2⟩) hS.2.2 (Nat.le_of_ble_eq_true rfl) (Nat.le_of_ble_eq_true rfl)
set_option maxHeartbeats 4000000 in
set_option maxRecDepth 100000 in
/-- best throws -/
theorem tX0_best (l : Launch) (hl9 : l.stackTraces = false) (dC : Nat → ClassId) (dI : Nat → Nat → Nat) (cI cZ cA : ClassId) (a : Nat → Nat) (sz : Nat) (sa : Nat → Nat) (n : Nat) (am : Nat) (rf : Nat) (mk : Nat) (wv : Nat → Int32) (lo : Nat → Int32) (cf : Nat → Nat) (tf : Nat → Nat) (T : Nat → Nat → Int32) (mt : Nat → Nat) (im : Nat → Int32) (x d : Int32)  (hB : Bad n x d) : vx_Met l yX0_best wsX0_best ({ frames := 7, cells := 1, slots := 6, locals := 111 }) (va_Pc [.ref (a 0), .int x, .int d] (TP dC dI (GT cI cZ cA) (XW cI cZ cA a n am rf mk wv lo cf tf T mt im) sz sa)) (TQi sz) (TXc "java/lang/IllegalArgumentException" sz) 1 6 (fun q => sz ≤ q) := by
  refine vx_ofW (cc := cX0_best) (maxL := 3) (ret := (some .int)) (by decide) rfl ?_
  intro p e s m args below meth c s₁ B hml htab hv
  obtain ⟨rfl, hsz, ⟨hP, hK⟩, hE⟩ := hv
  have hx := B.exec
  have hb := B.bytes
  have hr := B.returns
  have hts := atoms_spec (ws := wsX0_best) B.pre
  have hown : s.vm.findClass RX0 = some m.cls := findClass_of_methodNamed B.named
  have hlocks := B.notSynchronized
  subst hsz
  have hl := lv_entry ([.ref (a 0), .int x, .int d]) (n := 3) (Nat.le_of_ble_eq_true rfl)
  rw [lg_entry_eq]
  generalize (lg_sl ([.ref (a 0), .int x, .int d]) ++ List.replicate (3 - (lg_sl ([.ref (a 0), .int x, .int d])).length) Slot.unset).toArray = ls at hl ⊢
  have hl : lv_has ls 3 [(0, .ref (a 0)), (1, .int x), (2, .int d)] := hl
  refine lv_aload_n hx hb dX0_best_0 rfl (lv_at hl 0 rfl) ?_
  refine lv_iload_n hx hb dX0_best_1 rfl (lv_at hl 1 rfl) ?_
  refine lv_iload_n hx hb dX0_best_2 rfl (lv_at hl 2 rfl) ?_
  refine vx_callv (A0 := fun q => s.heap.size ≤ q) (H0 := s.heap) (vx_runV (As := [.int x, .int d]) (rest := []) ⟨hx, hb, hml, hown, hts⟩ (tX0_refuse l hl9 dC dI cI cZ cA a s.heap.size sa n am rf mk wv lo cf tf T mt im x d hB) (cwV 2 hts gX0_best_X0_refuseWrongQuestion rfl rfl rfl (by decide +kernel) ⟨Nat.le_of_ble_eq_true rfl, Nat.le_of_ble_eq_true rfl⟩) ⟨blindTP, va_recv hK hP (ci := 0) (q0 := 0) rfl rfl, preTP hP hK hE⟩ rfl rfl hl.1 rfl (lv_room (Nat.le_of_ble_eq_true rfl)) dX0_best_3 ⟨Nat.le_of_ble_eq_true rfl, Nat.le_of_ble_eq_true rfl⟩) va_S.rf (fun q _ h => h) (fun q h => h) (fun q _ h => h) (fun E ce q9 u t H1 locs ht hvm hpx hBX hz hk hS hce hcv hcl => ?_) (fun u t H1 locs ht hvm hw hB hz hk hS => hw.elim)
  have hEe : E = "java/lang/IllegalArgumentException" := hBX
  subst hEe
  exact vx_out (fun x hx => (htab x hx).elim) hlocks hce hcv hcl (fun t2 ht2 _ => ⟨(), trivial, rfl, hS.F ht2⟩) hS.2.2 (Nat.le_of_ble_eq_true rfl) (Nat.le_of_ble_eq_true rfl)
set_option maxHeartbeats 4000000 in
set_option maxRecDepth 100000 in
/-- ties throws -/
theorem tX0_ties (l : Launch) (hl9 : l.stackTraces = false) (dC : Nat → ClassId) (dI : Nat → Nat → Nat) (cI cZ cA : ClassId) (a : Nat → Nat) (sz : Nat) (sa : Nat → Nat) (n : Nat) (am : Nat) (rf : Nat) (mk : Nat) (wv : Nat → Int32) (lo : Nat → Int32) (cf : Nat → Nat) (tf : Nat → Nat) (T : Nat → Nat → Int32) (mt : Nat → Nat) (im : Nat → Int32) (x d : Int32)  (hB : Bad n x d) : vx_Met l yX0_ties wsX0_ties ({ frames := 7, cells := 1, slots := 6, locals := 111 }) (va_Pc [.ref (a 0), .int x, .int d] (TP dC dI (GT cI cZ cA) (XW cI cZ cA a n am rf mk wv lo cf tf T mt im) sz sa)) (TQi sz) (TXc "java/lang/IllegalArgumentException" sz) 1 6 (fun q => sz ≤ q) := by
  refine vx_ofW (cc := cX0_ties) (maxL := 5) (ret := (some .int)) (by decide) rfl ?_
  intro p e s m args below meth c s₁ B hml htab hv
  obtain ⟨rfl, hsz, ⟨hP, hK⟩, hE⟩ := hv
  have hx := B.exec
  have hb := B.bytes
  have hr := B.returns
  have hts := atoms_spec (ws := wsX0_ties) B.pre
  have hown : s.vm.findClass RX0 = some m.cls := findClass_of_methodNamed B.named
  have hlocks := B.notSynchronized
  subst hsz
  have hf_17 := hts (.fieldLink RX0 17 "GraphSearch" "moveCounts" "[I") (by decide +kernel)
  have hf_32 := hts (.fieldLink RX0 32 "GraphSearch" "table" "[[I") (by decide +kernel)
  have hiw : ∀ w ∈ wsX00, w ∈ wsX0_ties := by decide +kernel
  have hl := lv_entry ([.ref (a 0), .int x, .int d]) (n := 5) (Nat.le_of_ble_eq_true rfl)
  rw [lg_entry_eq]
  generalize (lg_sl ([.ref (a 0), .int x, .int d]) ++ List.replicate (5 - (lg_sl ([.ref (a 0), .int x, .int d])).length) Slot.unset).toArray = ls at hl ⊢
  have hl : lv_has ls 5 [(0, .ref (a 0)), (1, .int x), (2, .int d)] := hl
  refine lv_aload_n hx hb dX0_ties_0 rfl (lv_at hl 0 rfl) ?_
  refine lv_iload_n hx hb dX0_ties_1 rfl (lv_at hl 1 rfl) ?_
  refine lv_iload_n hx hb dX0_ties_2 rfl (lv_at hl 2 rfl) ?_
  refine vx_callv (A0 := fun q => s.heap.size ≤ q) (H0 := s.heap) (vx_runV (As := [.int x, .int d]) (rest := []) ⟨hx, hb, hml, hown, hts⟩ (tX0_refuse l hl9 dC dI cI cZ cA a s.heap.size sa n am rf mk wv lo cf tf T mt im x d hB) (cwV 2 hts gX0_ties_X0_refuseWrongQuestion rfl rfl rfl (by decide +kernel) ⟨Nat.le_of_ble_eq_true rfl, Nat.le_of_ble_eq_true rfl⟩) ⟨blindTP, va_recv hK hP (ci := 0) (q0 := 0) rfl rfl, preTP hP hK hE⟩ rfl rfl hl.1 rfl (lv_room (Nat.le_of_ble_eq_true rfl)) dX0_ties_3 ⟨Nat.le_of_ble_eq_true rfl, Nat.le_of_ble_eq_true rfl⟩) va_S.rf (fun q _ h => h) (fun q h => h) (fun q _ h => h) (fun E ce q9 u t H1 locs ht hvm hpx hBX hz hk hS hce hcv hcl => ?_) (fun u t H1 locs ht hvm hw hB hz hk hS => hw.elim)
  have hEe : E = "java/lang/IllegalArgumentException" := hBX
  subst hEe
  exact vx_out (fun x hx => (htab x hx).elim) hlocks hce hcv hcl (fun t2 ht2 _ => ⟨(), trivial, rfl, hS.F ht2⟩) hS.2.2 (Nat.le_of_ble_eq_true rfl) (Nat.le_of_ble_eq_true rfl)
set_option maxHeartbeats 4000000 in
set_option maxRecDepth 100000 in
/-- settled throws -/
theorem tX0_settled (l : Launch) (hl9 : l.stackTraces = false) (dC : Nat → ClassId) (dI : Nat → Nat → Nat) (cI cZ cA : ClassId) (a : Nat → Nat) (sz : Nat) (sa : Nat → Nat) (n : Nat) (am : Nat) (rf : Nat) (mk : Nat) (wv : Nat → Int32) (lo : Nat → Int32) (cf : Nat → Nat) (tf : Nat → Nat) (T : Nat → Nat → Int32) (mt : Nat → Nat) (im : Nat → Int32) (x d : Int32)  (hB : Bad n x d) : vx_Met l yX0_settled wsX0_settled ({ frames := 7, cells := 1, slots := 6, locals := 111 }) (va_Pc [.ref (a 0), .int x, .int d] (TP dC dI (GT cI cZ cA) (XW cI cZ cA a n am rf mk wv lo cf tf T mt im) sz sa)) (TQi sz) (TXc "java/lang/IllegalArgumentException" sz) 1 6 (fun q => sz ≤ q) := by
  refine vx_ofW (cc := cX0_settled) (maxL := 4) (ret := (some .int)) (by decide) rfl ?_
  intro p e s m args below meth c s₁ B hml htab hv
  obtain ⟨rfl, hsz, ⟨hP, hK⟩, hE⟩ := hv
  have hx := B.exec
  have hb := B.bytes
  have hr := B.returns
  have hts := atoms_spec (ws := wsX0_settled) B.pre
  have hown : s.vm.findClass RX0 = some m.cls := findClass_of_methodNamed B.named
  have hlocks := B.notSynchronized
  subst hsz
  have hf_32 := hts (.fieldLink RX0 32 "GraphSearch" "table" "[[I") (by decide +kernel)
  have hiw : ∀ w ∈ wsX00, w ∈ wsX0_settled := by decide +kernel
  have hl := lv_entry ([.ref (a 0), .int x, .int d]) (n := 4) (Nat.le_of_ble_eq_true rfl)
  rw [lg_entry_eq]
  generalize (lg_sl ([.ref (a 0), .int x, .int d]) ++ List.replicate (4 - (lg_sl ([.ref (a 0), .int x, .int d])).length) Slot.unset).toArray = ls at hl ⊢
  have hl : lv_has ls 4 [(0, .ref (a 0)), (1, .int x), (2, .int d)] := hl
  refine lv_aload_n hx hb dX0_settled_0 rfl (lv_at hl 0 rfl) ?_
  refine lv_iload_n hx hb dX0_settled_1 rfl (lv_at hl 1 rfl) ?_
  refine lv_iload_n hx hb dX0_settled_2 rfl (lv_at hl 2 rfl) ?_
  refine vx_callv (A0 := fun q => s.heap.size ≤ q) (H0 := s.heap) (vx_runV (As := [.int x, .int d]) (rest := []) ⟨hx, hb, hml, hown, hts⟩ (tX0_refuse l hl9 dC dI cI cZ cA a s.heap.size sa n am rf mk wv lo cf tf T mt im x d hB) (cwV 2 hts gX0_settled_X0_refuseWrongQuestion rfl rfl rfl (by decide +kernel) ⟨Nat.le_of_ble_eq_true rfl, Nat.le_of_ble_eq_true rfl⟩) ⟨blindTP, va_recv hK hP (ci := 0) (q0 := 0) rfl rfl, preTP hP hK hE⟩ rfl rfl hl.1 rfl (lv_room (Nat.le_of_ble_eq_true rfl)) dX0_settled_3 ⟨Nat.le_of_ble_eq_true rfl, Nat.le_of_ble_eq_true rfl⟩) va_S.rf (fun q _ h => h) (fun q h => h) (fun q _ h => h) (fun E ce q9 u t H1 locs ht hvm hpx hBX hz hk hS hce hcv hcl => ?_) (fun u t H1 locs ht hvm hw hB hz hk hS => hw.elim)
  have hEe : E = "java/lang/IllegalArgumentException" := hBX
  subst hEe
  exact vx_out (fun x hx => (htab x hx).elim) hlocks hce hcv hcl (fun t2 ht2 _ => ⟨(), trivial, rfl, hS.F ht2⟩) hS.2.2 (Nat.le_of_ble_eq_true rfl) (Nat.le_of_ble_eq_true rfl)
set_option maxHeartbeats 4000000 in
set_option maxRecDepth 100000 in
/-- around throws -/
theorem tX0_around (l : Launch) (hl9 : l.stackTraces = false) (dC : Nat → ClassId) (dI : Nat → Nat → Nat) (cI cZ cA : ClassId) (a : Nat → Nat) (sz : Nat) (sa : Nat → Nat) (n : Nat) (am : Nat) (rf : Nat) (mk : Nat) (wv : Nat → Int32) (lo : Nat → Int32) (cf : Nat → Nat) (tf : Nat → Nat) (T : Nat → Nat → Int32) (mt : Nat → Nat) (im : Nat → Int32) (x d : Int32)  (hB : Bad n x d) : vx_Met l yX0_around wsX0_around ({ frames := 7, cells := 1, slots := 6, locals := 104 }) (va_Pc [.ref (a 0), .int x, .int d] (TP dC dI (GT cI cZ cA) (XW cI cZ cA a n am rf mk wv lo cf tf T mt im) sz sa)) (TQi sz) (TXc "java/lang/IllegalArgumentException" sz) 1 6 (fun q => sz ≤ q) := by
  refine vx_ofW (cc := cX0_around) (maxL := 6) (ret := (some .int)) (by decide) rfl ?_
  intro p e s m args below meth c s₁ B hml htab hv
  obtain ⟨rfl, hsz, ⟨hP, hK⟩, hE⟩ := hv
  have hx := B.exec
  have hb := B.bytes
  have hr := B.returns
  have hts := atoms_spec (ws := wsX0_around) B.pre
  have hown : s.vm.findClass RX0 = some m.cls := findClass_of_methodNamed B.named
  have hlocks := B.notSynchronized
  subst hsz
  have hf_44 := hts (.fieldLink RX0 44 "GraphSearch" "metCount" "I") (by decide +kernel)
  have hf_38 := hts (.fieldLink RX0 38 "GraphSearch" "met" "[I") (by decide +kernel)
  have hiw : ∀ w ∈ wsX00, w ∈ wsX0_around := by decide +kernel
  have hl := lv_entry ([.ref (a 0), .int x, .int d]) (n := 6) (Nat.le_of_ble_eq_true rfl)
  rw [lg_entry_eq]
  generalize (lg_sl ([.ref (a 0), .int x, .int d]) ++ List.replicate (6 - (lg_sl ([.ref (a 0), .int x, .int d])).length) Slot.unset).toArray = ls at hl ⊢
  have hl : lv_has ls 6 [(0, .ref (a 0)), (1, .int x), (2, .int d)] := hl
  refine lv_aload_n hx hb dX0_around_0 rfl (lv_at hl 0 rfl) ?_
  refine lv_iload_n hx hb dX0_around_1 rfl (lv_at hl 1 rfl) ?_
  refine lv_iload_n hx hb dX0_around_2 rfl (lv_at hl 2 rfl) ?_
  refine vx_callv (A0 := fun q => s.heap.size ≤ q) (H0 := s.heap) (vx_runV (As := [.int x, .int d]) (rest := []) ⟨hx, hb, hml, hown, hts⟩ (tX0_refuse l hl9 dC dI cI cZ cA a s.heap.size sa n am rf mk wv lo cf tf T mt im x d hB) (cwV 2 hts gX0_around_X0_refuseWrongQuestion rfl rfl rfl (by decide +kernel) ⟨Nat.le_of_ble_eq_true rfl, Nat.le_of_ble_eq_true rfl⟩) ⟨blindTP, va_recv hK hP (ci := 0) (q0 := 0) rfl rfl, preTP hP hK hE⟩ rfl rfl hl.1 rfl (lv_room (Nat.le_of_ble_eq_true rfl)) dX0_around_3 ⟨Nat.le_of_ble_eq_true rfl, Nat.le_of_ble_eq_true rfl⟩) va_S.rf (fun q _ h => h) (fun q h => h) (fun q _ h => h) (fun E ce q9 u t H1 locs ht hvm hpx hBX hz hk hS hce hcv hcl => ?_) (fun u t H1 locs ht hvm hw hB hz hk hS => hw.elim)
  have hEe : E = "java/lang/IllegalArgumentException" := hBX
  subst hEe
  exact vx_out (fun x hx => (htab x hx).elim) hlocks hce hcv hcl (fun t2 ht2 _ => ⟨(), trivial, rfl, hS.F ht2⟩) hS.2.2 (Nat.le_of_ble_eq_true rfl) (Nat.le_of_ble_eq_true rfl)
set_option maxHeartbeats 4000000 in
set_option maxRecDepth 100000 in
/-- reaches throws -/
theorem tX0_reaches (l : Launch) (hl9 : l.stackTraces = false) (dC : Nat → ClassId) (dI : Nat → Nat → Nat) (cI cZ cA : ClassId) (a : Nat → Nat) (sz : Nat) (sa : Nat → Nat) (n : Nat) (am : Nat) (rf : Nat) (mk : Nat) (wv : Nat → Int32) (lo : Nat → Int32) (cf : Nat → Nat) (tf : Nat → Nat) (T : Nat → Nat → Int32) (mt : Nat → Nat) (im : Nat → Int32) (x d : Int32) (v : Int32) (hB : Bad n x d) : vx_Met l yX0_reaches wsX0_reaches ({ frames := 7, cells := 1, slots := 6, locals := 111 }) (va_Pc [.ref (a 0), .int x, .int d, .int v] (TP dC dI (GT cI cZ cA) (XW cI cZ cA a n am rf mk wv lo cf tf T mt im) sz sa)) (TQi sz) (TXc "java/lang/IllegalArgumentException" sz) 1 6 (fun q => sz ≤ q) := by
  refine vx_ofW (cc := cX0_reaches) (maxL := 4) (ret := (some .boolean)) (by decide) rfl ?_
  intro p e s m args below meth c s₁ B hml htab hv
  obtain ⟨rfl, hsz, ⟨hP, hK⟩, hE⟩ := hv
  have hx := B.exec
  have hb := B.bytes
  have hr := B.returns
  have hts := atoms_spec (ws := wsX0_reaches) B.pre
  have hown : s.vm.findClass RX0 = some m.cls := findClass_of_methodNamed B.named
  have hlocks := B.notSynchronized
  subst hsz
  have hf_32 := hts (.fieldLink RX0 32 "GraphSearch" "table" "[[I") (by decide +kernel)
  have hiw : ∀ w ∈ wsX00, w ∈ wsX0_reaches := by decide +kernel
  have hl := lv_entry ([.ref (a 0), .int x, .int d, .int v]) (n := 4) (Nat.le_of_ble_eq_true rfl)
  rw [lg_entry_eq]
  generalize (lg_sl ([.ref (a 0), .int x, .int d, .int v]) ++ List.replicate (4 - (lg_sl ([.ref (a 0), .int x, .int d, .int v])).length) Slot.unset).toArray = ls at hl ⊢
  have hl : lv_has ls 4 [(0, .ref (a 0)), (1, .int x), (2, .int d), (3, .int v)] := hl
  refine lv_aload_n hx hb dX0_reaches_0 rfl (lv_at hl 0 rfl) ?_
  refine lv_iload_n hx hb dX0_reaches_1 rfl (lv_at hl 1 rfl) ?_
  refine lv_iload_n hx hb dX0_reaches_2 rfl (lv_at hl 2 rfl) ?_
  refine vx_callv (A0 := fun q => s.heap.size ≤ q) (H0 := s.heap) (vx_runV (As := [.int x, .int d]) (rest := []) ⟨hx, hb, hml, hown, hts⟩ (tX0_refuse l hl9 dC dI cI cZ cA a s.heap.size sa n am rf mk wv lo cf tf T mt im x d hB) (cwV 2 hts gX0_reaches_X0_refuseWrongQuestion rfl rfl rfl (by decide +kernel) ⟨Nat.le_of_ble_eq_true rfl, Nat.le_of_ble_eq_true rfl⟩) ⟨blindTP, va_recv hK hP (ci := 0) (q0 := 0) rfl rfl, preTP hP hK hE⟩ rfl rfl hl.1 rfl (lv_room (Nat.le_of_ble_eq_true rfl)) dX0_reaches_3 ⟨Nat.le_of_ble_eq_true rfl, Nat.le_of_ble_eq_true rfl⟩) va_S.rf (fun q _ h => h) (fun q h => h) (fun q _ h => h) (fun E ce q9 u t H1 locs ht hvm hpx hBX hz hk hS hce hcv hcl => ?_) (fun u t H1 locs ht hvm hw hB hz hk hS => hw.elim)
  have hEe : E = "java/lang/IllegalArgumentException" := hBX
  subst hEe
  exact vx_out (fun x hx => (htab x hx).elim) hlocks hce hcv hcl (fun t2 ht2 _ => ⟨(), trivial, rfl, hS.F ht2⟩) hS.2.2 (Nat.le_of_ble_eq_true rfl) (Nat.le_of_ble_eq_true rfl)
set_option maxHeartbeats 4000000 in
set_option maxRecDepth 100000 in
/-- line throws -/
theorem tX0_line (l : Launch) (hl9 : l.stackTraces = false) (dC : Nat → ClassId) (dI : Nat → Nat → Nat) (cI cZ cA : ClassId) (a : Nat → Nat) (sz : Nat) (sa : Nat → Nat) (n : Nat) (am : Nat) (rf : Nat) (mk : Nat) (wv : Nat → Int32) (lo : Nat → Int32) (cf : Nat → Nat) (tf : Nat → Nat) (T : Nat → Nat → Int32) (mt : Nat → Nat) (im : Nat → Int32) (x d : Int32) (v : Int32) (hB : Bad n x d) : vx_Met l yX0_line wsX0_line ({ frames := 7, cells := 1, slots := 6, locals := 111 }) (va_Pc [.ref (a 0), .int x, .int d, .int v] (TP dC dI (GT cI cZ cA) (XW cI cZ cA a n am rf mk wv lo cf tf T mt im) sz sa)) (TQi sz) (TXc "java/lang/IllegalArgumentException" sz) 1 6 (fun q => sz ≤ q) := by
  refine vx_ofW (cc := cX0_line) (maxL := 7) (ret := (some .int)) (by decide) rfl ?_
  intro p e s m args below meth c s₁ B hml htab hv
  obtain ⟨rfl, hsz, ⟨hP, hK⟩, hE⟩ := hv
  have hx := B.exec
  have hb := B.bytes
  have hr := B.returns
  have hts := atoms_spec (ws := wsX0_line) B.pre
  have hown : s.vm.findClass RX0 = some m.cls := findClass_of_methodNamed B.named
  have hlocks := B.notSynchronized
  subst hsz
  have hf_20 := hts (.fieldLink RX0 20 "GraphSearch" "targets" "[I") (by decide +kernel)
  have hiw : ∀ w ∈ wsX00, w ∈ wsX0_line := by decide +kernel
  have hl := lv_entry ([.ref (a 0), .int x, .int d, .int v]) (n := 7) (Nat.le_of_ble_eq_true rfl)
  rw [lg_entry_eq]
  generalize (lg_sl ([.ref (a 0), .int x, .int d, .int v]) ++ List.replicate (7 - (lg_sl ([.ref (a 0), .int x, .int d, .int v])).length) Slot.unset).toArray = ls at hl ⊢
  have hl : lv_has ls 7 [(0, .ref (a 0)), (1, .int x), (2, .int d), (3, .int v)] := hl
  refine lv_aload_n hx hb dX0_line_0 rfl (lv_at hl 0 rfl) ?_
  refine lv_iload_n hx hb dX0_line_1 rfl (lv_at hl 1 rfl) ?_
  refine lv_iload_n hx hb dX0_line_2 rfl (lv_at hl 2 rfl) ?_
  refine vx_callv (A0 := fun q => s.heap.size ≤ q) (H0 := s.heap) (vx_runV (As := [.int x, .int d]) (rest := []) ⟨hx, hb, hml, hown, hts⟩ (tX0_refuse l hl9 dC dI cI cZ cA a s.heap.size sa n am rf mk wv lo cf tf T mt im x d hB) (cwV 2 hts gX0_line_X0_refuseWrongQuestion rfl rfl rfl (by decide +kernel) ⟨Nat.le_of_ble_eq_true rfl, Nat.le_of_ble_eq_true rfl⟩) ⟨blindTP, va_recv hK hP (ci := 0) (q0 := 0) rfl rfl, preTP hP hK hE⟩ rfl rfl hl.1 rfl (lv_room (Nat.le_of_ble_eq_true rfl)) dX0_line_3 ⟨Nat.le_of_ble_eq_true rfl, Nat.le_of_ble_eq_true rfl⟩) va_S.rf (fun q _ h => h) (fun q h => h) (fun q _ h => h) (fun E ce q9 u t H1 locs ht hvm hpx hBX hz hk hS hce hcv hcl => ?_) (fun u t H1 locs ht hvm hw hB hz hk hS => hw.elim)
  have hEe : E = "java/lang/IllegalArgumentException" := hBX
  subst hEe
  exact vx_out (fun x hx => (htab x hx).elim) hlocks hce hcv hcl (fun t2 ht2 _ => ⟨(), trivial, rfl, hS.F ht2⟩) hS.2.2 (Nat.le_of_ble_eq_true rfl) (Nat.le_of_ble_eq_true rfl)
end
