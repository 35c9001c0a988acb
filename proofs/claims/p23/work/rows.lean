section
-- ===== PART A: goes FIRST, ahead of the names: the tables' words, and 'selects' of the private methods out of them =====
/-- a private method of a class that the tables say can be made, by its rows of tables_1 -/
def lw_okq (q : MethodName × Nat) : Prop := (q.1.cls ≠ "java/lang/invoke/MethodHandle" ∧ q.1.cls ≠ "java/lang/invoke/VarHandle") ∧ Cond.instantiable q.1.cls q.2 ∈ tables_1 ∧ Cond.privateMethod q.1 ∈ tables_1 ∧ Cond.instanceMethod q.1 ∈ tables_1
theorem lw_p0 : lw_okq (⟨"java/lang/Throwable", "fillInStackTrace", "(I)Ljava/lang/Throwable;"⟩, 6) := ⟨⟨by decide +kernel, by decide +kernel⟩, List.mem_of_getElem? (i := 163) (by decide +kernel), List.mem_of_getElem? (i := 161) (by decide +kernel), List.mem_of_getElem? (i := 162) (by decide +kernel)⟩
theorem lw_p1 : lw_okq (⟨"TollGateway", "runOutHolds", "()I"⟩, 6) := ⟨⟨by decide +kernel, by decide +kernel⟩, List.mem_of_getElem? (i := 22) (by decide +kernel), List.mem_of_getElem? (i := 193) (by decide +kernel), List.mem_of_getElem? (i := 194) (by decide +kernel)⟩
theorem lw_p2 : lw_okq (⟨"TollGateway$Call", "hasEnded", "()Z"⟩, 7) := ⟨⟨by decide +kernel, by decide +kernel⟩, List.mem_of_getElem? (i := 218) (by decide +kernel), List.mem_of_getElem? (i := 216) (by decide +kernel), List.mem_of_getElem? (i := 217) (by decide +kernel)⟩
theorem lw_p3 : lw_okq (⟨"TollGateway$Call", "settle", "(II)V"⟩, 7) := ⟨⟨by decide +kernel, by decide +kernel⟩, List.mem_of_getElem? (i := 218) (by decide +kernel), List.mem_of_getElem? (i := 221) (by decide +kernel), List.mem_of_getElem? (i := 222) (by decide +kernel)⟩
theorem lw_p4 : lw_okq (⟨"TollGateway$Call", "costOf", "(I)I"⟩, 7) := ⟨⟨by decide +kernel, by decide +kernel⟩, List.mem_of_getElem? (i := 218) (by decide +kernel), List.mem_of_getElem? (i := 225) (by decide +kernel), List.mem_of_getElem? (i := 226) (by decide +kernel)⟩
theorem lw_p5 : lw_okq (⟨"TollGateway$Key", "closeHold", "(II)V"⟩, 9) := ⟨⟨by decide +kernel, by decide +kernel⟩, List.mem_of_getElem? (i := 231) (by decide +kernel), List.mem_of_getElem? (i := 229) (by decide +kernel), List.mem_of_getElem? (i := 230) (by decide +kernel)⟩
theorem lw_p6 : lw_okq (⟨"TollGateway$Key", "receive", "(I)V"⟩, 9) := ⟨⟨by decide +kernel, by decide +kernel⟩, List.mem_of_getElem? (i := 231) (by decide +kernel), List.mem_of_getElem? (i := 234) (by decide +kernel), List.mem_of_getElem? (i := 235) (by decide +kernel)⟩
theorem lw_p7 : lw_okq (⟨"TollGateway", "refillBuckets", "()V"⟩, 6) := ⟨⟨by decide +kernel, by decide +kernel⟩, List.mem_of_getElem? (i := 22) (by decide +kernel), List.mem_of_getElem? (i := 241) (by decide +kernel), List.mem_of_getElem? (i := 242) (by decide +kernel)⟩
theorem lw_p8 : lw_okq (⟨"TollGateway$Key", "refillBucket", "()V"⟩, 9) := ⟨⟨by decide +kernel, by decide +kernel⟩, List.mem_of_getElem? (i := 231) (by decide +kernel), List.mem_of_getElem? (i := 246) (by decide +kernel), List.mem_of_getElem? (i := 247) (by decide +kernel)⟩
theorem lw_p9 : lw_okq (⟨"TollGateway$Key", "refillsSlowly", "()Z"⟩, 9) := ⟨⟨by decide +kernel, by decide +kernel⟩, List.mem_of_getElem? (i := 231) (by decide +kernel), List.mem_of_getElem? (i := 250) (by decide +kernel), List.mem_of_getElem? (i := 251) (by decide +kernel)⟩
theorem lw_p10 : lw_okq (⟨"TollGateway", "keyAt", "(I)LTollGateway$Key;"⟩, 6) := ⟨⟨by decide +kernel, by decide +kernel⟩, List.mem_of_getElem? (i := 22) (by decide +kernel), List.mem_of_getElem? (i := 262) (by decide +kernel), List.mem_of_getElem? (i := 263) (by decide +kernel)⟩
theorem lw_p11 : lw_okq (⟨"TollGateway", "callAt", "(I)LTollGateway$Call;"⟩, 6) := ⟨⟨by decide +kernel, by decide +kernel⟩, List.mem_of_getElem? (i := 22) (by decide +kernel), List.mem_of_getElem? (i := 286) (by decide +kernel), List.mem_of_getElem? (i := 287) (by decide +kernel)⟩
theorem lw_p12 : lw_okq (⟨"TollGateway", "planAt", "(I)LTollGateway$Plan;"⟩, 6) := ⟨⟨by decide +kernel, by decide +kernel⟩, List.mem_of_getElem? (i := 22) (by decide +kernel), List.mem_of_getElem? (i := 317) (by decide +kernel), List.mem_of_getElem? (i := 318) (by decide +kernel)⟩
theorem lw_p13 : lw_okq (⟨"TollGateway", "routeAt", "(I)LTollGateway$Route;"⟩, 6) := ⟨⟨by decide +kernel, by decide +kernel⟩, List.mem_of_getElem? (i := 22) (by decide +kernel), List.mem_of_getElem? (i := 330) (by decide +kernel), List.mem_of_getElem? (i := 331) (by decide +kernel)⟩
theorem lw_p14 : lw_okq (⟨"java/util/ArrayList", "add", "(Ljava/lang/Object;[Ljava/lang/Object;I)V"⟩, 3) := ⟨⟨by decide +kernel, by decide +kernel⟩, List.mem_of_getElem? (i := 34) (by decide +kernel), List.mem_of_getElem? (i := 404) (by decide +kernel), List.mem_of_getElem? (i := 405) (by decide +kernel)⟩
theorem lw_p15 : lw_okq (⟨"java/util/ArrayList", "grow", "()[Ljava/lang/Object;"⟩, 3) := ⟨⟨by decide +kernel, by decide +kernel⟩, List.mem_of_getElem? (i := 34) (by decide +kernel), List.mem_of_getElem? (i := 408) (by decide +kernel), List.mem_of_getElem? (i := 409) (by decide +kernel)⟩
def lw_privs_1 : List (MethodName × Nat) := [(⟨"java/lang/Throwable", "fillInStackTrace", "(I)Ljava/lang/Throwable;"⟩, 6), (⟨"TollGateway", "runOutHolds", "()I"⟩, 6), (⟨"TollGateway$Call", "hasEnded", "()Z"⟩, 7), (⟨"TollGateway$Call", "settle", "(II)V"⟩, 7), (⟨"TollGateway$Call", "costOf", "(I)I"⟩, 7), (⟨"TollGateway$Key", "closeHold", "(II)V"⟩, 9), (⟨"TollGateway$Key", "receive", "(I)V"⟩, 9), (⟨"TollGateway", "refillBuckets", "()V"⟩, 6), (⟨"TollGateway$Key", "refillBucket", "()V"⟩, 9), (⟨"TollGateway$Key", "refillsSlowly", "()Z"⟩, 9), (⟨"TollGateway", "keyAt", "(I)LTollGateway$Key;"⟩, 6), (⟨"TollGateway", "callAt", "(I)LTollGateway$Call;"⟩, 6), (⟨"TollGateway", "planAt", "(I)LTollGateway$Plan;"⟩, 6), (⟨"TollGateway", "routeAt", "(I)LTollGateway$Route;"⟩, 6), (⟨"java/util/ArrayList", "add", "(Ljava/lang/Object;[Ljava/lang/Object;I)V"⟩, 3), (⟨"java/util/ArrayList", "grow", "()[Ljava/lang/Object;"⟩, 3)]
theorem lw_r1 : ∀ q ∈ lw_privs_1, lw_okq q := List.forall_mem_cons.mpr ⟨lw_p0, List.forall_mem_cons.mpr ⟨lw_p1, List.forall_mem_cons.mpr ⟨lw_p2, List.forall_mem_cons.mpr ⟨lw_p3, List.forall_mem_cons.mpr ⟨lw_p4, List.forall_mem_cons.mpr ⟨lw_p5, List.forall_mem_cons.mpr ⟨lw_p6, List.forall_mem_cons.mpr ⟨lw_p7, List.forall_mem_cons.mpr ⟨lw_p8, List.forall_mem_cons.mpr ⟨lw_p9, List.forall_mem_cons.mpr ⟨lw_p10, List.forall_mem_cons.mpr ⟨lw_p11, List.forall_mem_cons.mpr ⟨lw_p12, List.forall_mem_cons.mpr ⟨lw_p13, List.forall_mem_cons.mpr ⟨lw_p14, List.forall_mem_cons.mpr ⟨lw_p15, fun _ h => absurd h List.not_mem_nil⟩⟩⟩⟩⟩⟩⟩⟩⟩⟩⟩⟩⟩⟩⟩⟩
theorem lw_p16 : lw_okq (⟨"java/util/ArrayList", "grow", "(I)[Ljava/lang/Object;"⟩, 3) := ⟨⟨by decide +kernel, by decide +kernel⟩, List.mem_of_getElem? (i := 34) (by decide +kernel), List.mem_of_getElem? (i := 412) (by decide +kernel), List.mem_of_getElem? (i := 413) (by decide +kernel)⟩
theorem lw_p17 : lw_okq (⟨"TollGateway$Call", "giveBack", "()I"⟩, 7) := ⟨⟨by decide +kernel, by decide +kernel⟩, List.mem_of_getElem? (i := 218) (by decide +kernel), List.mem_of_getElem? (i := 496) (by decide +kernel), List.mem_of_getElem? (i := 497) (by decide +kernel)⟩
theorem lw_p18 : lw_okq (⟨"TollGateway$Key", "canCover", "(I)Z"⟩, 9) := ⟨⟨by decide +kernel, by decide +kernel⟩, List.mem_of_getElem? (i := 231) (by decide +kernel), List.mem_of_getElem? (i := 512) (by decide +kernel), List.mem_of_getElem? (i := 513) (by decide +kernel)⟩
theorem lw_p19 : lw_okq (⟨"TollGateway$Key", "openHold", "(I)V"⟩, 9) := ⟨⟨by decide +kernel, by decide +kernel⟩, List.mem_of_getElem? (i := 231) (by decide +kernel), List.mem_of_getElem? (i := 517) (by decide +kernel), List.mem_of_getElem? (i := 518) (by decide +kernel)⟩
def lw_privs_2 : List (MethodName × Nat) := [(⟨"java/util/ArrayList", "grow", "(I)[Ljava/lang/Object;"⟩, 3), (⟨"TollGateway$Call", "giveBack", "()I"⟩, 7), (⟨"TollGateway$Key", "canCover", "(I)Z"⟩, 9), (⟨"TollGateway$Key", "openHold", "(I)V"⟩, 9)]
theorem lw_r2 : ∀ q ∈ lw_privs_2, lw_okq q := List.forall_mem_cons.mpr ⟨lw_p16, List.forall_mem_cons.mpr ⟨lw_p17, List.forall_mem_cons.mpr ⟨lw_p18, List.forall_mem_cons.mpr ⟨lw_p19, fun _ h => absurd h List.not_mem_nil⟩⟩⟩⟩
def lw_privs : List (MethodName × Nat) := lw_privs_1 ++ (lw_privs_2)
def lw_tbl : List Cond := k2_sels lw_privs ++ tables_1
theorem lw_privs_ok : ∀ q ∈ lw_privs, lw_okq q := by
  show ∀ q ∈ lw_privs_1 ++ (lw_privs_2), lw_okq q
  exact List.forall_mem_append.mpr ⟨lw_r1, lw_r2⟩
-- ===== end of PART A; then your names; then what follows =====
end
section
/-! ===== BEGIN words of one list among another's, by their places ===== -/
theorem goodIn_r {big : List Cond} (ws : List Cond) (ps : List Nat) (hp : ws = ps.filterMap (fun i => big[i]?)) (h : ws.all goodWord = true) : GoodIn big ws := by
  intro w hw
  have h1 := List.all_eq_true.mp h w hw
  rw [hp] at hw
  obtain ⟨i, -, hi⟩ := List.mem_filterMap.mp hw
  have hm : w ∈ big := by first | exact List.mem_of_getElem? hi | exact List.getElem?_mem hi
  exact ⟨hm, good_of_word h1⟩
theorem goodIn_app {big a b : List Cond} (ha : GoodIn big a) (hb : GoodIn big b) : GoodIn big (a ++ b) := fun w h => (List.mem_append.mp h).elim (ha w) (hb w)
theorem goodIn_ca {big a b : List Cond} {c : Cond} (ha : GoodIn big (c :: a)) (hb : GoodIn big b) : GoodIn big (c :: (a ++ b)) := fun w h => (List.mem_cons.mp h).elim (fun e => ha w (List.mem_cons.mpr (Or.inl e))) (fun h => (List.mem_append.mp h).elim (fun h => ha w (List.mem_cons.mpr (Or.inr h))) (hb w))
theorem goodIn_sub {big ws : List Cond} (hm : ∀ w ∈ ws, w ∈ big) (h : ws.all goodWord = true) : GoodIn big ws := fun w hw => ⟨hm w hw, good_of_word (List.all_eq_true.mp h w hw)⟩
/-! ===== END ===== -/

/-! ===== BEGIN exceptions that leave a method, and their catching by the caller (launches without stack traces) ===== -/
section VXA
/-! The laws vx_back, vx_callV, vx_callS, vx_callSW, vx_throw0, vx_throwS follow proofs of the library, with one case more: JvmDerived/Free/Laws.lean (Back.of_free), Shelf42/LK1.lean (callV, callS), Shelf/KitTraced.lean (throwNew0V, throwNewS). -/
/-- where a method has thrown q: the class by its name, the cell, what was written, the world -/
def vx_T (XC : String → State → State → Prop) (st : State) (q : Addr) (t : State) (mc ms : Nat) (free : Addr → Prop) : Prop :=
  ∃ (E : String) (ce : Cell) (L : List Loc), XC E st t ∧ t.heap[q]? = some ce ∧ ce.vm = .none ∧ st.vm.findClass E = some ce.cls ∧ st.WarmedH t.vm ∧ st.sameButNew ({ t with vm := st.vm } : State) L mc ms ∧ ∀ z ∈ L, free z.base
def vx_Q (Qc : Array Value → State → Outcome → State → Prop) (XC : String → State → State → Prop) (mc ms : Nat) (free : Addr → Prop) : Array Value → State → Outcome → State → Prop := fun a st o t =>
  (Qc a st o t ∧ ∃ L, FrameEnd st o t L mc ms ∧ ∀ q ∈ L, free q.base) ∨ ∃ q, o = .threw q ∧ vx_T XC st q t mc ms free
/-- a callee that returns or throws -/
def vx_Met (l : Launch) (y : MethodName) (ws : List Cond) (rm : Room) (Pc : Array Value → State → Prop) (Qc : Array Value → State → Outcome → State → Prop) (XC : String → State → State → Prop) (mc ms : Nat) (free : Addr → Prop) : Prop :=
  MetFree l y (headSpec ws rm) Pc (fun _ _ _ _ _ => True) (vx_Q Qc XC mc ms free)
def vx_Post (XC : String → State → State → Prop) (mc ms : Nat) (free : Addr → Prop) : Pt → Array Value → Addr → Pt → Prop := fun A a q B =>
  ∃ (g : JFrame) (mk : MethodId) (t : State) (L : List Loc) (E : String) (ce : Cell), B.U.heap = t.heap ∧ B.U.vm = t.vm ∧ XC E (A.U.calling g mk a) t ∧ t.heap[q]? = some ce ∧ ce.vm = .none ∧ A.U.vm.findClass E = some ce.cls ∧ B.locs = A.locs ++ L ∧ (∀ z ∈ L, free z.base) ∧ B.cells = A.cells + mc ∧ B.slots = A.slots + ms
def vx_Back (l : Launch) (R : Room) (p : Program) (e : Env) (below : List Frame) (s : State) (sargs : Array Value) (y : MethodName) (len W9 : Nat)
    (Pre : Pt → Array Value → Prop) (Post : Pt → Array Value → Option Value → Pt → Prop) (PostX : Pt → Array Value → Addr → Pt → Prop) : Prop :=
  ∀ (m : MethodId) (meth : Method) (c : Code) (A : Pt) (g : JFrame) (ig : Instr) (mk : MethodId) (a : Array Value),
    Stand p l e R s m sargs below meth c A.U A.locs A.cells A.slots → g.method = m → g.locals.size = c.maxLocals → decode c.code g.pc = .ok (ig, len) →
    2 * g.monitorRoom + (g.stack.map fun v => v.category).sum ≤ W9 → A.U.methodNamed? y = some mk → Pre A a →
    (∃ (v : Option Value) (B : Pt), Stand p l e R s m sargs below meth c B.U B.locs B.cells B.slots ∧ Post A a v B ∧
      Steps p.tables e below (doInvoke e (A.U.setTop g) [] mk a).1 (B.U.setTop { g with pc := g.pc + len, stack := v.toList ++ g.stack })) ∨
    (∃ (q : Addr) (B : Pt), Stand p l e R s m sargs below meth c B.U B.locs B.cells B.slots ∧ PostX A a q B ∧
      Steps p.tables e below (doInvoke e (A.U.setTop g) [] mk a).1 ((B.U.setTop g).pushFrame (.throwing q)))
section Payer
variable {l : Launch} {R : Room} {p : Program} {e : Env} {below : List Frame} {s : State} {sargs : Array Value} {y : MethodName} {len W9 : Nat}
theorem vx_back {ws : List Cond} {rm : Room} {Pc : Array Value → State → Prop} {Qc : Array Value → State → Outcome → State → Prop} {XC : String → State → State → Prop} {mc ms : Nat} {free : Addr → Prop} {bytes : ByteArray} {maxL : Nat} {ret : Option FieldType}
    (hM : vx_Met l y ws rm Pc Qc XC mc ms free) (hblind : FrameBlind Pc) (hrc : rm.cells = mc) (hrs : rm.slots = ms)
    (hframes : rm.frames + 1 ≤ R.frames) (hlocals : W9 + (maxL + 11) + rm.locals ≤ R.locals)
    (hws : ∀ w ∈ ws, ∀ a' U, s.WarmedH U.vm → w.before a' U = true) (hcode : Cond.code y bytes maxL ret ∈ ws) (hinit : ∀ a' U, s.WarmedH U.vm → (Cond.initialized y.cls).before a' U = true) :
    vx_Back l R p e below s sargs y len W9 (PreOf R mc ms Pc) (PostOf Qc mc ms free) (vx_Post XC mc ms free) := by
  intro m meth c A g ig mk a X hg hsize hdg hW hn hp
  have h1 : (headSpec ws rm).pre.before a A.U = true := atoms_intro fun w hw => hws w hw _ _ X.warmed
  have h2 : (Cond.code y bytes maxL ret).before a A.U = true := hws _ hcode _ _ X.warmed
  have h3 : (Cond.initialized y.cls).before a A.U = true := hinit _ _ X.warmed
  have h4 : A.cells + (headSpec ws rm).room.cells ≤ R.cells := by rw [show (headSpec ws rm).room.cells = mc from hrc]; exact hp.1
  have h5 : A.slots + (headSpec ws rm).room.slots ≤ R.slots := by rw [show (headSpec ws rm).room.slots = ms from hrs]; exact hp.2.1
  have hPc : Pc a (A.U.calling g mk a) := hblind _ _ _ _ hp.2.2
  obtain ⟨U, Ls, c0, s0⟩ := A
  dsimp only [Pt.U, Pt.locs, Pt.cells, Pt.slots] at h1 h2 h3 h4 h5 X hn hPc ⊢
  obtain ⟨methY, cY, hmY, hcY, -, hlY, -, -, -, -⟩ := Cond.code_spec hn h2
  obtain ⟨kY, hkY, -⟩ := className_of_methodNamed hn
  have hinitY : kY.init = .initialized := Cond.initialized_spec (findClass_of_methodNamed hn) hkY h3
  have h : At U g.method c below := by rw [hg]; exact X.here
  have hlocals9 : W9 + (maxL + 11) + (headSpec ws rm).room.locals ≤ R.locals := hlocals
  have happ : (headSpec ws rm).appliesLoose y e.platform (U.calling g mk a) = true :=
    Spec.appliesLoose_calling (g := g) h hdg hn hkY hinitY
      (X.room_calling (g := g) (R' := (headSpec ws rm).room) hsize hmY hcY hframes (by rw [hlY]; omega) h4 h5) h1
  obtain ⟨mid, hmid⟩ := h.above
  have hfr : (U.setTop g).frames = (.java g :: mid) ++ below := by rw [State.frames_setTop' g h.top, hmid]; rfl
  obtain ⟨o, s₂, hsteps, -, hend, hq⟩ := Steps.callFree hM p X.admits X.cas X.clock (acts := []) hfr happ hPc trivial
  have hq' : vx_Q Qc XC mc ms free a (U.calling g mk a) o s₂ := hq
  rw [State.frames_setTop' g h.top] at hend
  obtain ⟨g₀, hg0⟩ := Option.isSome_iff_exists.mp h.top
  obtain ⟨r, hr⟩ := State.topJava?_eq_some.mp hg0
  have hr' : (({ U with heap := s₂.heap, slotsUsed := s₂.slotsUsed } : State).setVm s₂.vm).frames = .java g₀ :: r := hr
  rcases hq' with ⟨hqc, L, hfe, hL⟩ | ⟨q, rfl, E, ce, L, hx, hce, hcv, hcl, hW₂, hsm, hL⟩
  · obtain ⟨⟨v, rfl⟩, hW₂, e2, q2, q3, q4, q5, q6⟩ := id hfe
    have e3 : s₂ = ({ (U.calling g mk a).setFrames s₂.frames with heap := s₂.heap, slotsUsed := s₂.slotsUsed } : State).setVm s₂.vm := by
      have : s₂ = ({ s₂ with vm := (U.calling g mk a).vm } : State).setVm s₂.vm := rfl
      rw [e2] at this
      exact this
    obtain ⟨c₂, i₂, len₂, hc₂, hd₂, hf₂⟩ := hend
    have hW' : U.WarmedH s₂.vm := hW₂
    have hcc : c₂ = c := by
      have h1 : s₂.code? g.method = U.code? g.method := by
        rw [State.code?_eq, State.code?_eq, hW'.alike.method?]
      exact Option.some.inj (hc₂.symm.trans (h1.trans h.code))
    subst hcc
    have hlen : len₂ = len := by rw [hdg] at hd₂; cases hd₂; rfl
    subst hlen
    have hs₂ : s₂ = (({ U with heap := s₂.heap, slotsUsed := s₂.slotsUsed } : State).setVm s₂.vm).setTop { g with pc := g.pc + len₂, stack := v.toList ++ g.stack } := by
      refine e3.trans ?_
      rw [hf₂, State.calling_eq h.top, State.setFrames_setFrames, State.setTop_of_frames _ hr', hr]
      rfl
    have hsame : U.sameButNew ({ U with heap := s₂.heap, slotsUsed := s₂.slotsUsed } : State) L mc ms := by
      refine ⟨?_, q2, q3, q4, q5, q6⟩
      obtain ⟨t, ht, -⟩ := State.frames_cons hr
      show ({ U with heap := s₂.heap, slotsUsed := s₂.slotsUsed } : State) = { U.setFrames U.frames with heap := s₂.heap, slotsUsed := s₂.slotsUsed }
      rw [State.setFrames_self ht]
    subst hg
    refine Or.inl ⟨v, ⟨(({ U with heap := s₂.heap, slotsUsed := s₂.slotsUsed } : State).setVm s₂.vm), Ls ++ L, c0 + mc, s0 + ms⟩,
      ⟨X.admits, X.cas, X.clock, X.frames, X.room, X.hears, X.method, X.code, (X.here.setHeapUsed s₂.heap s₂.slotsUsed).setVm hW'.alike, X.tail, State.WarmedH.trans X.warmed hW', X.limits, X.bytes, X.same.trans (hsame.setVm s.vm)⟩,
      ⟨g, mk, s₂, L, rfl, rfl, hqc, rfl, hL, rfl, rfl⟩, ?_⟩
    show Steps p.tables e below _ ((({ U with heap := s₂.heap, slotsUsed := s₂.slotsUsed } : State).setVm s₂.vm).setTop { g with pc := g.pc + len₂, stack := v.toList ++ g.stack })
    rw [← hs₂]
    exact hsteps
  · obtain ⟨e2, q2, q3, q4, q5, q6⟩ := id hsm
    have e3 : s₂ = ({ (U.calling g mk a).setFrames s₂.frames with heap := s₂.heap, slotsUsed := s₂.slotsUsed } : State).setVm s₂.vm := by
      have : s₂ = ({ s₂ with vm := (U.calling g mk a).vm } : State).setVm s₂.vm := rfl
      rw [e2] at this
      exact this
    have hf₂ : s₂.frames = .throwing q :: .java g :: U.frames.tail := hend
    have hW' : U.WarmedH s₂.vm := hW₂
    have hs₂ : s₂ = ((({ U with heap := s₂.heap, slotsUsed := s₂.slotsUsed } : State).setVm s₂.vm).setTop g).pushFrame (.throwing q) := by
      refine e3.trans ?_
      rw [hf₂, State.calling_eq h.top, State.setFrames_setFrames, State.pushFrame, State.frames_setTop _ hr', State.setTop_of_frames _ hr', State.setFrames_setFrames, hr]
      rfl
    have hsame : U.sameButNew ({ U with heap := s₂.heap, slotsUsed := s₂.slotsUsed } : State) L mc ms := by
      refine ⟨?_, q2, q3, q4, q5, q6⟩
      obtain ⟨t, ht, -⟩ := State.frames_cons hr
      show ({ U with heap := s₂.heap, slotsUsed := s₂.slotsUsed } : State) = { U.setFrames U.frames with heap := s₂.heap, slotsUsed := s₂.slotsUsed }
      rw [State.setFrames_self ht]
    subst hg
    refine Or.inr ⟨q, ⟨(({ U with heap := s₂.heap, slotsUsed := s₂.slotsUsed } : State).setVm s₂.vm), Ls ++ L, c0 + mc, s0 + ms⟩,
      ⟨X.admits, X.cas, X.clock, X.frames, X.room, X.hears, X.method, X.code, (X.here.setHeapUsed s₂.heap s₂.slotsUsed).setVm hW'.alike, X.tail, State.WarmedH.trans X.warmed hW', X.limits, X.bytes, X.same.trans (hsame.setVm s.vm)⟩,
      ⟨g, mk, s₂, L, E, ce, rfl, rfl, hx, hce, hcv, hcl, rfl, hL, rfl, rfl⟩, ?_⟩
    show Steps p.tables e below _ (((({ U with heap := s₂.heap, slotsUsed := s₂.slotsUsed } : State).setVm s₂.vm).setTop g).pushFrame (.throwing q))
    rw [← hs₂]
    exact hsteps
end Payer
section Calls
variable {p : Program} {l : Launch} {e : Env} {R : Room} {s : State} {m : MethodId} {args : Array Value} {below : List Frame} {meth : Method} {c : Code} {T : State} {locs : List Loc} {cells slots : Nat}
theorem vx_callV (X : Stand p l e R s m args below meth c T locs cells slots) (hexec : p.tables.exec = Jvm.exec) {own C : String} {index : Nat} {y : MethodName} {bytes : ByteArray} {maxL : Nat} {ret : Option FieldType}
    (hown : s.vm.findClass own = some m.cls) (hlink : (Cond.methodLink own index y).before args s = true) (hinst : (Cond.instanceMethod y).before args s = true) (hsel : (Cond.selects C y y).before args s = true)
    (hcode : (Cond.code y bytes maxL ret).before args s = true) (hy : y.cls ≠ "java/lang/invoke/MethodHandle" ∧ y.cls ≠ "java/lang/invoke/VarHandle")
    {W9 : Nat} {Pre : Pt → Array Value → Prop} {Post : Pt → Array Value → Option Value → Pt → Prop} {PostX : Pt → Array Value → Addr → Pt → Prop} (hK : vx_Back l R p e below s args y 3 W9 Pre Post PostX)
    {b : Addr} {cellB : Cell} (hcell : T.heap[b]? = some cellB) (hobj : cellB.vm.isStatics = false) (hcls : s.vm.findClass C = some cellB.cls)
    {g : JFrame} (hg : g.method = m) (hsize : g.locals.size = c.maxLocals) {argsL rest : List Value} (hlen : ∀ sig, parseMethodDescriptor y.desc = some sig → argsL.length = sig.parameters.length)
    (hstack : g.stack = argsL.reverse ++ .ref b :: rest) (hW : 2 * g.monitorRoom + (rest.map fun v => v.category).sum ≤ W9) (hdg : decode c.code g.pc = .ok (.invokevirtual index, 3))
    (hpre : ∀ vm₁, s.WarmedH vm₁ → Pre ⟨T.setVm vm₁, locs, cells, slots⟩ (Value.ref b :: argsL).toArray) :
    (∃ (v : Option Value) (vm₁ : Vm) (B : Pt), s.WarmedH vm₁ ∧ Stand p l e R s m args below meth c B.U B.locs B.cells B.slots ∧ Post ⟨T.setVm vm₁, locs, cells, slots⟩ (Value.ref b :: argsL).toArray v B ∧
      ∀ target, Steps p.tables e below (B.U.setTop { g with pc := g.pc + 3, stack := v.toList ++ rest }) target → Steps p.tables e below (T.setTop g) target) ∨
    (∃ (q : Addr) (vm₁ : Vm) (B : Pt), s.WarmedH vm₁ ∧ Stand p l e R s m args below meth c B.U B.locs B.cells B.slots ∧ PostX ⟨T.setVm vm₁, locs, cells, slots⟩ (Value.ref b :: argsL).toArray q B ∧
      Steps p.tables e below (T.setTop g) ((B.U.setTop { g with stack := rest }).pushFrame (.throwing q))) := by
  obtain ⟨mk, methM, hnamed, hmethM, hstM, habM⟩ := Cond.instanceMethod_spec hinst
  obtain ⟨methM', cM, hmethM', -, -, -, -, -, -, hsigM⟩ := Cond.code_spec hnamed hcode
  cases hmethM.symm.trans hmethM'
  obtain ⟨c2, r2, m2, q1, q2, q3, q4, kP, hkP, hkPi⟩ := Cond.selects_spec hsel
  cases hcls.symm.trans q1
  cases (State.methodFound?_of_named hnamed hy).symm.trans q2
  cases hnamed.symm.trans q3
  have hselP : selectMethod e.platform s.vm cellB.cls mk = .method mk := by rw [Launch.admits_selectMethod X.admits]; exact q4
  obtain ⟨vm₁, X₁, hstep₁⟩ := X.invokevirtual hexec hown hlink hnamed hmethM hstM hkP hkPi hy (a := b) (cell := cellB) hcell
    (fun z h => by rw [h] at hobj; cases hobj) hselP hmethM habM hkP hkPi (g := g) hg (argsL := argsL) (rest := rest) (hlen _ hsigM) hstack hdg
  rcases hK m meth c ⟨T.setVm vm₁, locs, cells, slots⟩ { g with stack := rest } (.invokevirtual index) mk (Value.ref b :: argsL).toArray X₁ hg hsize hdg hW (X₁.named hnamed) (hpre vm₁ X₁.warmed) with ⟨v, B, X', hpost, hsteps⟩ | ⟨q, B, X', hpost, hsteps⟩
  · exact Or.inl ⟨v, vm₁, B, X₁.warmed, X', hpost, fun target h => hstep₁ _ fun acts => by rw [doInvoke_state]; exact hsteps.trans h⟩
  · exact Or.inr ⟨q, vm₁, B, X₁.warmed, X', hpost, hstep₁ _ fun acts => by rw [doInvoke_state]; exact hsteps⟩
theorem vx_callS (X : Stand p l e R s m args below meth c T locs cells slots) (hexec : p.tables.exec = Jvm.exec) {own : String} {index : Nat} {y : MethodName} {bytes : ByteArray} {maxL : Nat} {ret : Option FieldType}
    (hown : s.vm.findClass own = some m.cls) (hlink : (Cond.methodLink own index y).before args s = true) (hstat : (Cond.static y).before args s = true) (hinit : (Cond.initialized y.cls).before args s = true)
    (hcode : (Cond.code y bytes maxL ret).before args s = true) (hy : y.cls ≠ "java/lang/invoke/MethodHandle" ∧ y.cls ≠ "java/lang/invoke/VarHandle")
    {W9 : Nat} {Pre : Pt → Array Value → Prop} {Post : Pt → Array Value → Option Value → Pt → Prop} {PostX : Pt → Array Value → Addr → Pt → Prop} (hK : vx_Back l R p e below s args y 3 W9 Pre Post PostX)
    {g : JFrame} (hg : g.method = m) (hsize : g.locals.size = c.maxLocals) {argsL rest : List Value} (hlen : ∀ sig, parseMethodDescriptor y.desc = some sig → argsL.length = sig.parameters.length)
    (hstack : g.stack = argsL.reverse ++ rest) (hW : 2 * g.monitorRoom + (rest.map fun v => v.category).sum ≤ W9) (hdg : decode c.code g.pc = .ok (.invokestatic index, 3))
    (hpre : ∀ vm₁, s.WarmedH vm₁ → Pre ⟨T.setVm vm₁, locs, cells, slots⟩ argsL.toArray) :
    (∃ (v : Option Value) (vm₁ : Vm) (B : Pt), s.WarmedH vm₁ ∧ Stand p l e R s m args below meth c B.U B.locs B.cells B.slots ∧ Post ⟨T.setVm vm₁, locs, cells, slots⟩ argsL.toArray v B ∧
      ∀ target, Steps p.tables e below (B.U.setTop { g with pc := g.pc + 3, stack := v.toList ++ rest }) target → Steps p.tables e below (T.setTop g) target) ∨
    (∃ (q : Addr) (vm₁ : Vm) (B : Pt), s.WarmedH vm₁ ∧ Stand p l e R s m args below meth c B.U B.locs B.cells B.slots ∧ PostX ⟨T.setVm vm₁, locs, cells, slots⟩ argsL.toArray q B ∧
      Steps p.tables e below (T.setTop g) ((B.U.setTop { g with stack := rest }).pushFrame (.throwing q))) := by
  obtain ⟨mk, hnamed⟩ := Cond.code_named hcode
  obtain ⟨methM, cM, hmethM, -, -, -, -, -, -, hsigM⟩ := Cond.code_spec hnamed hcode
  have hstatic : methM.isStatic = true := Cond.static_spec hnamed hmethM hstat
  obtain ⟨kP, hkP, -⟩ := className_of_methodNamed hnamed
  have hinitP : kP.init = .initialized := Cond.initialized_spec (findClass_of_methodNamed hnamed) hkP hinit
  obtain ⟨vm₁, X₁, hstep₁⟩ := X.invokestatic hexec hown hlink hnamed hmethM hstatic hkP hinitP hy (g := g) hg (argsL := argsL) (rest := rest) (hlen _ hsigM) hstack hdg
  rcases hK m meth c ⟨T.setVm vm₁, locs, cells, slots⟩ { g with stack := rest } (.invokestatic index) mk argsL.toArray X₁ hg hsize hdg hW (X₁.named hnamed) (hpre vm₁ X₁.warmed) with ⟨v, B, X', hpost, hsteps⟩ | ⟨q, B, X', hpost, hsteps⟩
  · exact Or.inl ⟨v, vm₁, B, X₁.warmed, X', hpost, fun target h => hstep₁ _ fun acts => by rw [doInvoke_state]; exact hsteps.trans h⟩
  · exact Or.inr ⟨q, vm₁, B, X₁.warmed, X', hpost, hstep₁ _ fun acts => by rw [doInvoke_state]; exact hsteps⟩
end Calls
theorem vx_cls {s : State} {T : State} {vm₁ : Vm} {E : String} {k : ClassId} (hW : s.WarmedH vm₁) (h : (T.setVm vm₁).vm.findClass E = some k) : s.vm.findClass E = some k := by
  have h1 : vm₁.findClass E = some k := h
  rw [hW.alike.findClass] at h1
  exact h1
/-- the method's frame g, with q thrown over it -/
def vx_W (p : Program) (l : Launch) (e : Env) (R : Room) (s : State) (m : MethodId) (args : Array Value) (below : List Frame) (meth : Method) (c : Code) (H : Heap) (locs : List Loc) (cells slots : Nat) (Q : State → Prop) (g : JFrame) (q : Addr) : Prop :=
  ∀ T : State, T.heap = H → Stand p l e R s m args below meth c T locs cells slots → ∃ t, Steps p.tables e below ((T.setTop g).pushFrame (.throwing q)) t ∧ Q t
def vx_Run (p : Program) (l : Launch) (e : Env) (R : Room) (s : State) (m : MethodId) (args : Array Value) (below : List Frame) (meth : Method) (c : Code) (H : Heap) (locs : List Loc) (cells slots mc ms : Nat) (g : JFrame) (rest : List Value) (Qa : State → Outcome → State → Prop) (XC : String → State → State → Prop) (free : Addr → Prop) : Prop :=
  ∀ T : State, T.heap = H → Stand p l e R s m args below meth c T locs cells slots →
    (∃ (v : Option Value) (st₀ t T' : State) (L : List Loc), st₀.heap = H ∧ Stand p l e R s m args below meth c T' (locs ++ L) (cells + mc) (slots + ms) ∧ (∀ q ∈ L, free q.base) ∧ T'.heap = t.heap ∧ T'.vm = t.vm ∧ Qa st₀ (.returned v) t ∧
      Goes p e below T g T' { g with pc := g.pc + 3, stack := v.toList ++ rest }) ∨
    (∃ (q : Addr) (st₀ t T' : State) (L : List Loc) (E : String) (ce : Cell), st₀.heap = H ∧ Stand p l e R s m args below meth c T' (locs ++ L) (cells + mc) (slots + ms) ∧ (∀ z ∈ L, free z.base) ∧ T'.heap = t.heap ∧ T'.vm = t.vm ∧ XC E st₀ t ∧ t.heap[q]? = some ce ∧ ce.vm = .none ∧ s.vm.findClass E = some ce.cls ∧
      Steps p.tables e below (T.setTop g) ((T'.setTop { g with stack := rest }).pushFrame (.throwing q)))
def vx_X {S : Type} (px : S → Prop) (B : String → S → State → Prop) (A : Nat → Prop) : String → State → State → Prop := fun E st t => ∃ u : S, px u ∧ B E u t ∧ va_F A st t
section Runs
variable {p : Program} {l : Launch} {e : Env} {R : Room} {s : State} {m : MethodId} {args : Array Value} {below : List Frame} {meth : Method} {c : Code} {H : Heap} {locs : List Loc} {cells slots : Nat}
variable {y : MethodName} {bytes cc : ByteArray} {maxL nL mc ms n index : Nat} {ret : Option FieldType} {ws : List Cond} {rm : Room} {Pc : Array Value → State → Prop} {Qc : Array Value → State → Outcome → State → Prop} {XC : String → State → State → Prop} {free : Addr → Prop} {Ts : List Cond} {own C : String} {b : Addr} {As rest : List Value} {g : JFrame}
theorem vx_callBack (cb : CallB R s args own index y bytes maxL ret ws rm mc ms n) (hM : vx_Met l y ws rm Pc Qc XC mc ms free) (hbl : FrameBlind Pc) : vx_Back l R p e below s args y 3 8 (PreOf R mc ms Pc) (PostOf Qc mc ms free) (vx_Post XC mc ms free) := by
  obtain ⟨hrc, hrs, hfr, hlo, hws, hcw, -, hini, -⟩ := cb
  exact vx_back (bytes := bytes) (maxL := maxL) (ret := ret) hM hbl hrc hrs hfr hlo hws hcw (fun a' U hW => word_at hW (Or.inl (by first | rfl | simp [Cond.onTables, Cond.keeps, Cond.steady])) hini)
theorem vx_runV (S : CallFix p m c cc nL s args Ts own) (hM : vx_Met l y ws rm Pc Qc XC mc ms free) (cw : CallW R s args own C index y bytes maxL ret ws rm mc ms n) (hp : PreV s H C b Pc As)
    (hg : g.method = m) (hn : As.length = n) (hsize : g.locals.size = nL) (hstack : g.stack = As.reverse ++ .ref b :: rest) (hW : 2 * g.monitorRoom + (rest.map fun v => v.category).sum ≤ 8) (hdg : decode cc g.pc = .ok (.invokevirtual index, 3)) (hf : cells + mc ≤ R.cells ∧ slots + ms ≤ R.slots) :
    vx_Run p l e R s m args below meth c H locs cells slots mc ms g rest (Qc (Value.ref b :: As).toArray) XC free := by
  have hK : vx_Back l R p e below s args y 3 8 (PreOf R mc ms Pc) (PostOf Qc mc ms free) (vx_Post XC mc ms free) := vx_callBack cw.1 hM hp.1
  obtain ⟨⟨-, -, -, -, -, -, hcode, -, hy, hlen, hl⟩, hin, hse⟩ := cw
  obtain ⟨hx, hb, hml, ho, -⟩ := S
  obtain ⟨-, ⟨cellB, hcB, hoB, hclB⟩, hPc⟩ := hp
  intro T hT X
  rcases vx_callV X hx (C := C) (bytes := bytes) (maxL := maxL) (ret := ret) ho hl hin hse hcode hy hK (by rw [hT]; exact hcB) hoB hclB hg (hsize.trans hml.symm) (argsL := As) (rest := rest) (fun sig h => hn.trans (hlen sig h)) hstack hW (by rw [hb]; exact hdg)
    (fun vm₁ hW₁ => ⟨hf.1, hf.2, hPc (T.setVm vm₁) hT hW₁⟩) with ⟨v, vm₁, ⟨U', l2, c2, s2⟩, hW₁, X', ⟨g', mk, t, L, e1, e2, hq, h1, hL, h2, h3⟩, st⟩ | ⟨q, vm₁, ⟨U', l2, c2, s2⟩, hW₁, X', ⟨g', mk, t, L, E, ce, e1, e2, hq, hce, hcv, hcl, h1, hL, h2, h3⟩, st⟩
  · dsimp only [Pt.U, Pt.locs, Pt.cells, Pt.slots] at X' e1 e2 h1 h2 h3 st
    subst h1; subst h2; subst h3
    exact Or.inl ⟨v, (T.setVm vm₁).calling g' mk (Value.ref b :: As).toArray, t, U', L, hT, X', hL, e1, e2, hq, st⟩
  · dsimp only [Pt.U, Pt.locs, Pt.cells, Pt.slots] at X' e1 e2 h1 h2 h3 st hcl
    subst h1; subst h2; subst h3
    exact Or.inr ⟨q, (T.setVm vm₁).calling g' mk (Value.ref b :: As).toArray, t, U', L, E, ce, hT, X', hL, e1, e2, hq, hce, hcv, vx_cls hW₁ hcl, st⟩
theorem vx_runS (S : CallFix p m c cc nL s args Ts own) (hM : vx_Met l y ws rm Pc Qc XC mc ms free) (cw : CallB R s args own index y bytes maxL ret ws rm mc ms n ∧ (Cond.static y).before args s = true) (hp : PreS s H Pc As)
    (hg : g.method = m) (hn : As.length = n) (hsize : g.locals.size = nL) (hstack : g.stack = As.reverse ++ rest) (hW : 2 * g.monitorRoom + (rest.map fun v => v.category).sum ≤ 8) (hdg : decode cc g.pc = .ok (.invokestatic index, 3)) (hf : cells + mc ≤ R.cells ∧ slots + ms ≤ R.slots) :
    vx_Run p l e R s m args below meth c H locs cells slots mc ms g rest (Qc As.toArray) XC free := by
  have hK : vx_Back l R p e below s args y 3 8 (PreOf R mc ms Pc) (PostOf Qc mc ms free) (vx_Post XC mc ms free) := vx_callBack cw.1 hM hp.1
  obtain ⟨⟨-, -, -, -, -, -, hcode, hini, hy, hlen, hl⟩, hstt⟩ := cw
  obtain ⟨hx, hb, hml, ho, -⟩ := S
  intro T hT X
  rcases vx_callS X hx (bytes := bytes) (maxL := maxL) (ret := ret) ho hl hstt hini hcode hy hK hg (hsize.trans hml.symm) (argsL := As) (rest := rest) (fun sig h => hn.trans (hlen sig h)) hstack hW (by rw [hb]; exact hdg)
    (fun vm₁ hW₁ => ⟨hf.1, hf.2, hp.2 (T.setVm vm₁) hT hW₁⟩) with ⟨v, vm₁, ⟨U', l2, c2, s2⟩, hW₁, X', ⟨g', mk, t, L, e1, e2, hq, h1, hL, h2, h3⟩, st⟩ | ⟨q, vm₁, ⟨U', l2, c2, s2⟩, hW₁, X', ⟨g', mk, t, L, E, ce, e1, e2, hq, hce, hcv, hcl, h1, hL, h2, h3⟩, st⟩
  · dsimp only [Pt.U, Pt.locs, Pt.cells, Pt.slots] at X' e1 e2 h1 h2 h3 st
    subst h1; subst h2; subst h3
    exact Or.inl ⟨v, (T.setVm vm₁).calling g' mk As.toArray, t, U', L, hT, X', hL, e1, e2, hq, st⟩
  · dsimp only [Pt.U, Pt.locs, Pt.cells, Pt.slots] at X' e1 e2 h1 h2 h3 st hcl
    subst h1; subst h2; subst h3
    exact Or.inr ⟨q, (T.setVm vm₁).calling g' mk As.toArray, t, U', L, E, ce, hT, X', hL, e1, e2, hq, hce, hcv, vx_cls hW₁ hcl, st⟩
end Runs
section Rows
variable {p : Program} {l : Launch} {e : Env} {R : Room} {s : State} {m : MethodId} {args : Array Value} {below : List Frame} {meth : Method} {c : Code} {H : Heap} {locs : List Loc} {cells slots : Nat} {Q : State → Prop}
variable {mc ms : Nat} {free : Addr → Prop} {A0 A1 : Nat → Prop} {H0 : Heap} {a : Array Value} {pc : Nat} {ls : Array Slot} {st0 rest : List Value}
theorem vx_keep {st₀ t T' : State} {L : List Loc} (h0 : st₀.heap = H) (e1 : T'.heap = t.heap) (hS : va_S A0 H0 H locs) (hA : ∀ q, q < H.size → A1 q → A0 q) (hf : ∀ q, free q → A0 q) (hL : ∀ q ∈ L, free q.base) (hF : va_F A1 st₀ t) :
    H.size ≤ T'.heap.size ∧ (∀ q : Nat, q < H.size → ¬ A1 q → T'.heap[q]? = H[q]?) ∧ va_S A0 H0 T'.heap (locs ++ L) := by
  obtain ⟨hz, hk⟩ := hF
  rw [h0] at hz hk
  exact ⟨by rw [e1]; exact hz, fun q h1 h2 => by rw [e1]; exact hk q h1 h2,
    ⟨Nat.le_trans hS.1 (by rw [e1]; exact hz), fun q h1 h2 => by rw [e1, hk q (Nat.lt_of_lt_of_le h1 hS.1) (fun z => h2 (hA q (Nat.lt_of_lt_of_le h1 hS.1) z))]; exact hS.2.1 q h1 h2, fun q hq => by
      rcases List.mem_append.mp hq with h | h
      · exact hS.2.2 q h
      · exact hf _ (hL q h)⟩⟩
theorem vx_calli {S SX : Type} {post : Int32 → S → Prop} {px : SX → Prop} {B : S → State → Prop} {BX : String → SX → State → Prop} {AX : Nat → Prop} (hr : vx_Run p l e R s m args below meth c H locs cells slots mc ms (F0 m pc ls st0) rest (va_Qi post B A1 a) (vx_X px BX AX) free) (hS : va_S A0 H0 H locs) (hA : ∀ q, q < H.size → A1 q → A0 q) (hf : ∀ q, free q → A0 q) (hAX : ∀ q, q < H.size → AX q → A0 q)
    (kx : ∀ (E : String) (ce : Cell) (q9 : Addr) (u : SX) (t : State) (H1 : Heap) (locs1 : List Loc), t.heap = H1 → s.vm.Alike t.vm → px u → BX E u t → H.size ≤ H1.size → (∀ q : Nat, q < H.size → ¬ AX q → H1[q]? = H[q]?) → va_S A0 H0 H1 locs1 → H1[q9]? = some ce → ce.vm = .none → s.vm.findClass E = some ce.cls → vx_W p l e R s m args below meth c H1 locs1 (cells + mc) (slots + ms) Q (F0 m pc ls rest) q9)
    (kk : ∀ (r : Int32) (u : S) (t : State) (H1 : Heap) (locs1 : List Loc), t.heap = H1 → s.vm.Alike t.vm → post r u → B u t → H.size ≤ H1.size → (∀ q : Nat, q < H.size → ¬ A1 q → H1[q]? = H[q]?) → va_S A0 H0 H1 locs1 → W p l e R s m args below meth c H1 locs1 (cells + mc) (slots + ms) Q (F0 m (pc + 3) ls (.int r :: rest))) : W p l e R s m args below meth c H locs cells slots Q (F0 m pc ls st0) := by
  intro T hT X
  rcases hr T hT X with ⟨v, st₀, t, T', L, h0, X', hL, e1, e2, ⟨⟨r, u, hv, hp, hb⟩, hF⟩, st⟩ | ⟨q, st₀, t, T', L, E, ce, h0, X', hL, e1, e2, ⟨u, hp, hb, hF⟩, hce, hcv, hcl, st⟩
  · cases hv
    obtain ⟨k1, k2, k3⟩ := vx_keep h0 e1 hS hA hf hL hF
    obtain ⟨t2, a1, b1⟩ := kk r u t T'.heap (locs ++ L) e1.symm (by rw [← e2]; exact X'.warmed.alike) hp hb k1 k2 k3 T' rfl X'
    exact ⟨t2, st t2 a1, b1⟩
  · obtain ⟨k1, k2, k3⟩ := vx_keep h0 e1 hS hAX hf hL hF
    obtain ⟨t2, a1, b1⟩ := kx E ce q u t T'.heap (locs ++ L) e1.symm (by rw [← e2]; exact X'.warmed.alike) hp hb k1 k2 k3 (by rw [e1]; exact hce) hcv hcl T' rfl X'
    exact ⟨t2, st.trans a1, b1⟩
theorem vx_calll {S SX : Type} {post : Int64 → S → Prop} {px : SX → Prop} {B : S → State → Prop} {BX : String → SX → State → Prop} {AX : Nat → Prop} (hr : vx_Run p l e R s m args below meth c H locs cells slots mc ms (F0 m pc ls st0) rest (va_Ql post B A1 a) (vx_X px BX AX) free) (hS : va_S A0 H0 H locs) (hA : ∀ q, q < H.size → A1 q → A0 q) (hf : ∀ q, free q → A0 q) (hAX : ∀ q, q < H.size → AX q → A0 q)
    (kx : ∀ (E : String) (ce : Cell) (q9 : Addr) (u : SX) (t : State) (H1 : Heap) (locs1 : List Loc), t.heap = H1 → s.vm.Alike t.vm → px u → BX E u t → H.size ≤ H1.size → (∀ q : Nat, q < H.size → ¬ AX q → H1[q]? = H[q]?) → va_S A0 H0 H1 locs1 → H1[q9]? = some ce → ce.vm = .none → s.vm.findClass E = some ce.cls → vx_W p l e R s m args below meth c H1 locs1 (cells + mc) (slots + ms) Q (F0 m pc ls rest) q9)
    (kk : ∀ (r : Int64) (u : S) (t : State) (H1 : Heap) (locs1 : List Loc), t.heap = H1 → s.vm.Alike t.vm → post r u → B u t → H.size ≤ H1.size → (∀ q : Nat, q < H.size → ¬ A1 q → H1[q]? = H[q]?) → va_S A0 H0 H1 locs1 → W p l e R s m args below meth c H1 locs1 (cells + mc) (slots + ms) Q (F0 m (pc + 3) ls (.long r :: rest))) : W p l e R s m args below meth c H locs cells slots Q (F0 m pc ls st0) := by
  intro T hT X
  rcases hr T hT X with ⟨v, st₀, t, T', L, h0, X', hL, e1, e2, ⟨⟨r, u, hv, hp, hb⟩, hF⟩, st⟩ | ⟨q, st₀, t, T', L, E, ce, h0, X', hL, e1, e2, ⟨u, hp, hb, hF⟩, hce, hcv, hcl, st⟩
  · cases hv
    obtain ⟨k1, k2, k3⟩ := vx_keep h0 e1 hS hA hf hL hF
    obtain ⟨t2, a1, b1⟩ := kk r u t T'.heap (locs ++ L) e1.symm (by rw [← e2]; exact X'.warmed.alike) hp hb k1 k2 k3 T' rfl X'
    exact ⟨t2, st t2 a1, b1⟩
  · obtain ⟨k1, k2, k3⟩ := vx_keep h0 e1 hS hAX hf hL hF
    obtain ⟨t2, a1, b1⟩ := kx E ce q u t T'.heap (locs ++ L) e1.symm (by rw [← e2]; exact X'.warmed.alike) hp hb k1 k2 k3 (by rw [e1]; exact hce) hcv hcl T' rfl X'
    exact ⟨t2, st.trans a1, b1⟩
theorem vx_callf {S SX : Type} {post : UInt32 → S → Prop} {px : SX → Prop} {B : S → State → Prop} {BX : String → SX → State → Prop} {AX : Nat → Prop} (hr : vx_Run p l e R s m args below meth c H locs cells slots mc ms (F0 m pc ls st0) rest (va_Qf post B A1 a) (vx_X px BX AX) free) (hS : va_S A0 H0 H locs) (hA : ∀ q, q < H.size → A1 q → A0 q) (hf : ∀ q, free q → A0 q) (hAX : ∀ q, q < H.size → AX q → A0 q)
    (kx : ∀ (E : String) (ce : Cell) (q9 : Addr) (u : SX) (t : State) (H1 : Heap) (locs1 : List Loc), t.heap = H1 → s.vm.Alike t.vm → px u → BX E u t → H.size ≤ H1.size → (∀ q : Nat, q < H.size → ¬ AX q → H1[q]? = H[q]?) → va_S A0 H0 H1 locs1 → H1[q9]? = some ce → ce.vm = .none → s.vm.findClass E = some ce.cls → vx_W p l e R s m args below meth c H1 locs1 (cells + mc) (slots + ms) Q (F0 m pc ls rest) q9)
    (kk : ∀ (r : UInt32) (u : S) (t : State) (H1 : Heap) (locs1 : List Loc), t.heap = H1 → s.vm.Alike t.vm → post r u → B u t → H.size ≤ H1.size → (∀ q : Nat, q < H.size → ¬ A1 q → H1[q]? = H[q]?) → va_S A0 H0 H1 locs1 → W p l e R s m args below meth c H1 locs1 (cells + mc) (slots + ms) Q (F0 m (pc + 3) ls (.float r :: rest))) : W p l e R s m args below meth c H locs cells slots Q (F0 m pc ls st0) := by
  intro T hT X
  rcases hr T hT X with ⟨v, st₀, t, T', L, h0, X', hL, e1, e2, ⟨⟨r, u, hv, hp, hb⟩, hF⟩, st⟩ | ⟨q, st₀, t, T', L, E, ce, h0, X', hL, e1, e2, ⟨u, hp, hb, hF⟩, hce, hcv, hcl, st⟩
  · cases hv
    obtain ⟨k1, k2, k3⟩ := vx_keep h0 e1 hS hA hf hL hF
    obtain ⟨t2, a1, b1⟩ := kk r u t T'.heap (locs ++ L) e1.symm (by rw [← e2]; exact X'.warmed.alike) hp hb k1 k2 k3 T' rfl X'
    exact ⟨t2, st t2 a1, b1⟩
  · obtain ⟨k1, k2, k3⟩ := vx_keep h0 e1 hS hAX hf hL hF
    obtain ⟨t2, a1, b1⟩ := kx E ce q u t T'.heap (locs ++ L) e1.symm (by rw [← e2]; exact X'.warmed.alike) hp hb k1 k2 k3 (by rw [e1]; exact hce) hcv hcl T' rfl X'
    exact ⟨t2, st.trans a1, b1⟩
theorem vx_calld {S SX : Type} {post : UInt64 → S → Prop} {px : SX → Prop} {B : S → State → Prop} {BX : String → SX → State → Prop} {AX : Nat → Prop} (hr : vx_Run p l e R s m args below meth c H locs cells slots mc ms (F0 m pc ls st0) rest (va_Qd post B A1 a) (vx_X px BX AX) free) (hS : va_S A0 H0 H locs) (hA : ∀ q, q < H.size → A1 q → A0 q) (hf : ∀ q, free q → A0 q) (hAX : ∀ q, q < H.size → AX q → A0 q)
    (kx : ∀ (E : String) (ce : Cell) (q9 : Addr) (u : SX) (t : State) (H1 : Heap) (locs1 : List Loc), t.heap = H1 → s.vm.Alike t.vm → px u → BX E u t → H.size ≤ H1.size → (∀ q : Nat, q < H.size → ¬ AX q → H1[q]? = H[q]?) → va_S A0 H0 H1 locs1 → H1[q9]? = some ce → ce.vm = .none → s.vm.findClass E = some ce.cls → vx_W p l e R s m args below meth c H1 locs1 (cells + mc) (slots + ms) Q (F0 m pc ls rest) q9)
    (kk : ∀ (r : UInt64) (u : S) (t : State) (H1 : Heap) (locs1 : List Loc), t.heap = H1 → s.vm.Alike t.vm → post r u → B u t → H.size ≤ H1.size → (∀ q : Nat, q < H.size → ¬ A1 q → H1[q]? = H[q]?) → va_S A0 H0 H1 locs1 → W p l e R s m args below meth c H1 locs1 (cells + mc) (slots + ms) Q (F0 m (pc + 3) ls (.double r :: rest))) : W p l e R s m args below meth c H locs cells slots Q (F0 m pc ls st0) := by
  intro T hT X
  rcases hr T hT X with ⟨v, st₀, t, T', L, h0, X', hL, e1, e2, ⟨⟨r, u, hv, hp, hb⟩, hF⟩, st⟩ | ⟨q, st₀, t, T', L, E, ce, h0, X', hL, e1, e2, ⟨u, hp, hb, hF⟩, hce, hcv, hcl, st⟩
  · cases hv
    obtain ⟨k1, k2, k3⟩ := vx_keep h0 e1 hS hA hf hL hF
    obtain ⟨t2, a1, b1⟩ := kk r u t T'.heap (locs ++ L) e1.symm (by rw [← e2]; exact X'.warmed.alike) hp hb k1 k2 k3 T' rfl X'
    exact ⟨t2, st t2 a1, b1⟩
  · obtain ⟨k1, k2, k3⟩ := vx_keep h0 e1 hS hAX hf hL hF
    obtain ⟨t2, a1, b1⟩ := kx E ce q u t T'.heap (locs ++ L) e1.symm (by rw [← e2]; exact X'.warmed.alike) hp hb k1 k2 k3 (by rw [e1]; exact hce) hcv hcl T' rfl X'
    exact ⟨t2, st.trans a1, b1⟩
theorem vx_callv {S SX : Type} {post : S → Prop} {px : SX → Prop} {B : S → State → Prop} {BX : String → SX → State → Prop} {AX : Nat → Prop} (hr : vx_Run p l e R s m args below meth c H locs cells slots mc ms (F0 m pc ls st0) rest (va_Qv post B A1 a) (vx_X px BX AX) free) (hS : va_S A0 H0 H locs) (hA : ∀ q, q < H.size → A1 q → A0 q) (hf : ∀ q, free q → A0 q) (hAX : ∀ q, q < H.size → AX q → A0 q)
    (kx : ∀ (E : String) (ce : Cell) (q9 : Addr) (u : SX) (t : State) (H1 : Heap) (locs1 : List Loc), t.heap = H1 → s.vm.Alike t.vm → px u → BX E u t → H.size ≤ H1.size → (∀ q : Nat, q < H.size → ¬ AX q → H1[q]? = H[q]?) → va_S A0 H0 H1 locs1 → H1[q9]? = some ce → ce.vm = .none → s.vm.findClass E = some ce.cls → vx_W p l e R s m args below meth c H1 locs1 (cells + mc) (slots + ms) Q (F0 m pc ls rest) q9)
    (kk : ∀ (u : S) (t : State) (H1 : Heap) (locs1 : List Loc), t.heap = H1 → s.vm.Alike t.vm → post u → B u t → H.size ≤ H1.size → (∀ q : Nat, q < H.size → ¬ A1 q → H1[q]? = H[q]?) → va_S A0 H0 H1 locs1 → W p l e R s m args below meth c H1 locs1 (cells + mc) (slots + ms) Q (F0 m (pc + 3) ls (rest))) : W p l e R s m args below meth c H locs cells slots Q (F0 m pc ls st0) := by
  intro T hT X
  rcases hr T hT X with ⟨v, st₀, t, T', L, h0, X', hL, e1, e2, ⟨⟨u, hv, hp, hb⟩, hF⟩, st⟩ | ⟨q, st₀, t, T', L, E, ce, h0, X', hL, e1, e2, ⟨u, hp, hb, hF⟩, hce, hcv, hcl, st⟩
  · cases hv
    obtain ⟨k1, k2, k3⟩ := vx_keep h0 e1 hS hA hf hL hF
    obtain ⟨t2, a1, b1⟩ := kk u t T'.heap (locs ++ L) e1.symm (by rw [← e2]; exact X'.warmed.alike) hp hb k1 k2 k3 T' rfl X'
    exact ⟨t2, st t2 a1, b1⟩
  · obtain ⟨k1, k2, k3⟩ := vx_keep h0 e1 hS hAX hf hL hF
    obtain ⟨t2, a1, b1⟩ := kx E ce q u t T'.heap (locs ++ L) e1.symm (by rw [← e2]; exact X'.warmed.alike) hp hb k1 k2 k3 (by rw [e1]; exact hce) hcv hcl T' rfl X'
    exact ⟨t2, st.trans a1, b1⟩
/-- caught by the row x of this method's table; the rows ahead don't take it -/
theorem vx_catch {own name : String} {E : String} {ce : Cell} {q : Addr} (hown : s.vm.findClass own = some m.cls) (pre : List ExceptionTableEntry) (x : ExceptionTableEntry) (suf : List ExceptionTableEntry) (hsplit : c.exceptionTable.toList = pre ++ x :: suf)
    (hpass : ∀ z ∈ pre, covers z pc = false ∨ (z.catchType ≠ 0 ∧ ∃ nm : String, (Cond.classLink own z.catchType nm).before args s = true ∧ va_Nc E nm s)) (hx : covers x pc = true) (h0 : x.catchType ≠ 0)
    (hlink : (Cond.classLink own x.catchType name).before args s = true) (hcast : (Cond.castable E name).before args s = true) (hcell : H[q]? = some ce) (hv : ce.vm = .none) (hcl : s.vm.findClass E = some ce.cls)
    (kk : W p l e R s m args below meth c H locs cells slots Q (F0 m x.handlerPc ls [.ref q])) : vx_W p l e R s m args below meth c H locs cells slots Q (F0 m pc ls rest) q := by
  intro T hT X
  have hpl : e.platform.magicAccessors = ({} : Platform).magicAccessors := by rw [X.admits.platform]
  obtain ⟨c3, c4, hc3, hc4, hasg⟩ := Cond.castable_spec hcast
  cases Option.some.inj (hc3.symm.trans hcl)
  obtain ⟨c5, hc5, hcl5⟩ := Cond.classLink_spec hown hlink e.platform hpl
  cases Option.some.inj (hc4.symm.trans hc5)
  obtain ⟨vm', X', st⟩ := X.thenCaughtThrough q (g := F0 m pc ls rest) rfl (Steps.refl _) (by rw [hT]; exact hcell) (by rw [hv]; rfl) (by obtain ⟨k9, h9, -⟩ := Vm.findClass_spec hcl; exact ⟨k9, h9⟩) pre x suf hsplit
    (fun z hz => by
      rcases hpass z hz with h | ⟨hz0, nm, hl1, hn1⟩
      · exact Or.inl h
      · obtain ⟨c6, hc6, hcl6⟩ := Cond.classLink_spec hown hl1 e.platform hpl
        obtain ⟨a8, b8, h1, h2, h3⟩ := hn1
        cases Option.some.inj (h1.symm.trans hcl)
        cases Option.some.inj (h2.symm.trans hc6)
        exact Or.inr ⟨hz0, _, hcl6, h3⟩) hx (Or.inr ⟨h0, c4, hcl5, hasg⟩)
  obtain ⟨t, a1, b1⟩ := kk (T.setVm vm') hT X'
  exact ⟨t, st.trans a1, b1⟩
end Rows
section Ends
variable {p : Program} {l : Launch} {e : Env} {R : Room} {s : State} {m : MethodId} {args : Array Value} {below : List Frame} {meth : Method} {c : Code} {H : Heap} {locs : List Loc} {cells slots : Nat} {Q : State → Prop}
variable {mc ms : Nat} {free : Addr → Prop} {A0 A1 : Nat → Prop} {H0 : Heap} {a : Array Value} {ls : Array Slot} {st0 rest : List Value}
variable {Qc : Array Value → State → Outcome → State → Prop} {XC : String → State → State → Prop}
/-- what a body that may throw owes at its end -/
def vx_MQ (below : List Frame) (Qc : Array Value → State → Outcome → State → Prop) (XC : String → State → State → Prop) (a : Array Value) (s : State) (mc ms : Nat) (free : Addr → Prop) : State → Prop := fun t =>
  ∃ o, t.status = .running ∧ Ended t below o ∧ vx_Q Qc XC mc ms free a s o t
theorem vx_ret {g : JFrame} {mc ms : Nat} (k : W p l e R s m args below meth c H locs cells slots (MQ below Qc args s mc ms free) g) : W p l e R s m args below meth c H locs cells slots (vx_MQ below Qc XC args s mc ms free) g := by
  intro T hT X
  obtain ⟨t, a1, o, b1, b2, b3, b4⟩ := k T hT X
  exact ⟨t, a1, o, b1, b2, Or.inl ⟨b3, b4⟩⟩
/-- not caught here: it goes on to the caller -/
theorem vx_widen {g : JFrame} {q : Addr} {k n : Nat} (h1 : cells ≤ k) (h2 : slots ≤ n) (kk : vx_W p l e R s m args below meth c H locs k n Q g q) : vx_W p l e R s m args below meth c H locs cells slots Q g q := fun T hT X => kk T hT (stand_widen X h1 h2)
theorem vx_out {pc : Nat} {E : String} {ce : Cell} {q : Addr} {mc ms : Nat} (hout : ∀ x ∈ c.exceptionTable.toList, covers x pc = false) (hlocks : meth.locks = false) (hcell : H[q]? = some ce) (hv : ce.vm = .none) (hcl : s.vm.findClass E = some ce.cls)
    (hx : ∀ t : State, t.heap = H → s.vm.Alike t.vm → XC E s t) (hf : ∀ z ∈ locs, free z.base) (hc : cells ≤ mc) (hs : slots ≤ ms) :
    vx_W p l e R s m args below meth c H locs cells slots (vx_MQ below Qc XC args s mc ms free) (F0 m pc ls rest) q := by
  intro T hT X
  obtain ⟨st1, hrun, hend, hW, hsm⟩ := X.leaveThrown q (g := F0 m pc ls rest) rfl rfl rfl hout hlocks
  have hcell9 : (T.setFrames (.throwing q :: below)).heap[q]? = some ce := by
    show T.heap[q]? = some ce
    rw [hT]; exact hcell
  exact ⟨_, st1, .threw q, hrun, hend, Or.inr ⟨q, rfl, E, ce, locs, hx _ hT hW.alike, hcell9, hv, hcl, hW, hsm.mono hc hs, hf⟩⟩
theorem vx_frame {U : State} {k n : Nat} (h : s.sameButNew ({ U with vm := s.vm } : State) locs k n) : s.heap.size ≤ U.heap.size ∧ ∀ q : Nat, q < s.heap.size → (∀ z ∈ locs, z.base ≠ q) → U.heap[q]? = s.heap[q]? := by
  obtain ⟨-, h2, -, -, -, h6⟩ := h
  refine ⟨h2, fun q hq hz => ?_⟩
  obtain ⟨c9, e1, e2, e3, e4⟩ := h6 q _ (Array.getElem?_eq_getElem hq)
  have hs : c9.slots = (s.heap[q]).slots := Array.ext_getElem? fun i => e4 i fun hm => hz _ hm rfl
  have h9 : c9 = s.heap[q] := by
    rw [hs] at e2
    exact e2
  have e5 : U.heap[q]? = some c9 := e1
  rw [e5, h9, Array.getElem?_eq_getElem hq]
/-- the words of a throw but the four that speak of the heap -/
def vx_no (w : Cond) : Bool := decide (w ≠ .isRef (.static Bundle.tN "UNASSIGNED_STACK" Bundle.steD)) && decide (w ≠ .isRef (.static Bundle.tN "SUPPRESSED_SENTINEL" Bundle.listD)) && decide (w ≠ .laysStatic Bundle.tN "UNASSIGNED_STACK" Bundle.steD) && decide (w ≠ .laysStatic Bundle.tN "SUPPRESSED_SENTINEL" Bundle.listD)
def vx_at0 (own : String) (ic : Nat) (X : String) (names : List String) : List Cond := (Bundle.ownAtoms0 own ic X names).filter vx_no
def vx_atS (own : String) (ic : Nat) (X : String) (names : List String) : List Cond := (Bundle.ownAtoms own ic X names).filter vx_no
/-- a word that the tables alone decide, or a good one -/
def vx_ot (w : Cond) : Bool := w.onTables || goodWord w
theorem vx_ot_at {args a' : Array Value} {s U : State} {w : Cond} (hW : s.WarmedH U.vm) (hvm : s.vm = U.vm) (hg : vx_ot w = true) (h : w.before args s = true) : w.before a' U = true := by
  simp only [vx_ot, Bool.or_eq_true] at hg
  rcases hg with hg | hg
  · exact va_tabs hg hvm h
  · exact word_at hW (good_of_word hg) h
/-- a list's words: the good ones out of the method's own list, the others by premises of their own -/
theorem vx_hat {args : Array Value} {s : State} {L B : List Cond} (h1 : ∀ w ∈ L.filter goodWord, w.before args s = true) (h2 : ∀ w ∈ L.filter (fun w => !goodWord w), w ∈ B) (h3 : ∀ w ∈ B, w.before args s = true) : ∀ w ∈ L, w.before args s = true := by
  intro w hw
  by_cases g : goodWord w = true
  · exact h1 w (List.mem_filter.mpr ⟨hw, g⟩)
  · refine h3 w (h2 w (List.mem_filter.mpr ⟨hw, ?_⟩))
    show (!goodWord w) = true
    cases hgw : goodWord w
    · rfl
    · exact absurd hgw g
theorem vx_c {args : Array Value} {s : State} {w : Cond} {B : List Cond} (h : w.before args s = true) (t : ∀ w ∈ B, w.before args s = true) : ∀ w' ∈ w :: B, w'.before args s = true := fun w' h' => (List.mem_cons.mp h').elim (fun e => by rw [e]; exact h) (t w')
theorem vx_n {args : Array Value} {s : State} : ∀ w ∈ ([] : List Cond), w.before args s = true := fun _ h => nomatch h
theorem vx_own {args : Array Value} {s : State} {L : List Cond} (h1 : ∀ w ∈ L.filter vx_no, w.before args s = true)
    (hU : (Cond.isRef (.static Bundle.tN "UNASSIGNED_STACK" Bundle.steD)).before args s = true) (hN : (Cond.isRef (.static Bundle.tN "SUPPRESSED_SENTINEL" Bundle.listD)).before args s = true)
    (lU : (Cond.laysStatic Bundle.tN "UNASSIGNED_STACK" Bundle.steD).before args s = true) (lN : (Cond.laysStatic Bundle.tN "SUPPRESSED_SENTINEL" Bundle.listD).before args s = true) : ∀ w ∈ L, w.before args s = true := by
  intro w hw
  by_cases e1 : w = .isRef (.static Bundle.tN "UNASSIGNED_STACK" Bundle.steD)
  · rw [e1]; exact hU
  · by_cases e2 : w = .isRef (.static Bundle.tN "SUPPRESSED_SENTINEL" Bundle.listD)
    · rw [e2]; exact hN
    · by_cases e3 : w = .laysStatic Bundle.tN "UNASSIGNED_STACK" Bundle.steD
      · rw [e3]; exact lU
      · by_cases e4 : w = .laysStatic Bundle.tN "SUPPRESSED_SENTINEL" Bundle.listD
        · rw [e4]; exact lN
        · exact h1 w (List.mem_filter.mpr ⟨hw, by unfold vx_no; rw [decide_eq_true e1, decide_eq_true e2, decide_eq_true e3, decide_eq_true e4]; rfl⟩)
/-- where a static field lies, its class's statics cell in H -/
def vx_L (C n d : String) (A : Nat → Prop) (U : State) (H : Heap) : Prop := ∃ (c : ClassId) (k : Class) (i : Nat) (f : Field) (a : Nat) (cell : Cell), U.vm.findClass C = some c ∧ U.fieldFound? C n d = some (c, k, i, f) ∧ f.isStatic = true ∧ k.statics = some a ∧ H[a]? = some cell ∧ cell.vm.isStatics = true ∧ cell.cls = c ∧ f.slot < cell.slots.size ∧ k.staticTypes[f.slot]? = some f.type ∧ ¬ A a
theorem vx_L.moved {C n d : String} {A : Nat → Prop} {u U : State} {H : Heap} (hvm : u.vm.Alike U.vm) (h : vx_L C n d A u H) : vx_L C n d A U H := by
  obtain ⟨c, k, i, f, a, cell, h1, h2, h3, h4, h5, h6, h7, h8, h9, h10⟩ := h
  obtain ⟨k', hi', he⟩ := State.fieldFound?_setVm hvm h2
  exact ⟨c, k', i, f, a, cell, by rw [hvm.findClass]; exact h1, hi', h3, by rw [he]; exact h4, h5, h6, h7, h8, by rw [he]; exact h9, h10⟩
theorem vx_L.kept {C n d : String} {A : Nat → Prop} {U : State} {H H1 : Heap} (h : vx_L C n d A U H) (hq : ∀ a : Nat, a < H.size → ¬ A a → H1[a]? = H[a]?) : vx_L C n d A U H1 := by
  obtain ⟨c, k, i, f, a, cell, h1, h2, h3, h4, h5, h6, h7, h8, h9, h10⟩ := h
  exact ⟨c, k, i, f, a, cell, h1, h2, h3, h4, by rw [hq a (Array.getElem?_eq_some_iff.mp h5).1 h10]; exact h5, h6, h7, h8, h9, h10⟩
theorem vx_L.narrow {C n d : String} {A B : Nat → Prop} {U : State} {H : Heap} (h : vx_L C n d A U H) (hAB : ∀ q, B q → A q) : vx_L C n d B U H := by
  obtain ⟨c, k, i, f, a, cell, h1, h2, h3, h4, h5, h6, h7, h8, h9, h10⟩ := h
  exact ⟨c, k, i, f, a, cell, h1, h2, h3, h4, h5, h6, h7, h8, h9, fun z => h10 (hAB _ z)⟩
theorem vx_L.word {C n d : String} {A : Nat → Prop} {s : State} {args : Array Value} (h : vx_L C n d A s s.heap) : (Cond.laysStatic C n d).before args s = true := by
  obtain ⟨c, k, i, f, a, cell, h1, h2, h3, h4, h5, h6, h7, h8, h9, -⟩ := h
  show (Cond.laysStatic C n d).holds args s none s [] = true
  exact Cond.laysStatic_of h1 h2 h3 h4 h5 h6 h7 h8 h9
/-- .. and what it holds: null or some reference -/
def vx_Zq (C n d : String) (A : Nat → Prop) (U : State) (H : Heap) : Prop := va_Zq C n d A U H ∧ vx_L C n d A U H
theorem vx_Zq.moved {C n d : String} {A : Nat → Prop} {u U : State} {H : Heap} (hvm : u.vm.Alike U.vm) (h : vx_Zq C n d A u H) : vx_Zq C n d A U H := ⟨va_Zq.moved hvm h.1, vx_L.moved hvm h.2⟩
theorem vx_Zq.kept {C n d : String} {A : Nat → Prop} {U : State} {H H1 : Heap} (h : vx_Zq C n d A U H) (hq : ∀ a : Nat, a < H.size → ¬ A a → H1[a]? = H[a]?) : vx_Zq C n d A U H1 := ⟨va_Zq.kept h.1 hq, vx_L.kept h.2 hq⟩
theorem vx_Zq.narrow {C n d : String} {A B : Nat → Prop} {U : State} {H : Heap} (h : vx_Zq C n d A U H) (hAB : ∀ q, B q → A q) : vx_Zq C n d B U H := ⟨va_Zq.narrow h.1 hAB, vx_L.narrow h.2 hAB⟩
theorem vx_Zqof {args : Array Value} {s : State} {C n d : String} {A : Nat → Prop} (hl : (Cond.laysStatic C n d).before args s = true) (hini : (Cond.initialized C).before args s = true) (h : (Cond.isRef (.static C n d)).before args s = true) (hA : ∀ a : Nat, a < s.heap.size → ¬ A a) : vx_Zq C n d A s s.heap := by
  refine ⟨va_Zqof hl hini h hA, ?_⟩
  obtain ⟨c, k, i, f, a, cell, h1, h2, h3, h4, h5, h6, h7, h8, h9⟩ := Cond.laysStatic_spec hl
  exact ⟨c, k, i, f, a, cell, h1, h2, h3, h4, h5, h6, h7, h8, h9, hA a (Array.getElem?_eq_some_iff.mp h5).1⟩
theorem vx_isRef {C n d : String} {v : Value} {A : Nat → Prop} {s : State} {args : Array Value} (h : va_Z C n d v A s s.heap) (hv : v.isRef = true) : (Cond.isRef (.static C n d)).before args s = true := by
  obtain ⟨cf, kf, fi, f, a, cell, h1, h2, h3, h4, h5, h6, h7, -⟩ := h
  have he : (Term.static C n d).eval args s none [] s = some v := by
    simp [Term.eval, State.fieldNamed?, h1, h2, h4, h5, h6, h7]
  simp only [Cond.before, Cond.holds, Cond.value, he]
  cases v <;> simp_all [Value.isRef]
theorem vx_isRefq {C n d : String} {A : Nat → Prop} {s : State} {args : Array Value} (h : va_Zq C n d A s s.heap) : (Cond.isRef (.static C n d)).before args s = true := by
  rcases h with h | ⟨t, h⟩
  · exact vx_isRef h rfl
  · exact vx_isRef h rfl
/-- the same frame, seen from here: as if the method were called anew in this heap -/
theorem vx_rebase {T : State} (X : Stand p l e R s m args below meth c T locs cells slots) {R' : Room} (hf : R'.frames ≤ R.frames) (hl : R'.locals ≤ R.locals) (hc : cells + R'.cells ≤ R.cells) (hs : slots + R'.slots ≤ R.slots) :
    Stand p l e R' ((T.setVm s.vm).setFrames (.invoking m args :: below)) m args below meth c T [] 0 0 := by
  have htop : (T.setVm s.vm).topJava?.isSome := X.here.top
  have hF : ((T.setVm s.vm).setFrames (.invoking m args :: below)).frames = .invoking m args :: below := State.frames_setFrames _ (State.cur_lt_of_top htop)
  obtain ⟨g₀, hg0⟩ := Option.isSome_iff_exists.mp htop
  obtain ⟨r, hr⟩ := State.topJava?_eq_some.mp hg0
  have hl9 : e.platform.stackLimits (T.setVm s.vm).me = e.platform.stackLimits s.me := X.limits
  have hb9 : (T.setVm s.vm).me.stackBytes = s.me.stackBytes := X.bytes
  refine ⟨X.admits, X.cas, X.clock, hF, ?_, X.hears, X.method, X.code, X.here, X.tail, X.warmed, ?_, ?_, ?_⟩
  · have h := X.room
    have hU : ((T.setVm s.vm).setFrames (.invoking m args :: below)).localsInUse = s.localsInUse := by
      rw [State.localsInUse_invoking hF (meth := meth) (c := c) X.method X.code, State.localsInUse_invoking X.frames X.method X.code]
    simp only [State.hasRoom, Bool.and_eq_true, decide_eq_true_eq] at h ⊢
    obtain ⟨⟨⟨⟨h1, h2, h3, h4, h5, h6⟩, h7⟩, h8⟩, h9⟩ := h
    rw [X.frames, List.length_cons] at h2 h3
    have q1 := X.heapSize
    have q2 := X.used
    simp only [hF, hU, List.length_cons, State.stackLimits_setFrames, State.stackBytes_setFrames, hl9, hb9]
    refine ⟨⟨⟨⟨by omega, by omega, by omega, by omega, by omega, h6⟩, ?_⟩, ?_⟩, X.book⟩
    · show T.heap.size + R'.cells ≤ e.platform.maxCells
      omega
    · show T.slotsUsed + R'.slots ≤ e.platform.maxSlots
      omega
  · rw [State.stackLimits_setFrames]; rfl
  · rw [State.stackBytes_setFrames]; rfl
  · refine ⟨?_, Nat.le_refl _, Nat.le_refl _, ?_, ?_, fun a c9 h9 => ⟨c9, h9, rfl, rfl, fun _ _ => rfl⟩⟩
    · obtain ⟨t, ht, -⟩ := State.frames_cons hr
      show T.setVm s.vm = { ((T.setVm s.vm).setFrames (.invoking m args :: below)).setFrames (T.setVm s.vm).frames with heap := T.heap, slotsUsed := T.slotsUsed }
      rw [State.setFrames_setFrames, State.setFrames_self ht]
      rfl
    · show T.slotsUsed = T.slotsUsed + ((T.heap.toList.drop T.heap.size).map (·.slots.size)).sum
      rw [List.drop_eq_nil_of_le (Nat.le_of_eq Array.length_toList)]
      rfl
    · show ((T.heap.toList.drop T.heap.size).map (·.slots.size)).sum ≤ 0
      rw [List.drop_eq_nil_of_le (Nat.le_of_eq Array.length_toList)]
      exact Nat.le_refl _
/-- 'throw new E()': new; dup; invokespecial; athrow -/
theorem vx_throw0 {cc : ByteArray} {pc : Nat} (hexec : p.tables.exec = Jvm.exec) (hb : c.code = cc) (hl : l.stackTraces = false) {own cls : String} {names : List String} {ik ic mc ms : Nat} {A : Nat → Prop}
    (hown : s.vm.findClass own = some m.cls) (hcls : Bundle.fit cls = true) (hnames : ∀ n ∈ names, Bundle.fit n = true)
    (hk : (Cond.classLink own ik cls).before args s = true) (hini : (Cond.initialized cls).before args s = true) (hat : ∀ w ∈ vx_at0 own ic cls names, w.before args s = true)
    (hgood : ∀ w ∈ Cond.classLink own ik cls :: Cond.initialized cls :: vx_at0 own ic cls names, vx_ot w = true)
    (hU : vx_Zq Bundle.tN "UNASSIGNED_STACK" Bundle.steD A s s.heap) (hN : vx_Zq Bundle.tN "SUPPRESSED_SENTINEL" Bundle.listD A s s.heap) (hS : va_S A s.heap H locs) (hsize : ls.size = c.maxLocals)
    (d0 : decode cc pc = .ok (.new ik, 3)) (d3 : decode cc (pc + 3) = .ok (.dup, 1)) (d4 : decode cc (pc + 4) = .ok (.invokespecial ic, 3)) (d7 : decode cc (pc + 7) = .ok (.athrow, 1))
    (hout : ∀ x ∈ c.exceptionTable.toList, covers x (pc + 7) = false)
    (hRframes : names.length + 3 < R.frames) (hRlocals : (rest.map fun v => v.category).sum + (13 * (names.length + 1) + 42) ≤ R.locals) (hRcells : cells + 1 ≤ R.cells) (hRslots : slots + 6 ≤ R.slots) (hlocks : meth.locks = false)
    (hx : ∀ t : State, s.vm.Alike t.vm → H.size ≤ t.heap.size → (∀ q : Nat, q < H.size → t.heap[q]? = H[q]?) → XC cls s t)
    (hf : ∀ z ∈ locs, free z.base) (hc : cells + 1 ≤ mc) (hs : slots + 6 ≤ ms) :
    W p l e R s m args below meth c H locs cells slots (vx_MQ below Qc XC args s mc ms free) (F0 m pc ls rest) := by
  intro T hT X
  have htr : e.platform.stackTraces = false := (show e.platform.stackTraces = l.stackTraces by rw [X.admits.platform]).trans hl
  have Y := vx_rebase X (R' := { frames := R.frames, locals := R.locals, cells := 1, slots := 6 }) (Nat.le_refl _) (Nat.le_refl _) hRcells hRslots
  obtain ⟨s', hA⟩ : ∃ z, z = (T.setVm s.vm).setFrames (.invoking m args :: below) := ⟨_, rfl⟩
  rw [← hA] at Y
  have hvm : s'.vm = s.vm := by rw [hA]; rfl
  have hhp : s'.heap = H := by rw [hA]; exact hT
  have hW0 : s.WarmedH s'.vm := by rw [hvm]; exact State.WarmedH.refl s
  have hat' : ∀ w ∈ vx_at0 own ic cls names, w.before args s' = true := fun w hw => vx_ot_at hW0 hvm.symm (hgood w (List.mem_cons_of_mem _ (List.mem_cons_of_mem _ hw))) (hat w hw)
  have hk' : (Cond.classLink own ik cls).before args s' = true := vx_ot_at hW0 hvm.symm (hgood _ List.mem_cons_self) hk
  have hini' : (Cond.initialized cls).before args s' = true := vx_ot_at hW0 hvm.symm (hgood _ (List.mem_cons_of_mem _ List.mem_cons_self)) hini
  have hU' : vx_Zq Bundle.tN "UNASSIGNED_STACK" Bundle.steD A s' s'.heap := by rw [hhp]; exact vx_Zq.moved hW0.alike (hU.kept hS.2.1)
  have hN' : vx_Zq Bundle.tN "SUPPRESSED_SENTINEL" Bundle.listD A s' s'.heap := by rw [hhp]; exact vx_Zq.moved hW0.alike (hN.kept hS.2.1)
  have h : ∀ w ∈ Bundle.ownAtoms0 own ic cls names, w.before args s' = true := vx_own hat' (vx_isRefq hU'.1) (vx_isRefq hN'.1) hU'.2.word hN'.2.word
  have hown' : s'.vm.findClass own = some m.cls := by rw [hvm]; exact hown
  have hins : (Cond.instantiable cls 6).before args s' = true := h _ (by simp [Bundle.ownAtoms0])
  obtain ⟨vm₁, cX, kX, hfX, hkX, -, -, X₁, st1⟩ := Y.newCold hexec (own := own) (C := cls) (index := ik) (n := 6) hown' hk' hins hini'
    (g := F0 m pc ls rest) rfl (by rw [hb]; exact d0) (Nat.le_refl _) (Nat.le_refl _)
  generalize hT1 : (T.setVm vm₁).pushCell { cls := cX, slots := kX.instanceTypes.map defaultValue, vm := .none } = T1 at X₁ st1
  have hcat : (Value.ref T.heap.size).category = 1 := rfl
  have hcellA : T1.heap[T.heap.size]? = some (freshCell cX kX) := by rw [← hT1]; exact State.heap_pushCell_size _ _
  have d3' : decode c.code (pc + 3) = .ok (.dup, 1) := by rw [hb]; exact d3
  obtain ⟨U, hsteps, hrun, hend, hW, hsame, ce, hce, hO⟩ := X₁.ctorThrow0 hexec htr (own := own) (cls := cls) (names := names) (ic := ic) hown' hcls hnames h (fun x hx => nomatch hx) hfX hkX hcellA (by rw [hhp, hT]; exact Nat.le_refl _)
    (g := { method := m, pc := pc + 4, locals := ls, stack := .ref T.heap.size :: .ref T.heap.size :: rest, locked := none }) rfl hsize rfl rfl (rest := rest) rfl
    (by rw [hb]; exact d4) (by rw [hb]; exact d7) hout hRframes (by simp only [List.map_cons, List.sum_cons, hcat]; omega) hlocks
  obtain ⟨f1, f2⟩ := vx_frame hsame
  rw [hhp] at f1 f2
  have hWs : s.WarmedH U.vm := State.WarmedH.trans hW0 hW
  have hcl : s.vm.findClass cls = some ce.cls := by
    have h9 := hO.cls
    rw [hvm] at h9
    exact h9
  have hall : s.sameButNew ({ U with vm := s.vm } : State) locs mc ms := by
    subst hA
    obtain ⟨e1, e2⟩ := hsame
    rw [State.setFrames_setFrames] at e1
    have h2 : (T.setVm s.vm).sameButNew ({ U with vm := s.vm } : State) [] (0 + 1) (0 + 6) := ⟨e1, e2⟩
    have h3 := X.same.trans h2
    rw [List.append_nil] at h3
    exact h3.mono hc hs
  refine ⟨U, ?_, .threw T.heap.size, hrun, hend, Or.inr ⟨T.heap.size, rfl, cls, ce, locs, hx U hWs.alike f1 (fun q hq => f2 q hq (fun z hz => nomatch hz)), hce, hO.vm, hcl, hWs, hall, hf⟩⟩
  refine st1 _ ?_
  show Steps p.tables e below (T1.setTop { method := m, pc := pc + 3, locals := ls, stack := .ref T.heap.size :: rest, locked := none }) _
  jvm_step X₁.here [X₁.here.top, hexec, d3', Value.category]
  exact hsteps
/-- 'throw new E("text")': new; dup; ldc; invokespecial; athrow -/
theorem vx_throwS {cc : ByteArray} {pc : Nat} (hexec : p.tables.exec = Jvm.exec) (hb : c.code = cc) (hl : l.stackTraces = false) {own cls text : String} {names : List String} {ik is ic mc ms sa : Nat} {A : Nat → Prop}
    (hown : s.vm.findClass own = some m.cls) (hcls : Bundle.fit cls = true) (hnames : ∀ n ∈ names, Bundle.fit n = true)
    (hk : (Cond.classLink own ik cls).before args s = true) (hini : (Cond.initialized cls).before args s = true) (hstr : vk_R own is text sa s) (hat : ∀ w ∈ vx_atS own ic cls names, w.before args s = true)
    (hgood : ∀ w ∈ Cond.classLink own ik cls :: Cond.initialized cls :: vx_atS own ic cls names, vx_ot w = true)
    (hU : vx_Zq Bundle.tN "UNASSIGNED_STACK" Bundle.steD A s s.heap) (hN : vx_Zq Bundle.tN "SUPPRESSED_SENTINEL" Bundle.listD A s s.heap) (hS : va_S A s.heap H locs) (hsize : ls.size = c.maxLocals)
    (d0 : decode cc pc = .ok (.new ik, 3)) (d3 : decode cc (pc + 3) = .ok (.dup, 1)) (d4 : decode cc (pc + 4) = .ok (.ldc is, 2)) (d6 : decode cc (pc + 6) = .ok (.invokespecial ic, 3)) (d9 : decode cc (pc + 9) = .ok (.athrow, 1))
    (hout : ∀ x ∈ c.exceptionTable.toList, covers x (pc + 9) = false)
    (hRframes : names.length + 3 < R.frames) (hRlocals : (rest.map fun v => v.category).sum + (13 * (names.length + 1) + 43) ≤ R.locals) (hRcells : cells + 1 ≤ R.cells) (hRslots : slots + 6 ≤ R.slots) (hlocks : meth.locks = false)
    (hx : ∀ t : State, s.vm.Alike t.vm → H.size ≤ t.heap.size → (∀ q : Nat, q < H.size → t.heap[q]? = H[q]?) → XC cls s t)
    (hf : ∀ z ∈ locs, free z.base) (hc : cells + 1 ≤ mc) (hs : slots + 6 ≤ ms) :
    W p l e R s m args below meth c H locs cells slots (vx_MQ below Qc XC args s mc ms free) (F0 m pc ls rest) := by
  intro T hT X
  have htr : e.platform.stackTraces = false := (show e.platform.stackTraces = l.stackTraces by rw [X.admits.platform]).trans hl
  have Y := vx_rebase X (R' := { frames := R.frames, locals := R.locals, cells := 1, slots := 6 }) (Nat.le_refl _) (Nat.le_refl _) hRcells hRslots
  obtain ⟨s', hA⟩ : ∃ z, z = (T.setVm s.vm).setFrames (.invoking m args :: below) := ⟨_, rfl⟩
  rw [← hA] at Y
  have hvm : s'.vm = s.vm := by rw [hA]; rfl
  have hhp : s'.heap = H := by rw [hA]; exact hT
  have hW0 : s.WarmedH s'.vm := by rw [hvm]; exact State.WarmedH.refl s
  have hat' : ∀ w ∈ vx_atS own ic cls names, w.before args s' = true := fun w hw => vx_ot_at hW0 hvm.symm (hgood w (List.mem_cons_of_mem _ (List.mem_cons_of_mem _ hw))) (hat w hw)
  have hk' : (Cond.classLink own ik cls).before args s' = true := vx_ot_at hW0 hvm.symm (hgood _ List.mem_cons_self) hk
  have hini' : (Cond.initialized cls).before args s' = true := vx_ot_at hW0 hvm.symm (hgood _ (List.mem_cons_of_mem _ List.mem_cons_self)) hini
  have hU' : vx_Zq Bundle.tN "UNASSIGNED_STACK" Bundle.steD A s' s'.heap := by rw [hhp]; exact vx_Zq.moved hW0.alike (hU.kept hS.2.1)
  have hN' : vx_Zq Bundle.tN "SUPPRESSED_SENTINEL" Bundle.listD A s' s'.heap := by rw [hhp]; exact vx_Zq.moved hW0.alike (hN.kept hS.2.1)
  have h : ∀ w ∈ Bundle.ownAtoms own ic cls names, w.before args s' = true := vx_own hat' (vx_isRefq hU'.1) (vx_isRefq hN'.1) hU'.2.word hN'.2.word
  have hown' : s'.vm.findClass own = some m.cls := by rw [hvm]; exact hown
  have hins : (Cond.instantiable cls 6).before args s' = true := h _ (by simp [Bundle.ownAtoms])
  obtain ⟨vm₁, cX, kX, hfX, hkX, -, -, X₁, st1⟩ := Y.newCold hexec (own := own) (C := cls) (index := ik) (n := 6) hown' hk' hins hini'
    (g := F0 m pc ls rest) rfl (by rw [hb]; exact d0) (Nat.le_refl _) (Nat.le_refl _)
  generalize hT1 : (T.setVm vm₁).pushCell { cls := cX, slots := kX.instanceTypes.map defaultValue, vm := .none } = T1 at X₁ st1
  have hcat : (Value.ref T.heap.size).category = 1 := rfl
  have hcellA : T1.heap[T.heap.size]? = some (freshCell cX kX) := by rw [← hT1]; exact State.heap_pushCell_size _ _
  have d3' : decode c.code (pc + 3) = .ok (.dup, 1) := by rw [hb]; exact d3
  have d4' : decode c.code (pc + 4) = .ok (.ldc is, 2) := by rw [hb]; exact d4
  have hstr' : vk_R own is text sa s' := vk_R.warm hW0 hstr
  obtain ⟨U, hsteps, hrun, hend, hW, hsame, ce, hce, hO⟩ := X₁.ctorThrowS hexec htr (own := own) (cls := cls) (names := names) (ic := ic) hown' hcls hnames h (fun x hx => nomatch hx) hfX hkX hcellA (by rw [hhp, hT]; exact Nat.le_refl _) (msg := .ref sa) rfl
    (g := { method := m, pc := pc + 6, locals := ls, stack := .ref sa :: .ref T.heap.size :: .ref T.heap.size :: rest, locked := none }) rfl hsize rfl rfl (rest := rest) rfl
    (by rw [hb]; exact d6) (by rw [hb]; exact d9) hout hRframes (by simp only [List.map_cons, List.sum_cons, hcat]; omega) hlocks
  obtain ⟨f1, f2⟩ := vx_frame hsame
  rw [hhp] at f1 f2
  have hWs : s.WarmedH U.vm := State.WarmedH.trans hW0 hW
  have hcl : s.vm.findClass cls = some ce.cls := by
    have h9 := hO.cls
    rw [hvm] at h9
    exact h9
  have hall : s.sameButNew ({ U with vm := s.vm } : State) locs mc ms := by
    subst hA
    obtain ⟨e1, e2⟩ := hsame
    rw [State.setFrames_setFrames] at e1
    have h2 : (T.setVm s.vm).sameButNew ({ U with vm := s.vm } : State) [] (0 + 1) (0 + 6) := ⟨e1, e2⟩
    have h3 := X.same.trans h2
    rw [List.append_nil] at h3
    exact h3.mono hc hs
  refine ⟨U, ?_, .threw T.heap.size, hrun, hend, Or.inr ⟨T.heap.size, rfl, cls, ce, locs, hx U hWs.alike f1 (fun q hq => f2 q hq (fun z hz => nomatch hz)), hce, hO.vm, hcl, hWs, hall, hf⟩⟩
  refine st1 _ ?_
  show Steps p.tables e below (T1.setTop { method := m, pc := pc + 3, locals := ls, stack := .ref T.heap.size :: rest, locked := none }) _
  jvm_step X₁.here [X₁.here.top, hexec, d3', Value.category]
  exact X₁.ldcString hexec (own := own) (text := text) (index := is) (a := sa) hown' hstr'.1 hstr'.2
    (g := { method := m, pc := pc + 4, locals := ls, stack := .ref T.heap.size :: .ref T.heap.size :: rest, locked := none }) rfl d4' _ hsteps
/-- 'throw new E("text")', the text by a wide index -/
theorem vx_throwSW {cc : ByteArray} {pc : Nat} (hexec : p.tables.exec = Jvm.exec) (hb : c.code = cc) (hl : l.stackTraces = false) {own cls text : String} {names : List String} {ik is ic mc ms sa : Nat} {A : Nat → Prop}
    (hown : s.vm.findClass own = some m.cls) (hcls : Bundle.fit cls = true) (hnames : ∀ n ∈ names, Bundle.fit n = true)
    (hk : (Cond.classLink own ik cls).before args s = true) (hini : (Cond.initialized cls).before args s = true) (hstr : vk_R own is text sa s) (hat : ∀ w ∈ vx_atS own ic cls names, w.before args s = true)
    (hgood : ∀ w ∈ Cond.classLink own ik cls :: Cond.initialized cls :: vx_atS own ic cls names, vx_ot w = true)
    (hU : vx_Zq Bundle.tN "UNASSIGNED_STACK" Bundle.steD A s s.heap) (hN : vx_Zq Bundle.tN "SUPPRESSED_SENTINEL" Bundle.listD A s s.heap) (hS : va_S A s.heap H locs) (hsize : ls.size = c.maxLocals)
    (d0 : decode cc pc = .ok (.new ik, 3)) (d3 : decode cc (pc + 3) = .ok (.dup, 1)) (d4 : decode cc (pc + 4) = .ok (.ldc_w is, 3)) (d7 : decode cc (pc + 7) = .ok (.invokespecial ic, 3)) (d10 : decode cc (pc + 10) = .ok (.athrow, 1))
    (hout : ∀ x ∈ c.exceptionTable.toList, covers x (pc + 10) = false)
    (hRframes : names.length + 3 < R.frames) (hRlocals : (rest.map fun v => v.category).sum + (13 * (names.length + 1) + 43) ≤ R.locals) (hRcells : cells + 1 ≤ R.cells) (hRslots : slots + 6 ≤ R.slots) (hlocks : meth.locks = false)
    (hx : ∀ t : State, s.vm.Alike t.vm → H.size ≤ t.heap.size → (∀ q : Nat, q < H.size → t.heap[q]? = H[q]?) → XC cls s t)
    (hf : ∀ z ∈ locs, free z.base) (hc : cells + 1 ≤ mc) (hs : slots + 6 ≤ ms) :
    W p l e R s m args below meth c H locs cells slots (vx_MQ below Qc XC args s mc ms free) (F0 m pc ls rest) := by
  intro T hT X
  have htr : e.platform.stackTraces = false := (show e.platform.stackTraces = l.stackTraces by rw [X.admits.platform]).trans hl
  have Y := vx_rebase X (R' := { frames := R.frames, locals := R.locals, cells := 1, slots := 6 }) (Nat.le_refl _) (Nat.le_refl _) hRcells hRslots
  obtain ⟨s', hA⟩ : ∃ z, z = (T.setVm s.vm).setFrames (.invoking m args :: below) := ⟨_, rfl⟩
  rw [← hA] at Y
  have hvm : s'.vm = s.vm := by rw [hA]; rfl
  have hhp : s'.heap = H := by rw [hA]; exact hT
  have hW0 : s.WarmedH s'.vm := by rw [hvm]; exact State.WarmedH.refl s
  have hat' : ∀ w ∈ vx_atS own ic cls names, w.before args s' = true := fun w hw => vx_ot_at hW0 hvm.symm (hgood w (List.mem_cons_of_mem _ (List.mem_cons_of_mem _ hw))) (hat w hw)
  have hk' : (Cond.classLink own ik cls).before args s' = true := vx_ot_at hW0 hvm.symm (hgood _ List.mem_cons_self) hk
  have hini' : (Cond.initialized cls).before args s' = true := vx_ot_at hW0 hvm.symm (hgood _ (List.mem_cons_of_mem _ List.mem_cons_self)) hini
  have hU' : vx_Zq Bundle.tN "UNASSIGNED_STACK" Bundle.steD A s' s'.heap := by rw [hhp]; exact vx_Zq.moved hW0.alike (hU.kept hS.2.1)
  have hN' : vx_Zq Bundle.tN "SUPPRESSED_SENTINEL" Bundle.listD A s' s'.heap := by rw [hhp]; exact vx_Zq.moved hW0.alike (hN.kept hS.2.1)
  have h : ∀ w ∈ Bundle.ownAtoms own ic cls names, w.before args s' = true := vx_own hat' (vx_isRefq hU'.1) (vx_isRefq hN'.1) hU'.2.word hN'.2.word
  have hown' : s'.vm.findClass own = some m.cls := by rw [hvm]; exact hown
  have hins : (Cond.instantiable cls 6).before args s' = true := h _ (by simp [Bundle.ownAtoms])
  obtain ⟨vm₁, cX, kX, hfX, hkX, -, -, X₁, st1⟩ := Y.newCold hexec (own := own) (C := cls) (index := ik) (n := 6) hown' hk' hins hini'
    (g := F0 m pc ls rest) rfl (by rw [hb]; exact d0) (Nat.le_refl _) (Nat.le_refl _)
  generalize hT1 : (T.setVm vm₁).pushCell { cls := cX, slots := kX.instanceTypes.map defaultValue, vm := .none } = T1 at X₁ st1
  have hcat : (Value.ref T.heap.size).category = 1 := rfl
  have hcellA : T1.heap[T.heap.size]? = some (freshCell cX kX) := by rw [← hT1]; exact State.heap_pushCell_size _ _
  have d3' : decode c.code (pc + 3) = .ok (.dup, 1) := by rw [hb]; exact d3
  have d4' : decode c.code (pc + 4) = .ok (.ldc_w is, 3) := by rw [hb]; exact d4
  have hstr' : vk_R own is text sa s' := vk_R.warm hW0 hstr
  obtain ⟨U, hsteps, hrun, hend, hW, hsame, ce, hce, hO⟩ := X₁.ctorThrowS hexec htr (own := own) (cls := cls) (names := names) (ic := ic) hown' hcls hnames h (fun x hx => nomatch hx) hfX hkX hcellA (by rw [hhp, hT]; exact Nat.le_refl _) (msg := .ref sa) rfl
    (g := { method := m, pc := pc + 7, locals := ls, stack := .ref sa :: .ref T.heap.size :: .ref T.heap.size :: rest, locked := none }) rfl hsize rfl rfl (rest := rest) rfl
    (by rw [hb]; exact d7) (by rw [hb]; exact d10) hout hRframes (by simp only [List.map_cons, List.sum_cons, hcat]; omega) hlocks
  obtain ⟨f1, f2⟩ := vx_frame hsame
  rw [hhp] at f1 f2
  have hWs : s.WarmedH U.vm := State.WarmedH.trans hW0 hW
  have hcl : s.vm.findClass cls = some ce.cls := by
    have h9 := hO.cls
    rw [hvm] at h9
    exact h9
  have hall : s.sameButNew ({ U with vm := s.vm } : State) locs mc ms := by
    subst hA
    obtain ⟨e1, e2⟩ := hsame
    rw [State.setFrames_setFrames] at e1
    have h2 : (T.setVm s.vm).sameButNew ({ U with vm := s.vm } : State) [] (0 + 1) (0 + 6) := ⟨e1, e2⟩
    have h3 := X.same.trans h2
    rw [List.append_nil] at h3
    exact h3.mono hc hs
  refine ⟨U, ?_, .threw T.heap.size, hrun, hend, Or.inr ⟨T.heap.size, rfl, cls, ce, locs, hx U hWs.alike f1 (fun q hq => f2 q hq (fun z hz => nomatch hz)), hce, hO.vm, hcl, hWs, hall, hf⟩⟩
  refine st1 _ ?_
  show Steps p.tables e below (T1.setTop { method := m, pc := pc + 3, locals := ls, stack := .ref T.heap.size :: rest, locked := none }) _
  jvm_step X₁.here [X₁.here.top, hexec, d3', Value.category]
  exact X₁.ldcStringW hexec (own := own) (text := text) (index := is) (a := sa) hown' hstr'.1 hstr'.2
    (g := { method := m, pc := pc + 4, locals := ls, stack := .ref T.heap.size :: .ref T.heap.size :: rest, locked := none }) rfl d4' _ hsteps
end Ends
section Bodies
variable {l : Launch}
theorem vx_ofW {y : MethodName} {ws ws' : List Cond} {rm : Room} {Pc : Array Value → State → Prop} {Qc : Array Value → State → Outcome → State → Prop} {XC : String → State → State → Prop} {mc ms : Nat} {free : Addr → Prop} {cc : ByteArray} {maxL : Nat} {ret : Option FieldType}
    (hy : plainName y.cls = true) (hw : ws = Cond.code y cc maxL ret :: ws')
    (body : ∀ p e s m args below meth c s₁, BodyLoose p l y (headSpec ws rm) cc maxL ret e s m args below meth c s₁ → c.maxLocals = maxL → (∀ x ∈ c.exceptionTable.toList, False) → Pc args s →
      W p l e (headSpec ws rm).room s m args below meth c s.heap [] 0 0 (vx_MQ below Qc XC args s mc ms free) (entryFrame m args maxL)) : vx_Met l y ws rm Pc Qc XC mc ms free := by
  refine MetFree.of_bodyS (code := cc) (maxLocals := maxL) (ret := ret) hy ?_ ?_
  · intro args s m h hn
    obtain ⟨meth, c, h1, h2, h3, h4, h5, h6, -, -⟩ := Cond.code_spec hn (atoms_spec (ws := ws) h _ (by rw [hw]; exact List.mem_cons_self))
    exact ⟨meth, c, h1, h2, h3, h4, h5, h6⟩
  · intro p e s m args below meth c s₁ B hml hP _
    have hh0 : s₁.heap = s.heap := by rw [B.state]; rfl
    have ht : ∀ x ∈ c.exceptionTable.toList, False := by
      obtain ⟨meth9, c9, h1, h2, -, -, -, -, h7, -⟩ := Cond.code_spec B.named (atoms_spec (ws := ws) B.pre _ (by rw [hw]; exact List.mem_cons_self))
      cases Option.some.inj (h1.symm.trans B.method)
      cases Option.some.inj (h2.symm.trans (Stand.of_body B).code)
      intro x hx
      rw [Array.isEmpty_iff.mp h7] at hx
      cases hx
    obtain ⟨t, a1, o, b1, b2, b3⟩ := body p e s m args below meth c s₁ B hml ht hP s₁ hh0 (Stand.of_body B)
    exact ⟨t, o, a1, b1, b2, b3⟩
/-- the table of a body with handlers -/
theorem vx_table {p : Program} {x y : MethodName} {S : Spec} {cc bytes : ByteArray} {maxL maxL' : Nat} {ret ret' : Option FieldType} {e : Env} {s s₁ : State} {m : MethodId} {args : Array Value} {below : List Frame} {meth : Method} {c : Code} {hh : List (Nat × Nat × Nat × Nat)}
    (B : BodyLoose p l y S cc maxL ret e s m args below meth c s₁) (h : (Cond.codeWith y bytes maxL' ret' hh).before args s = true) : c.exceptionTable.toList = tableOf hh := by
  obtain ⟨m9, meth9, c9, hn9, h1, h2, -, -, h6, -⟩ := Cond.codeWith_spec h
  cases Option.some.inj (hn9.symm.trans B.named)
  cases Option.some.inj (h1.symm.trans B.method)
  cases Option.some.inj (h2.symm.trans (Stand.of_body B).code)
  rw [← h6, table_eq]
end Bodies
end VXA
/-! ===== END ===== -/
/-! ===== BEGIN a static call of a method with an exception table ===== -/
section VXS
variable {p : Program} {l : Launch} {e : Env} {R : Room} {s : State} {m : MethodId} {args : Array Value} {below : List Frame} {meth : Method} {c : Code} {T : State} {H : Heap} {locs : List Loc} {cells slots : Nat}
abbrev vx_CSW (R : Room) (s : State) (args : Array Value) (own : String) (index : Nat) (y : MethodName) (bytes : ByteArray) (maxL : Nat) (ret : Option FieldType) (hh : List (Nat × Nat × Nat × Nat)) (ws : List Cond) (rm : Room) (mc ms n : Nat) : Prop :=
  (rm.cells = mc ∧ rm.slots = ms ∧ rm.frames + 1 ≤ R.frames ∧ 8 + (maxL + 11) + rm.locals ≤ R.locals ∧ (∀ w ∈ ws, ∀ (a' : Array Value) (U : State), s.WarmedH U.vm → w.before a' U = true) ∧ Cond.codeWith y bytes maxL ret hh ∈ ws) ∧
  (Cond.codeWith y bytes maxL ret hh).before args s = true ∧ (Cond.initialized y.cls).before args s = true ∧ (y.cls ≠ "java/lang/invoke/MethodHandle" ∧ y.cls ≠ "java/lang/invoke/VarHandle") ∧
  (∀ sig, parseMethodDescriptor y.desc = some sig → n = sig.parameters.length) ∧ (Cond.methodLink own index y).before args s = true ∧ (Cond.static y).before args s = true
theorem vx_cwSW {own : String} {index maxL mc ms : Nat} {y : MethodName} {bytes : ByteArray} {ret : Option FieldType} {hh : List (Nat × Nat × Nat × Nat)} {Ts ws ws' : List Cond} {rm : Room} (n : Nat) (ht : ∀ w ∈ Ts, w.before args s = true) (hT : GoodIn Ts (va_wsS own index y ws)) (hw : ws = Cond.codeWith y bytes maxL ret hh :: ws') (hrc : rm.cells = mc) (hrs : rm.slots = ms)
    (hd : y.cls ≠ "java/lang/invoke/MethodHandle" ∧ y.cls ≠ "java/lang/invoke/VarHandle" ∧ (parseMethodDescriptor y.desc).map (fun d => d.parameters.length) = some n) (hR : rm.frames + 1 ≤ R.frames ∧ 8 + (maxL + 11) + rm.locals ≤ R.locals) :
    vx_CSW R s args own index y bytes maxL ret hh ws rm mc ms n := by
  have ok : ∀ w ∈ va_wsS own index y ws, w.before args s = true := fun w h => ht w (hT w h).1
  have hG : GoodIn Ts ws := fun w h => hT w (by unfold va_wsS; exact List.mem_append_right _ h)
  have hc : Cond.codeWith y bytes maxL ret hh ∈ ws := by rw [hw]; exact List.mem_cons_self
  refine ⟨⟨hrc, hrs, hR.1, hR.2, pay_in ht hG, hc⟩, ht _ (hG _ hc).1, ok _ (by simp [va_wsS]), ⟨hd.1, hd.2.1⟩, fun sig h => ?_, ok _ (by simp [va_wsS]), ok _ (by simp [va_wsS])⟩
  have h2 := hd.2.2
  rw [h] at h2
  exact (Option.some.inj h2).symm
theorem vx_callSW (X : Stand p l e R s m args below meth c T locs cells slots) (hexec : p.tables.exec = Jvm.exec) {own : String} {index : Nat} {y : MethodName} {bytes : ByteArray} {maxL : Nat} {ret : Option FieldType} {hh : List (Nat × Nat × Nat × Nat)}
    (hown : s.vm.findClass own = some m.cls) (hlink : (Cond.methodLink own index y).before args s = true) (hstat : (Cond.static y).before args s = true) (hinit : (Cond.initialized y.cls).before args s = true)
    (hcode : (Cond.codeWith y bytes maxL ret hh).before args s = true) (hy : y.cls ≠ "java/lang/invoke/MethodHandle" ∧ y.cls ≠ "java/lang/invoke/VarHandle")
    {W9 : Nat} {Pre : Pt → Array Value → Prop} {Post : Pt → Array Value → Option Value → Pt → Prop} (hK : Back l R p e below s args y 3 W9 Pre Post)
    {g : JFrame} (hg : g.method = m) (hsize : g.locals.size = c.maxLocals) {argsL rest : List Value} (hlen : ∀ sig, parseMethodDescriptor y.desc = some sig → argsL.length = sig.parameters.length)
    (hstack : g.stack = argsL.reverse ++ rest) (hW : 2 * g.monitorRoom + (rest.map fun v => v.category).sum ≤ W9) (hdg : decode c.code g.pc = .ok (.invokestatic index, 3))
    (hpre : ∀ vm₁, s.WarmedH vm₁ → Pre ⟨T.setVm vm₁, locs, cells, slots⟩ argsL.toArray) :
    ∃ (v : Option Value) (vm₁ : Vm) (B : Pt), s.WarmedH vm₁ ∧ Stand p l e R s m args below meth c B.U B.locs B.cells B.slots ∧ Post ⟨T.setVm vm₁, locs, cells, slots⟩ argsL.toArray v B ∧
      ∀ target, Steps p.tables e below (B.U.setTop { g with pc := g.pc + 3, stack := v.toList ++ rest }) target → Steps p.tables e below (T.setTop g) target := by
  obtain ⟨mk, methM, cM, hnamed, hmethM, -, -, -, -, -, -, hsigM⟩ := Cond.codeWith_spec hcode
  have hstatic : methM.isStatic = true := Cond.static_spec hnamed hmethM hstat
  obtain ⟨kP, hkP, -⟩ := className_of_methodNamed hnamed
  have hinitP : kP.init = .initialized := Cond.initialized_spec (findClass_of_methodNamed hnamed) hkP hinit
  obtain ⟨vm₁, X₁, hstep₁⟩ := X.invokestatic hexec hown hlink hnamed hmethM hstatic hkP hinitP hy (g := g) hg (argsL := argsL) (rest := rest) (hlen _ hsigM) hstack hdg
  obtain ⟨v, B, X', hpost, hsteps⟩ := hK m meth c ⟨T.setVm vm₁, locs, cells, slots⟩ { g with stack := rest } (.invokestatic index) mk argsL.toArray X₁ hg hsize hdg hW (X₁.named hnamed) (hpre vm₁ X₁.warmed)
  exact ⟨v, vm₁, B, X₁.warmed, X', hpost, fun target h => hstep₁ _ fun acts => by rw [doInvoke_state]; exact hsteps.trans h⟩
theorem vx_runSW {y : MethodName} {bytes cc : ByteArray} {maxL nL mc ms n index : Nat} {ret : Option FieldType} {hh : List (Nat × Nat × Nat × Nat)} {ws : List Cond} {rm : Room} {Pc : Array Value → State → Prop} {Qc : Array Value → State → Outcome → State → Prop} {free : Addr → Prop} {Ts : List Cond} {own : String} {As rest : List Value} {g : JFrame}
    (S : CallFix p m c cc nL s args Ts own) (hM : Met l y ws rm Pc Qc mc ms free) (cw : vx_CSW R s args own index y bytes maxL ret hh ws rm mc ms n) (hp : PreS s H Pc As)
    (hg : g.method = m) (hn : As.length = n) (hsize : g.locals.size = nL) (hstack : g.stack = As.reverse ++ rest) (hW : 2 * g.monitorRoom + (rest.map fun v => v.category).sum ≤ 8) (hdg : decode cc g.pc = .ok (.invokestatic index, 3)) (hf : cells + mc ≤ R.cells ∧ slots + ms ≤ R.slots) :
    va_Run p l e R s m args below meth c H locs cells slots mc ms g rest (Qc As.toArray) (free) := by
  obtain ⟨⟨hrc, hrs, hfr, hlo, hws, hcw⟩, hcode, hini, hy, hlen, hl, hstt⟩ := cw
  have hK : Back l R p e below s args y 3 8 (PreOf R mc ms Pc) (PostOf Qc mc ms free) := va_backW (hh := hh) (bytes := bytes) (maxL := maxL) (ret := ret) hM hp.1 hrc hrs hfr hlo hws hcw (fun a' U hW => word_at hW (Or.inl (by first | rfl | simp [Cond.onTables, Cond.keeps, Cond.steady])) hini)
  obtain ⟨hx, hb, hml, ho, -⟩ := S
  intro T hT X
  obtain ⟨v, vm₁, ⟨U', l2, c2, s2⟩, hW₁, X', ⟨g', mk, t, L, e1, e2, hq, h1, hL, h2, h3⟩, st⟩ := vx_callSW X hx (hh := hh) (bytes := bytes) (maxL := maxL) (ret := ret) ho hl hstt hini hcode hy hK hg (hsize.trans hml.symm) (argsL := As) (rest := rest) (fun sig h => hn.trans (hlen sig h)) hstack hW (by rw [hb]; exact hdg)
    (fun vm₁ hW₁ => ⟨hf.1, hf.2, hp.2 (T.setVm vm₁) hT hW₁⟩)
  dsimp only [Pt.U, Pt.locs, Pt.cells, Pt.slots] at X' e1 e2 h1 h2 h3 st
  subst h1; subst h2; subst h3
  exact ⟨v, (T.setVm vm₁).calling g' mk As.toArray, t, U', L, hT, X', hL, e1, e2, hq, st⟩
/-- not caught here, past rows that name other classes: it goes on to the caller -/
theorem vx_outP {p : Program} {l : Launch} {e : Env} {R : Room} {s : State} {m : MethodId} {args : Array Value} {below : List Frame} {meth : Method} {c : Code} {H : Heap} {locs : List Loc} {cells slots : Nat} {free : Addr → Prop} {ls : Array Slot} {rest : List Value} {Qc : Array Value → State → Outcome → State → Prop} {XC : String → State → State → Prop}
    {pc : Nat} {own E : String} {ce : Cell} {q : Addr} {mc ms : Nat} (hown : s.vm.findClass own = some m.cls) (hlocks : meth.locks = false)
    (hpass : ∀ z ∈ c.exceptionTable.toList, covers z pc = false ∨ (z.catchType ≠ 0 ∧ ∃ nm : String, (Cond.classLink own z.catchType nm).before args s = true ∧ va_Nc E nm s)) (hcell : H[q]? = some ce) (hv : ce.vm = .none) (hcl : s.vm.findClass E = some ce.cls)
    (hx : ∀ t : State, t.heap = H → s.vm.Alike t.vm → XC E s t) (hf : ∀ z ∈ locs, free z.base) (hc : cells ≤ mc) (hs : slots ≤ ms) :
    vx_W p l e R s m args below meth c H locs cells slots (vx_MQ below Qc XC args s mc ms free) (F0 m pc ls rest) q := by
  intro T hT X
  have hpl : e.platform.magicAccessors = ({} : Platform).magicAccessors := by rw [X.admits.platform]
  obtain ⟨vm', hW', X', st⟩ := X.outThrough hlocks q (g := F0 m pc ls rest) rfl rfl rfl (cell := ce) (by rw [hT]; exact hcell) (by rw [hv]; rfl)
    (by obtain ⟨k9, h9, -⟩ := Vm.findClass_spec hcl; exact ⟨k9, h9⟩) (fun z hz => by
      rcases hpass z hz with h | ⟨hz0, nm, hl1, hn1⟩
      · exact Or.inl h
      · obtain ⟨c6, hc6, hcl6⟩ := Cond.classLink_spec hown hl1 e.platform hpl
        obtain ⟨a8, b8, h1, h2, h3⟩ := hn1
        cases Option.some.inj (h1.symm.trans hcl)
        cases Option.some.inj (h2.symm.trans hc6)
        exact Or.inr ⟨hz0, _, hcl6, h3⟩)
  obtain ⟨g₀, hfr⟩ := X'.frames_eq
  have hcell9 : ((T.setVm vm').setFrames (.throwing q :: below)).heap[q]? = some ce := by
    show T.heap[q]? = some ce
    rw [hT]; exact hcell
  have hend : Ended ((T.setVm vm').setFrames (.throwing q :: below)) below (.threw q) := State.frames_setFrames _ (State.cur_lt_of_frames hfr)
  refine ⟨(T.setVm vm').setFrames (.throwing q :: below), ?_, .threw q, X'.here.running, hend, Or.inr ⟨q, rfl, E, ce, locs, hx _ hT (X'.ends _).1.alike, hcell9, hv, hcl, (X'.ends _).1, (X'.ends _).2.mono hc hs, hf⟩⟩
  rw [X.pushThrowing_eq]
  exact st
/-- a thing of a world lies in the heap -/
theorem vx_lt {D : va_G} {cl : List vw_C} {ws : va_W} {H1 : Heap} (h : va_P D cl ws H1) {k : Nat} {q : Nat × va_E} (hk : ws[k]? = some q) : q.1 < H1.size := (h k q hk).lt
end VXS
/-! ===== END ===== -/
/-! ===== BEGIN methods with a table of their own: called by a name, returning or throwing ===== -/
section VXH
/-! vx_backW, vx_callVX, vx_callSX, vx_callVW, vx_runVW, vx_runVX, vx_runSX, vx_ofWH follow the same proofs as their sisters above (Free/Laws.lean, Shelf42/LK1.lean); vx_outP calls Shelf42/NT130.lean (outThrough). -/
section
variable {l : Launch} {R : Room} {p : Program} {e : Env} {below : List Frame} {s : State} {sargs : Array Value} {y : MethodName} {len W9 : Nat}
theorem vx_backW {ws : List Cond} {rm : Room} {Pc : Array Value → State → Prop} {Qc : Array Value → State → Outcome → State → Prop} {XC : String → State → State → Prop} {mc ms : Nat} {free : Addr → Prop} {bytes : ByteArray} {maxL : Nat} {ret : Option FieldType} {hh : List (Nat × Nat × Nat × Nat)}
    (hM : vx_Met l y ws rm Pc Qc XC mc ms free) (hblind : FrameBlind Pc) (hrc : rm.cells = mc) (hrs : rm.slots = ms)
    (hframes : rm.frames + 1 ≤ R.frames) (hlocals : W9 + (maxL + 11) + rm.locals ≤ R.locals)
    (hws : ∀ w ∈ ws, ∀ a' U, s.WarmedH U.vm → w.before a' U = true) (hcode : Cond.codeWith y bytes maxL ret hh ∈ ws) (hinit : ∀ a' U, s.WarmedH U.vm → (Cond.initialized y.cls).before a' U = true) :
    vx_Back l R p e below s sargs y len W9 (PreOf R mc ms Pc) (PostOf Qc mc ms free) (vx_Post XC mc ms free) := by
  intro m meth c A g ig mk a X hg hsize hdg hW hn hp
  have h1 : (headSpec ws rm).pre.before a A.U = true := atoms_intro fun w hw => hws w hw _ _ X.warmed
  have h2 : (Cond.codeWith y bytes maxL ret hh).before a A.U = true := hws _ hcode _ _ X.warmed
  have h3 : (Cond.initialized y.cls).before a A.U = true := hinit _ _ X.warmed
  have h4 : A.cells + (headSpec ws rm).room.cells ≤ R.cells := by rw [show (headSpec ws rm).room.cells = mc from hrc]; exact hp.1
  have h5 : A.slots + (headSpec ws rm).room.slots ≤ R.slots := by rw [show (headSpec ws rm).room.slots = ms from hrs]; exact hp.2.1
  have hPc : Pc a (A.U.calling g mk a) := hblind _ _ _ _ hp.2.2
  obtain ⟨U, Ls, c0, s0⟩ := A
  dsimp only [Pt.U, Pt.locs, Pt.cells, Pt.slots] at h1 h2 h3 h4 h5 X hn hPc ⊢
  obtain ⟨m9, methY, cY, hn9, hmY, hcY, -, hlY, -⟩ := Cond.codeWith_spec h2
  cases Option.some.inj (hn9.symm.trans hn)
  obtain ⟨kY, hkY, -⟩ := className_of_methodNamed hn
  have hinitY : kY.init = .initialized := Cond.initialized_spec (findClass_of_methodNamed hn) hkY h3
  have h : At U g.method c below := by rw [hg]; exact X.here
  have hlocals9 : W9 + (maxL + 11) + (headSpec ws rm).room.locals ≤ R.locals := hlocals
  have happ : (headSpec ws rm).appliesLoose y e.platform (U.calling g mk a) = true :=
    Spec.appliesLoose_calling (g := g) h hdg hn hkY hinitY
      (X.room_calling (g := g) (R' := (headSpec ws rm).room) hsize hmY hcY hframes (by rw [hlY]; omega) h4 h5) h1
  obtain ⟨mid, hmid⟩ := h.above
  have hfr : (U.setTop g).frames = (.java g :: mid) ++ below := by rw [State.frames_setTop' g h.top, hmid]; rfl
  obtain ⟨o, s₂, hsteps, -, hend, hq⟩ := Steps.callFree hM p X.admits X.cas X.clock (acts := []) hfr happ hPc trivial
  have hq' : vx_Q Qc XC mc ms free a (U.calling g mk a) o s₂ := hq
  rw [State.frames_setTop' g h.top] at hend
  obtain ⟨g₀, hg0⟩ := Option.isSome_iff_exists.mp h.top
  obtain ⟨r, hr⟩ := State.topJava?_eq_some.mp hg0
  have hr' : (({ U with heap := s₂.heap, slotsUsed := s₂.slotsUsed } : State).setVm s₂.vm).frames = .java g₀ :: r := hr
  rcases hq' with ⟨hqc, L, hfe, hL⟩ | ⟨q, rfl, E, ce, L, hx, hce, hcv, hcl, hW₂, hsm, hL⟩
  · obtain ⟨⟨v, rfl⟩, hW₂, e2, q2, q3, q4, q5, q6⟩ := id hfe
    have e3 : s₂ = ({ (U.calling g mk a).setFrames s₂.frames with heap := s₂.heap, slotsUsed := s₂.slotsUsed } : State).setVm s₂.vm := by
      have : s₂ = ({ s₂ with vm := (U.calling g mk a).vm } : State).setVm s₂.vm := rfl
      rw [e2] at this
      exact this
    obtain ⟨c₂, i₂, len₂, hc₂, hd₂, hf₂⟩ := hend
    have hW' : U.WarmedH s₂.vm := hW₂
    have hcc : c₂ = c := by
      have h1 : s₂.code? g.method = U.code? g.method := by
        rw [State.code?_eq, State.code?_eq, hW'.alike.method?]
      exact Option.some.inj (hc₂.symm.trans (h1.trans h.code))
    subst hcc
    have hlen : len₂ = len := by rw [hdg] at hd₂; cases hd₂; rfl
    subst hlen
    have hs₂ : s₂ = (({ U with heap := s₂.heap, slotsUsed := s₂.slotsUsed } : State).setVm s₂.vm).setTop { g with pc := g.pc + len₂, stack := v.toList ++ g.stack } := by
      refine e3.trans ?_
      rw [hf₂, State.calling_eq h.top, State.setFrames_setFrames, State.setTop_of_frames _ hr', hr]
      rfl
    have hsame : U.sameButNew ({ U with heap := s₂.heap, slotsUsed := s₂.slotsUsed } : State) L mc ms := by
      refine ⟨?_, q2, q3, q4, q5, q6⟩
      obtain ⟨t, ht, -⟩ := State.frames_cons hr
      show ({ U with heap := s₂.heap, slotsUsed := s₂.slotsUsed } : State) = { U.setFrames U.frames with heap := s₂.heap, slotsUsed := s₂.slotsUsed }
      rw [State.setFrames_self ht]
    subst hg
    refine Or.inl ⟨v, ⟨(({ U with heap := s₂.heap, slotsUsed := s₂.slotsUsed } : State).setVm s₂.vm), Ls ++ L, c0 + mc, s0 + ms⟩,
      ⟨X.admits, X.cas, X.clock, X.frames, X.room, X.hears, X.method, X.code, (X.here.setHeapUsed s₂.heap s₂.slotsUsed).setVm hW'.alike, X.tail, State.WarmedH.trans X.warmed hW', X.limits, X.bytes, X.same.trans (hsame.setVm s.vm)⟩,
      ⟨g, mk, s₂, L, rfl, rfl, hqc, rfl, hL, rfl, rfl⟩, ?_⟩
    show Steps p.tables e below _ ((({ U with heap := s₂.heap, slotsUsed := s₂.slotsUsed } : State).setVm s₂.vm).setTop { g with pc := g.pc + len₂, stack := v.toList ++ g.stack })
    rw [← hs₂]
    exact hsteps
  · obtain ⟨e2, q2, q3, q4, q5, q6⟩ := id hsm
    have e3 : s₂ = ({ (U.calling g mk a).setFrames s₂.frames with heap := s₂.heap, slotsUsed := s₂.slotsUsed } : State).setVm s₂.vm := by
      have : s₂ = ({ s₂ with vm := (U.calling g mk a).vm } : State).setVm s₂.vm := rfl
      rw [e2] at this
      exact this
    have hf₂ : s₂.frames = .throwing q :: .java g :: U.frames.tail := hend
    have hW' : U.WarmedH s₂.vm := hW₂
    have hs₂ : s₂ = ((({ U with heap := s₂.heap, slotsUsed := s₂.slotsUsed } : State).setVm s₂.vm).setTop g).pushFrame (.throwing q) := by
      refine e3.trans ?_
      rw [hf₂, State.calling_eq h.top, State.setFrames_setFrames, State.pushFrame, State.frames_setTop _ hr', State.setTop_of_frames _ hr', State.setFrames_setFrames, hr]
      rfl
    have hsame : U.sameButNew ({ U with heap := s₂.heap, slotsUsed := s₂.slotsUsed } : State) L mc ms := by
      refine ⟨?_, q2, q3, q4, q5, q6⟩
      obtain ⟨t, ht, -⟩ := State.frames_cons hr
      show ({ U with heap := s₂.heap, slotsUsed := s₂.slotsUsed } : State) = { U.setFrames U.frames with heap := s₂.heap, slotsUsed := s₂.slotsUsed }
      rw [State.setFrames_self ht]
    subst hg
    refine Or.inr ⟨q, ⟨(({ U with heap := s₂.heap, slotsUsed := s₂.slotsUsed } : State).setVm s₂.vm), Ls ++ L, c0 + mc, s0 + ms⟩,
      ⟨X.admits, X.cas, X.clock, X.frames, X.room, X.hears, X.method, X.code, (X.here.setHeapUsed s₂.heap s₂.slotsUsed).setVm hW'.alike, X.tail, State.WarmedH.trans X.warmed hW', X.limits, X.bytes, X.same.trans (hsame.setVm s.vm)⟩,
      ⟨g, mk, s₂, L, E, ce, rfl, rfl, hx, hce, hcv, hcl, rfl, hL, rfl, rfl⟩, ?_⟩
    show Steps p.tables e below _ (((({ U with heap := s₂.heap, slotsUsed := s₂.slotsUsed } : State).setVm s₂.vm).setTop g).pushFrame (.throwing q))
    rw [← hs₂]
    exact hsteps
end
variable {p : Program} {l : Launch} {e : Env} {R : Room} {s : State} {m : MethodId} {args : Array Value} {below : List Frame} {meth : Method} {c : Code} {T : State} {H : Heap} {locs : List Loc} {cells slots : Nat}
theorem vx_callVX (X : Stand p l e R s m args below meth c T locs cells slots) (hexec : p.tables.exec = Jvm.exec) {own C : String} {index : Nat} {y : MethodName} {bytes : ByteArray} {maxL : Nat} {ret : Option FieldType} {hh : List (Nat × Nat × Nat × Nat)}
    (hown : s.vm.findClass own = some m.cls) (hlink : (Cond.methodLink own index y).before args s = true) (hinst : (Cond.instanceMethod y).before args s = true) (hsel : (Cond.selects C y y).before args s = true)
    (hcode : (Cond.codeWith y bytes maxL ret hh).before args s = true) (hy : y.cls ≠ "java/lang/invoke/MethodHandle" ∧ y.cls ≠ "java/lang/invoke/VarHandle")
    {W9 : Nat} {Pre : Pt → Array Value → Prop} {Post : Pt → Array Value → Option Value → Pt → Prop} {PostX : Pt → Array Value → Addr → Pt → Prop} (hK : vx_Back l R p e below s args y 3 W9 Pre Post PostX)
    {b : Addr} {cellB : Cell} (hcell : T.heap[b]? = some cellB) (hobj : cellB.vm.isStatics = false) (hcls : s.vm.findClass C = some cellB.cls)
    {g : JFrame} (hg : g.method = m) (hsize : g.locals.size = c.maxLocals) {argsL rest : List Value} (hlen : ∀ sig, parseMethodDescriptor y.desc = some sig → argsL.length = sig.parameters.length)
    (hstack : g.stack = argsL.reverse ++ .ref b :: rest) (hW : 2 * g.monitorRoom + (rest.map fun v => v.category).sum ≤ W9) (hdg : decode c.code g.pc = .ok (.invokevirtual index, 3))
    (hpre : ∀ vm₁, s.WarmedH vm₁ → Pre ⟨T.setVm vm₁, locs, cells, slots⟩ (Value.ref b :: argsL).toArray) :
    (∃ (v : Option Value) (vm₁ : Vm) (B : Pt), s.WarmedH vm₁ ∧ Stand p l e R s m args below meth c B.U B.locs B.cells B.slots ∧ Post ⟨T.setVm vm₁, locs, cells, slots⟩ (Value.ref b :: argsL).toArray v B ∧
      ∀ target, Steps p.tables e below (B.U.setTop { g with pc := g.pc + 3, stack := v.toList ++ rest }) target → Steps p.tables e below (T.setTop g) target) ∨
    (∃ (q : Addr) (vm₁ : Vm) (B : Pt), s.WarmedH vm₁ ∧ Stand p l e R s m args below meth c B.U B.locs B.cells B.slots ∧ PostX ⟨T.setVm vm₁, locs, cells, slots⟩ (Value.ref b :: argsL).toArray q B ∧
      Steps p.tables e below (T.setTop g) ((B.U.setTop { g with stack := rest }).pushFrame (.throwing q))) := by
  obtain ⟨mk, methM, hnamed, hmethM, hstM, habM⟩ := Cond.instanceMethod_spec hinst
  obtain ⟨m8, methM', cM, hn8, hmethM', -, -, -, -, -, -, hsigM⟩ := Cond.codeWith_spec hcode
  cases Option.some.inj (hn8.symm.trans hnamed)
  cases hmethM.symm.trans hmethM'
  obtain ⟨c2, r2, m2, q1, q2, q3, q4, kP, hkP, hkPi⟩ := Cond.selects_spec hsel
  cases hcls.symm.trans q1
  cases (State.methodFound?_of_named hnamed hy).symm.trans q2
  cases hnamed.symm.trans q3
  have hselP : selectMethod e.platform s.vm cellB.cls mk = .method mk := by rw [Launch.admits_selectMethod X.admits]; exact q4
  obtain ⟨vm₁, X₁, hstep₁⟩ := X.invokevirtual hexec hown hlink hnamed hmethM hstM hkP hkPi hy (a := b) (cell := cellB) hcell
    (fun z h => by rw [h] at hobj; cases hobj) hselP hmethM habM hkP hkPi (g := g) hg (argsL := argsL) (rest := rest) (hlen _ hsigM) hstack hdg
  rcases hK m meth c ⟨T.setVm vm₁, locs, cells, slots⟩ { g with stack := rest } (.invokevirtual index) mk (Value.ref b :: argsL).toArray X₁ hg hsize hdg hW (X₁.named hnamed) (hpre vm₁ X₁.warmed) with ⟨v, B, X', hpost, hsteps⟩ | ⟨q, B, X', hpost, hsteps⟩
  · exact Or.inl ⟨v, vm₁, B, X₁.warmed, X', hpost, fun target h => hstep₁ _ fun acts => by rw [doInvoke_state]; exact hsteps.trans h⟩
  · exact Or.inr ⟨q, vm₁, B, X₁.warmed, X', hpost, hstep₁ _ fun acts => by rw [doInvoke_state]; exact hsteps⟩
theorem vx_callSX (X : Stand p l e R s m args below meth c T locs cells slots) (hexec : p.tables.exec = Jvm.exec) {own : String} {index : Nat} {y : MethodName} {bytes : ByteArray} {maxL : Nat} {ret : Option FieldType} {hh : List (Nat × Nat × Nat × Nat)}
    (hown : s.vm.findClass own = some m.cls) (hlink : (Cond.methodLink own index y).before args s = true) (hstat : (Cond.static y).before args s = true) (hinit : (Cond.initialized y.cls).before args s = true)
    (hcode : (Cond.codeWith y bytes maxL ret hh).before args s = true) (hy : y.cls ≠ "java/lang/invoke/MethodHandle" ∧ y.cls ≠ "java/lang/invoke/VarHandle")
    {W9 : Nat} {Pre : Pt → Array Value → Prop} {Post : Pt → Array Value → Option Value → Pt → Prop} {PostX : Pt → Array Value → Addr → Pt → Prop} (hK : vx_Back l R p e below s args y 3 W9 Pre Post PostX)
    {g : JFrame} (hg : g.method = m) (hsize : g.locals.size = c.maxLocals) {argsL rest : List Value} (hlen : ∀ sig, parseMethodDescriptor y.desc = some sig → argsL.length = sig.parameters.length)
    (hstack : g.stack = argsL.reverse ++ rest) (hW : 2 * g.monitorRoom + (rest.map fun v => v.category).sum ≤ W9) (hdg : decode c.code g.pc = .ok (.invokestatic index, 3))
    (hpre : ∀ vm₁, s.WarmedH vm₁ → Pre ⟨T.setVm vm₁, locs, cells, slots⟩ argsL.toArray) :
    (∃ (v : Option Value) (vm₁ : Vm) (B : Pt), s.WarmedH vm₁ ∧ Stand p l e R s m args below meth c B.U B.locs B.cells B.slots ∧ Post ⟨T.setVm vm₁, locs, cells, slots⟩ argsL.toArray v B ∧
      ∀ target, Steps p.tables e below (B.U.setTop { g with pc := g.pc + 3, stack := v.toList ++ rest }) target → Steps p.tables e below (T.setTop g) target) ∨
    (∃ (q : Addr) (vm₁ : Vm) (B : Pt), s.WarmedH vm₁ ∧ Stand p l e R s m args below meth c B.U B.locs B.cells B.slots ∧ PostX ⟨T.setVm vm₁, locs, cells, slots⟩ argsL.toArray q B ∧
      Steps p.tables e below (T.setTop g) ((B.U.setTop { g with stack := rest }).pushFrame (.throwing q))) := by
  obtain ⟨mk, methM, cM, hnamed, hmethM, -, -, -, -, -, -, hsigM⟩ := Cond.codeWith_spec hcode
  have hstatic : methM.isStatic = true := Cond.static_spec hnamed hmethM hstat
  obtain ⟨kP, hkP, -⟩ := className_of_methodNamed hnamed
  have hinitP : kP.init = .initialized := Cond.initialized_spec (findClass_of_methodNamed hnamed) hkP hinit
  obtain ⟨vm₁, X₁, hstep₁⟩ := X.invokestatic hexec hown hlink hnamed hmethM hstatic hkP hinitP hy (g := g) hg (argsL := argsL) (rest := rest) (hlen _ hsigM) hstack hdg
  rcases hK m meth c ⟨T.setVm vm₁, locs, cells, slots⟩ { g with stack := rest } (.invokestatic index) mk argsL.toArray X₁ hg hsize hdg hW (X₁.named hnamed) (hpre vm₁ X₁.warmed) with ⟨v, B, X', hpost, hsteps⟩ | ⟨q, B, X', hpost, hsteps⟩
  · exact Or.inl ⟨v, vm₁, B, X₁.warmed, X', hpost, fun target h => hstep₁ _ fun acts => by rw [doInvoke_state]; exact hsteps.trans h⟩
  · exact Or.inr ⟨q, vm₁, B, X₁.warmed, X', hpost, hstep₁ _ fun acts => by rw [doInvoke_state]; exact hsteps⟩
theorem vx_callVW (X : Stand p l e R s m args below meth c T locs cells slots) (hexec : p.tables.exec = Jvm.exec) {own C : String} {index : Nat} {y : MethodName} {bytes : ByteArray} {maxL : Nat} {ret : Option FieldType} {hh : List (Nat × Nat × Nat × Nat)}
    (hown : s.vm.findClass own = some m.cls) (hlink : (Cond.methodLink own index y).before args s = true) (hinst : (Cond.instanceMethod y).before args s = true) (hsel : (Cond.selects C y y).before args s = true)
    (hcode : (Cond.codeWith y bytes maxL ret hh).before args s = true) (hy : y.cls ≠ "java/lang/invoke/MethodHandle" ∧ y.cls ≠ "java/lang/invoke/VarHandle")
    {W9 : Nat} {Pre : Pt → Array Value → Prop} {Post : Pt → Array Value → Option Value → Pt → Prop} (hK : Back l R p e below s args y 3 W9 Pre Post)
    {b : Addr} {cellB : Cell} (hcell : T.heap[b]? = some cellB) (hobj : cellB.vm.isStatics = false) (hcls : s.vm.findClass C = some cellB.cls)
    {g : JFrame} (hg : g.method = m) (hsize : g.locals.size = c.maxLocals) {argsL rest : List Value} (hlen : ∀ sig, parseMethodDescriptor y.desc = some sig → argsL.length = sig.parameters.length)
    (hstack : g.stack = argsL.reverse ++ .ref b :: rest) (hW : 2 * g.monitorRoom + (rest.map fun v => v.category).sum ≤ W9) (hdg : decode c.code g.pc = .ok (.invokevirtual index, 3))
    (hpre : ∀ vm₁, s.WarmedH vm₁ → Pre ⟨T.setVm vm₁, locs, cells, slots⟩ (Value.ref b :: argsL).toArray) :
    ∃ (v : Option Value) (vm₁ : Vm) (B : Pt), s.WarmedH vm₁ ∧ Stand p l e R s m args below meth c B.U B.locs B.cells B.slots ∧ Post ⟨T.setVm vm₁, locs, cells, slots⟩ (Value.ref b :: argsL).toArray v B ∧
      ∀ target, Steps p.tables e below (B.U.setTop { g with pc := g.pc + 3, stack := v.toList ++ rest }) target → Steps p.tables e below (T.setTop g) target := by
  obtain ⟨mk, methM, hnamed, hmethM, hstM, habM⟩ := Cond.instanceMethod_spec hinst
  obtain ⟨m8, methM', cM, hn8, hmethM', -, -, -, -, -, -, hsigM⟩ := Cond.codeWith_spec hcode
  cases Option.some.inj (hn8.symm.trans hnamed)
  cases hmethM.symm.trans hmethM'
  obtain ⟨c2, r2, m2, q1, q2, q3, q4, kP, hkP, hkPi⟩ := Cond.selects_spec hsel
  cases hcls.symm.trans q1
  cases (State.methodFound?_of_named hnamed hy).symm.trans q2
  cases hnamed.symm.trans q3
  have hselP : selectMethod e.platform s.vm cellB.cls mk = .method mk := by rw [Launch.admits_selectMethod X.admits]; exact q4
  obtain ⟨vm₁, X₁, hstep₁⟩ := X.invokevirtual hexec hown hlink hnamed hmethM hstM hkP hkPi hy (a := b) (cell := cellB) hcell
    (fun z h => by rw [h] at hobj; cases hobj) hselP hmethM habM hkP hkPi (g := g) hg (argsL := argsL) (rest := rest) (hlen _ hsigM) hstack hdg
  obtain ⟨v, B, X', hpost, hsteps⟩ := hK m meth c ⟨T.setVm vm₁, locs, cells, slots⟩ { g with stack := rest } (.invokevirtual index) mk (Value.ref b :: argsL).toArray X₁ hg hsize hdg hW (X₁.named hnamed) (hpre vm₁ X₁.warmed)
  exact ⟨v, vm₁, B, X₁.warmed, X', hpost, fun target h => hstep₁ _ fun acts => by rw [doInvoke_state]; exact hsteps.trans h⟩
abbrev vx_CVW (R : Room) (s : State) (args : Array Value) (own C : String) (index : Nat) (y : MethodName) (bytes : ByteArray) (maxL : Nat) (ret : Option FieldType) (hh : List (Nat × Nat × Nat × Nat)) (ws : List Cond) (rm : Room) (mc ms n : Nat) : Prop :=
  (rm.cells = mc ∧ rm.slots = ms ∧ rm.frames + 1 ≤ R.frames ∧ 8 + (maxL + 11) + rm.locals ≤ R.locals ∧ (∀ w ∈ ws, ∀ (a' : Array Value) (U : State), s.WarmedH U.vm → w.before a' U = true) ∧ Cond.codeWith y bytes maxL ret hh ∈ ws) ∧
  (Cond.codeWith y bytes maxL ret hh).before args s = true ∧ (Cond.initialized y.cls).before args s = true ∧ (y.cls ≠ "java/lang/invoke/MethodHandle" ∧ y.cls ≠ "java/lang/invoke/VarHandle") ∧
  (∀ sig, parseMethodDescriptor y.desc = some sig → n = sig.parameters.length) ∧ (Cond.methodLink own index y).before args s = true ∧ (Cond.instanceMethod y).before args s = true ∧ (Cond.selects C y y).before args s = true
theorem vx_cwVW {own C : String} {index maxL mc ms : Nat} {y : MethodName} {bytes : ByteArray} {ret : Option FieldType} {hh : List (Nat × Nat × Nat × Nat)} {Ts ws ws' : List Cond} {rm : Room} (n : Nat) (ht : ∀ w ∈ Ts, w.before args s = true) (hT : GoodIn Ts (wsV own index C y ws)) (hw : ws = Cond.codeWith y bytes maxL ret hh :: ws') (hrc : rm.cells = mc) (hrs : rm.slots = ms)
    (hd : y.cls = C ∧ y.cls ≠ "java/lang/invoke/MethodHandle" ∧ y.cls ≠ "java/lang/invoke/VarHandle" ∧ (parseMethodDescriptor y.desc).map (fun d => d.parameters.length) = some n) (hR : rm.frames + 1 ≤ R.frames ∧ 8 + (maxL + 11) + rm.locals ≤ R.locals) :
    vx_CVW R s args own C index y bytes maxL ret hh ws rm mc ms n := by
  obtain ⟨hC, hd⟩ := hd
  subst hC
  have ok : ∀ w ∈ wsV own index y.cls y ws, w.before args s = true := fun w h => ht w (hT w h).1
  have hG : GoodIn Ts ws := fun w h => hT w (by unfold wsV; exact List.mem_append_right _ h)
  have hc : Cond.codeWith y bytes maxL ret hh ∈ ws := by rw [hw]; exact List.mem_cons_self
  refine ⟨⟨hrc, hrs, hR.1, hR.2, pay_in ht hG, hc⟩, ht _ (hG _ hc).1, ok _ (by simp [wsV]), ⟨hd.1, hd.2.1⟩, fun sig h => ?_, ok _ (by simp [wsV]), ok _ (by simp [wsV]), ok _ (by simp [wsV])⟩
  have h2 := hd.2.2
  rw [h] at h2
  exact (Option.some.inj h2).symm
theorem vx_runVW {y : MethodName} {bytes cc : ByteArray} {maxL nL mc ms n index : Nat} {ret : Option FieldType} {hh : List (Nat × Nat × Nat × Nat)} {ws : List Cond} {rm : Room} {Pc : Array Value → State → Prop} {Qc : Array Value → State → Outcome → State → Prop} {free : Addr → Prop} {Ts : List Cond} {own C : String} {b : Addr} {As rest : List Value} {g : JFrame}
    (S : CallFix p m c cc nL s args Ts own) (hM : Met l y ws rm Pc Qc mc ms free) (cw : vx_CVW R s args own C index y bytes maxL ret hh ws rm mc ms n) (hp : PreV s H C b Pc As)
    (hg : g.method = m) (hn : As.length = n) (hsize : g.locals.size = nL) (hstack : g.stack = As.reverse ++ .ref b :: rest) (hW : 2 * g.monitorRoom + (rest.map fun v => v.category).sum ≤ 8) (hdg : decode cc g.pc = .ok (.invokevirtual index, 3)) (hf : cells + mc ≤ R.cells ∧ slots + ms ≤ R.slots) :
    va_Run p l e R s m args below meth c H locs cells slots mc ms g rest (Qc (Value.ref b :: As).toArray) free := by
  obtain ⟨⟨hrc, hrs, hfr, hlo, hws, hcw⟩, hcode, hini, hy, hlen, hl, hin, hse⟩ := cw
  have hK : Back l R p e below s args y 3 8 (PreOf R mc ms Pc) (PostOf Qc mc ms free) := va_backW (hh := hh) (bytes := bytes) (maxL := maxL) (ret := ret) hM hp.1 hrc hrs hfr hlo hws hcw (fun a' U hW => word_at hW (Or.inl (by first | rfl | simp [Cond.onTables, Cond.keeps, Cond.steady])) hini)
  obtain ⟨hx, hb, hml, ho, -⟩ := S
  obtain ⟨-, ⟨cellB, hcB, hoB, hclB⟩, hPc⟩ := hp
  intro T hT X
  obtain ⟨v, vm₁, ⟨U', l2, c2, s2⟩, hW₁, X', ⟨g', mk, t, L, e1, e2, hq, h1, hL, h2, h3⟩, st⟩ := vx_callVW X hx (C := C) (hh := hh) (bytes := bytes) (maxL := maxL) (ret := ret) ho hl hin hse hcode hy hK (by rw [hT]; exact hcB) hoB hclB hg (hsize.trans hml.symm) (argsL := As) (rest := rest) (fun sig h => hn.trans (hlen sig h)) hstack hW (by rw [hb]; exact hdg)
    (fun vm₁ hW₁ => ⟨hf.1, hf.2, hPc (T.setVm vm₁) hT hW₁⟩)
  dsimp only [Pt.U, Pt.locs, Pt.cells, Pt.slots] at X' e1 e2 h1 h2 h3 st
  subst h1; subst h2; subst h3
  exact ⟨v, (T.setVm vm₁).calling g' mk (Value.ref b :: As).toArray, t, U', L, hT, X', hL, e1, e2, hq, st⟩
section
variable {y : MethodName} {bytes cc : ByteArray} {maxL nL mc ms n index : Nat} {ret : Option FieldType} {ws : List Cond} {rm : Room} {Pc : Array Value → State → Prop} {Qc : Array Value → State → Outcome → State → Prop} {XC : String → State → State → Prop} {free : Addr → Prop} {Ts : List Cond} {own C : String} {b : Addr} {As rest : List Value} {g : JFrame}
theorem vx_runVX {hh : List (Nat × Nat × Nat × Nat)} (S : CallFix p m c cc nL s args Ts own) (hM : vx_Met l y ws rm Pc Qc XC mc ms free) (cw : vx_CVW R s args own C index y bytes maxL ret hh ws rm mc ms n) (hp : PreV s H C b Pc As)
    (hg : g.method = m) (hn : As.length = n) (hsize : g.locals.size = nL) (hstack : g.stack = As.reverse ++ .ref b :: rest) (hW : 2 * g.monitorRoom + (rest.map fun v => v.category).sum ≤ 8) (hdg : decode cc g.pc = .ok (.invokevirtual index, 3)) (hf : cells + mc ≤ R.cells ∧ slots + ms ≤ R.slots) :
    vx_Run p l e R s m args below meth c H locs cells slots mc ms g rest (Qc (Value.ref b :: As).toArray) XC free := by
  obtain ⟨⟨hrc, hrs, hfr, hlo, hws, hcw⟩, hcode, hini, hy, hlen, hl, hin, hse⟩ := cw
  have hK : vx_Back l R p e below s args y 3 8 (PreOf R mc ms Pc) (PostOf Qc mc ms free) (vx_Post XC mc ms free) := vx_backW (hh := hh) (bytes := bytes) (maxL := maxL) (ret := ret) hM hp.1 hrc hrs hfr hlo hws hcw (fun a' U hW => word_at hW (Or.inl (by first | rfl | simp [Cond.onTables, Cond.keeps, Cond.steady])) hini)
  obtain ⟨hx, hb, hml, ho, -⟩ := S
  obtain ⟨-, ⟨cellB, hcB, hoB, hclB⟩, hPc⟩ := hp
  intro T hT X
  rcases vx_callVX X hx (C := C) (hh := hh) (bytes := bytes) (maxL := maxL) (ret := ret) ho hl hin hse hcode hy hK (by rw [hT]; exact hcB) hoB hclB hg (hsize.trans hml.symm) (argsL := As) (rest := rest) (fun sig h => hn.trans (hlen sig h)) hstack hW (by rw [hb]; exact hdg)
    (fun vm₁ hW₁ => ⟨hf.1, hf.2, hPc (T.setVm vm₁) hT hW₁⟩) with ⟨v, vm₁, ⟨U', l2, c2, s2⟩, hW₁, X', ⟨g', mk, t, L, e1, e2, hq, h1, hL, h2, h3⟩, st⟩ | ⟨q, vm₁, ⟨U', l2, c2, s2⟩, hW₁, X', ⟨g', mk, t, L, E, ce, e1, e2, hq, hce, hcv, hcl, h1, hL, h2, h3⟩, st⟩
  · dsimp only [Pt.U, Pt.locs, Pt.cells, Pt.slots] at X' e1 e2 h1 h2 h3 st
    subst h1; subst h2; subst h3
    exact Or.inl ⟨v, (T.setVm vm₁).calling g' mk (Value.ref b :: As).toArray, t, U', L, hT, X', hL, e1, e2, hq, st⟩
  · dsimp only [Pt.U, Pt.locs, Pt.cells, Pt.slots] at X' e1 e2 h1 h2 h3 st hcl
    subst h1; subst h2; subst h3
    exact Or.inr ⟨q, (T.setVm vm₁).calling g' mk (Value.ref b :: As).toArray, t, U', L, E, ce, hT, X', hL, e1, e2, hq, hce, hcv, vx_cls hW₁ hcl, st⟩
theorem vx_runSX {hh : List (Nat × Nat × Nat × Nat)} (S : CallFix p m c cc nL s args Ts own) (hM : vx_Met l y ws rm Pc Qc XC mc ms free) (cw : vx_CSW R s args own index y bytes maxL ret hh ws rm mc ms n) (hp : PreS s H Pc As)
    (hg : g.method = m) (hn : As.length = n) (hsize : g.locals.size = nL) (hstack : g.stack = As.reverse ++ rest) (hW : 2 * g.monitorRoom + (rest.map fun v => v.category).sum ≤ 8) (hdg : decode cc g.pc = .ok (.invokestatic index, 3)) (hf : cells + mc ≤ R.cells ∧ slots + ms ≤ R.slots) :
    vx_Run p l e R s m args below meth c H locs cells slots mc ms g rest (Qc As.toArray) XC free := by
  obtain ⟨⟨hrc, hrs, hfr, hlo, hws, hcw⟩, hcode, hini, hy, hlen, hl, hstt⟩ := cw
  have hK : vx_Back l R p e below s args y 3 8 (PreOf R mc ms Pc) (PostOf Qc mc ms free) (vx_Post XC mc ms free) := vx_backW (hh := hh) (bytes := bytes) (maxL := maxL) (ret := ret) hM hp.1 hrc hrs hfr hlo hws hcw (fun a' U hW => word_at hW (Or.inl (by first | rfl | simp [Cond.onTables, Cond.keeps, Cond.steady])) hini)
  obtain ⟨hx, hb, hml, ho, -⟩ := S
  intro T hT X
  rcases vx_callSX X hx (hh := hh) (bytes := bytes) (maxL := maxL) (ret := ret) ho hl hstt hini hcode hy hK hg (hsize.trans hml.symm) (argsL := As) (rest := rest) (fun sig h => hn.trans (hlen sig h)) hstack hW (by rw [hb]; exact hdg)
    (fun vm₁ hW₁ => ⟨hf.1, hf.2, hp.2 (T.setVm vm₁) hT hW₁⟩) with ⟨v, vm₁, ⟨U', l2, c2, s2⟩, hW₁, X', ⟨g', mk, t, L, e1, e2, hq, h1, hL, h2, h3⟩, st⟩ | ⟨q, vm₁, ⟨U', l2, c2, s2⟩, hW₁, X', ⟨g', mk, t, L, E, ce, e1, e2, hq, hce, hcv, hcl, h1, hL, h2, h3⟩, st⟩
  · dsimp only [Pt.U, Pt.locs, Pt.cells, Pt.slots] at X' e1 e2 h1 h2 h3 st
    subst h1; subst h2; subst h3
    exact Or.inl ⟨v, (T.setVm vm₁).calling g' mk As.toArray, t, U', L, hT, X', hL, e1, e2, hq, st⟩
  · dsimp only [Pt.U, Pt.locs, Pt.cells, Pt.slots] at X' e1 e2 h1 h2 h3 st hcl
    subst h1; subst h2; subst h3
    exact Or.inr ⟨q, (T.setVm vm₁).calling g' mk As.toArray, t, U', L, E, ce, hT, X', hL, e1, e2, hq, hce, hcv, vx_cls hW₁ hcl, st⟩
end
end VXH
theorem vx_ofWH {l : Launch} {y : MethodName} {ws ws' : List Cond} {rm : Room} {Pc : Array Value → State → Prop} {Qc : Array Value → State → Outcome → State → Prop} {XC : String → State → State → Prop} {mc ms : Nat} {free : Addr → Prop} {cc : ByteArray} {maxL : Nat} {ret : Option FieldType} {hh : List (Nat × Nat × Nat × Nat)}
    (hy : plainName y.cls = true) (hw : ws = Cond.codeWith y cc maxL ret hh :: ws')
    (body : ∀ p e s m args below meth c s₁, BodyLoose p l y (headSpec ws rm) cc maxL ret e s m args below meth c s₁ → c.maxLocals = maxL → Pc args s →
      W p l e (headSpec ws rm).room s m args below meth c s.heap [] 0 0 (vx_MQ below Qc XC args s mc ms free) (entryFrame m args maxL)) : vx_Met l y ws rm Pc Qc XC mc ms free := by
  refine MetFree.of_bodyS (code := cc) (maxLocals := maxL) (ret := ret) hy ?_ ?_
  · intro args s m h hn
    obtain ⟨m9, meth, c, hn9, h1, h2, h3, h4, -, h5, h6, -⟩ := Cond.codeWith_spec (atoms_spec (ws := ws) h _ (by rw [hw]; exact List.mem_cons_self))
    cases hn.symm.trans hn9
    exact ⟨meth, c, h1, h2, h3, h4, h5, h6⟩
  · intro p e s m args below meth c s₁ B hml hP _
    have hh0 : s₁.heap = s.heap := by rw [B.state]; rfl
    obtain ⟨t, a1, o, b1, b2, b3⟩ := body p e s m args below meth c s₁ B hml hP s₁ hh0 (Stand.of_body B)
    exact ⟨t, o, a1, b1, b2, b3⟩
/-! ===== END ===== -/
end
section
/-! ===== BEGIN printed: names, fields, word lists, decode rows ===== -/
def RX0 : String := "TollGateway$Call"
def TX0 : u_T := fun k => match k with
  | 0 => ("TollGateway$Call", "key", "LTollGateway$Key;", true)
  | 1 => ("TollGateway$Call", "worth", "I", true)
  | 2 => ("TollGateway$Call", "weight", "I", true)
  | 3 => ("TollGateway$Call", "dueTick", "I", true)
  | 4 => ("TollGateway$Call", "cost", "I", false)
  | 5 => ("TollGateway$Call", "endTick", "I", false)
  | _ => ("TollGateway$Call", "wasDisputed", "Z", false)
def tyX0 : Nat → FieldType := fun k => match k with
  | 0 => .object "TollGateway$Key"
  | 1 => .int
  | 2 => .int
  | 3 => .int
  | 4 => .int
  | 5 => .int
  | _ => .boolean
abbrev wsX00 : List Cond := u_ws RX0 TX0 7
theorem nmX0 : ∀ a, a < 7 → ∀ b, b < 7 → a ≠ b → (TX0 a).2.1 ≠ (TX0 b).2.1 := by decide +kernel
theorem tyX0_ok : ∀ k, k < 7 → parseFieldDescriptor (TX0 k).2.2.1 = some (tyX0 k) := by decide +kernel
abbrev cX0_init : ByteArray := prog_2_method_1_code
def yX0_init : MethodName := ⟨RX0, "<init>", "(LTollGateway$Key;III)V"⟩
abbrev cX0_hasEnded : ByteArray := prog_2_method_2_code
def yX0_hasEnded : MethodName := ⟨RX0, "hasEnded", "()Z"⟩
abbrev cX0_settle : ByteArray := prog_2_method_3_code
def yX0_settle : MethodName := ⟨RX0, "settle", "(II)V"⟩
abbrev cX0_costOf : ByteArray := prog_2_method_4_code
def yX0_costOf : MethodName := ⟨RX0, "costOf", "(I)I"⟩
abbrev cX0_giveBack : ByteArray := prog_2_method_5_code
def yX0_giveBack : MethodName := ⟨RX0, "giveBack", "()I"⟩
def RX1 : String := "TollGateway$Key"
def TX1 : u_T := fun k => match k with
  | 0 => ("TollGateway$Key", "plan", "LTollGateway$Plan;", false)
  | 1 => ("TollGateway$Key", "tokens", "I", false)
  | 2 => ("TollGateway$Key", "trustLine", "I", false)
  | 3 => ("TollGateway$Key", "credit", "I", false)
  | 4 => ("TollGateway$Key", "debt", "I", false)
  | 5 => ("TollGateway$Key", "held", "I", false)
  | 6 => ("TollGateway$Key", "openHolds", "I", false)
  | 7 => ("TollGateway$Key", "spent", "I", false)
  | _ => ("TollGateway$Key", "paid", "I", false)
def tyX1 : Nat → FieldType := fun k => match k with
  | 0 => .object "TollGateway$Plan"
  | 1 => .int
  | 2 => .int
  | 3 => .int
  | 4 => .int
  | 5 => .int
  | 6 => .int
  | 7 => .int
  | _ => .int
abbrev wsX10 : List Cond := u_ws RX1 TX1 9
theorem nmX1 : ∀ a, a < 9 → ∀ b, b < 9 → a ≠ b → (TX1 a).2.1 ≠ (TX1 b).2.1 := by decide +kernel
theorem tyX1_ok : ∀ k, k < 9 → parseFieldDescriptor (TX1 k).2.2.1 = some (tyX1 k) := by decide +kernel
abbrev cX1_init : ByteArray := prog_3_method_1_code
def yX1_init : MethodName := ⟨RX1, "<init>", "(LTollGateway$Plan;)V"⟩
abbrev cX1_receive : ByteArray := prog_3_method_2_code
def yX1_receive : MethodName := ⟨RX1, "receive", "(I)V"⟩
abbrev cX1_canCover : ByteArray := prog_3_method_3_code
def yX1_canCover : MethodName := ⟨RX1, "canCover", "(I)Z"⟩
abbrev cX1_openHold : ByteArray := prog_3_method_4_code
def yX1_openHold : MethodName := ⟨RX1, "openHold", "(I)V"⟩
abbrev cX1_closeHold : ByteArray := prog_3_method_5_code
def yX1_closeHold : MethodName := ⟨RX1, "closeHold", "(II)V"⟩
abbrev cX1_refillsSlowly : ByteArray := prog_3_method_6_code
def yX1_refillsSlowly : MethodName := ⟨RX1, "refillsSlowly", "()Z"⟩
abbrev cX1_refillBucket : ByteArray := prog_3_method_7_code
def yX1_refillBucket : MethodName := ⟨RX1, "refillBucket", "()V"⟩
def RX2 : String := "TollGateway$Plan"
def TX2 : u_T := fun k => match k with
  | 0 => ("TollGateway$Plan", "number", "I", true)
  | 1 => ("TollGateway$Plan", "size", "I", false)
  | 2 => ("TollGateway$Plan", "refill", "I", false)
  | _ => ("TollGateway$Plan", "slowRefill", "I", false)
def tyX2 : Nat → FieldType := fun k => match k with
  | 0 => .int
  | 1 => .int
  | 2 => .int
  | _ => .int
abbrev wsX20 : List Cond := u_ws RX2 TX2 4
theorem nmX2 : ∀ a, a < 4 → ∀ b, b < 4 → a ≠ b → (TX2 a).2.1 ≠ (TX2 b).2.1 := by decide +kernel
theorem tyX2_ok : ∀ k, k < 4 → parseFieldDescriptor (TX2 k).2.2.1 = some (tyX2 k) := by decide +kernel
abbrev cX2_init : ByteArray := prog_4_method_1_code
def yX2_init : MethodName := ⟨RX2, "<init>", "(I)V"⟩
def RX3 : String := "TollGateway$Route"
def TX3 : u_T := fun k => match k with
  | 0 => ("TollGateway$Route", "price", "I", false)
  | _ => ("TollGateway$Route", "weight", "I", false)
def tyX3 : Nat → FieldType := fun k => match k with
  | 0 => .int
  | _ => .int
abbrev wsX30 : List Cond := u_ws RX3 TX3 2
theorem nmX3 : ∀ a, a < 2 → ∀ b, b < 2 → a ≠ b → (TX3 a).2.1 ≠ (TX3 b).2.1 := by decide +kernel
theorem tyX3_ok : ∀ k, k < 2 → parseFieldDescriptor (TX3 k).2.2.1 = some (tyX3 k) := by decide +kernel
abbrev cX3_init : ByteArray := prog_5_method_1_code
def yX3_init : MethodName := ⟨RX3, "<init>", "()V"⟩
def RX4 : String := "TollGateway"
def TX4 : u_T := fun k => match k with
  | 0 => ("TollGateway", "plans", "[LTollGateway$Plan;", true)
  | 1 => ("TollGateway", "routes", "[LTollGateway$Route;", true)
  | 2 => ("TollGateway", "keys", "Ljava/util/ArrayList;", true)
  | 3 => ("TollGateway", "letThrough", "Ljava/util/ArrayList;", true)
  | 4 => ("TollGateway", "tick", "I", false)
  | _ => ("TollGateway", "nextToRunOut", "I", false)
def tyX4 : Nat → FieldType := fun k => match k with
  | 0 => .array (.object "TollGateway$Plan")
  | 1 => .array (.object "TollGateway$Route")
  | 2 => .object "java/util/ArrayList"
  | 3 => .object "java/util/ArrayList"
  | 4 => .int
  | _ => .int
abbrev wsX40 : List Cond := u_ws RX4 TX4 6
theorem nmX4 : ∀ a, a < 6 → ∀ b, b < 6 → a ≠ b → (TX4 a).2.1 ≠ (TX4 b).2.1 := by decide +kernel
theorem tyX4_ok : ∀ k, k < 6 → parseFieldDescriptor (TX4 k).2.2.1 = some (tyX4 k) := by decide +kernel
abbrev cX4_init : ByteArray := prog_1_method_1_code
def yX4_init : MethodName := ⟨RX4, "<init>", "()V"⟩
abbrev cX4_setPlan : ByteArray := prog_1_method_2_code
def yX4_setPlan : MethodName := ⟨RX4, "setPlan", "(IIII)V"⟩
abbrev cX4_setRoute : ByteArray := prog_1_method_3_code
def yX4_setRoute : MethodName := ⟨RX4, "setRoute", "(III)V"⟩
abbrev cX4_addKey : ByteArray := prog_1_method_4_code
def yX4_addKey : MethodName := ⟨RX4, "addKey", "(I)I"⟩
abbrev cX4_setKeyPlan : ByteArray := prog_1_method_5_code
def yX4_setKeyPlan : MethodName := ⟨RX4, "setKeyPlan", "(II)I"⟩
abbrev cX4_setTrust : ByteArray := prog_1_method_6_code
def yX4_setTrust : MethodName := ⟨RX4, "setTrust", "(II)I"⟩
abbrev cX4_pay : ByteArray := prog_1_method_7_code
def yX4_pay : MethodName := ⟨RX4, "pay", "(II)I"⟩
abbrev cX4_call : ByteArray := prog_1_method_8_code
def yX4_call : MethodName := ⟨RX4, "call", "(III)I"⟩
abbrev cX4_end : ByteArray := prog_1_method_9_code
def yX4_end : MethodName := ⟨RX4, "end", "(II)I"⟩
abbrev cX4_dispute : ByteArray := prog_1_method_10_code
def yX4_dispute : MethodName := ⟨RX4, "dispute", "(I)I"⟩
abbrev cX4_pass : ByteArray := prog_1_method_11_code
def yX4_pass : MethodName := ⟨RX4, "pass", "(I)I"⟩
abbrev cX4_now : ByteArray := prog_1_method_12_code
def yX4_now : MethodName := ⟨RX4, "now", "()I"⟩
abbrev cX4_calls : ByteArray := prog_1_method_13_code
def yX4_calls : MethodName := ⟨RX4, "calls", "()I"⟩
abbrev cX4_credit : ByteArray := prog_1_method_14_code
def yX4_credit : MethodName := ⟨RX4, "credit", "(I)I"⟩
abbrev cX4_debt : ByteArray := prog_1_method_15_code
def yX4_debt : MethodName := ⟨RX4, "debt", "(I)I"⟩
abbrev cX4_held : ByteArray := prog_1_method_16_code
def yX4_held : MethodName := ⟨RX4, "held", "(I)I"⟩
abbrev cX4_tokens : ByteArray := prog_1_method_17_code
def yX4_tokens : MethodName := ⟨RX4, "tokens", "(I)I"⟩
abbrev cX4_isSlowed : ByteArray := prog_1_method_18_code
def yX4_isSlowed : MethodName := ⟨RX4, "isSlowed", "(I)Z"⟩
abbrev cX4_cost : ByteArray := prog_1_method_19_code
def yX4_cost : MethodName := ⟨RX4, "cost", "(I)I"⟩
abbrev cX4_spent : ByteArray := prog_1_method_20_code
def yX4_spent : MethodName := ⟨RX4, "spent", "(I)I"⟩
abbrev cX4_paid : ByteArray := prog_1_method_21_code
def yX4_paid : MethodName := ⟨RX4, "paid", "(I)I"⟩
abbrev cX4_planAt : ByteArray := prog_1_method_22_code
def yX4_planAt : MethodName := ⟨RX4, "planAt", "(I)LTollGateway$Plan;"⟩
abbrev cX4_routeAt : ByteArray := prog_1_method_23_code
def yX4_routeAt : MethodName := ⟨RX4, "routeAt", "(I)LTollGateway$Route;"⟩
abbrev cX4_keyAt : ByteArray := prog_1_method_24_code
def yX4_keyAt : MethodName := ⟨RX4, "keyAt", "(I)LTollGateway$Key;"⟩
abbrev cX4_callAt : ByteArray := prog_1_method_25_code
def yX4_callAt : MethodName := ⟨RX4, "callAt", "(I)LTollGateway$Call;"⟩
abbrev cX4_refuseOutside : ByteArray := prog_1_method_26_code
def yX4_refuseOutside : MethodName := ⟨RX4, "refuseOutside", "(III)V"⟩
abbrev cX4_runOutHolds : ByteArray := prog_1_method_27_code
def yX4_runOutHolds : MethodName := ⟨RX4, "runOutHolds", "()I"⟩
abbrev cX4_refillBuckets : ByteArray := prog_1_method_28_code
def yX4_refillBuckets : MethodName := ⟨RX4, "refillBuckets", "()V"⟩
def RX5 : String := "TollGatewayModel"
def TX5 : u_T := fun k => match k with
  | _ => ("", "", "", false)
def tyX5 : Nat → FieldType := fun k => match k with
  | _ => .int
abbrev wsX50 : List Cond := u_ws RX5 TX5 0
theorem nmX5 : ∀ a, a < 0 → ∀ b, b < 0 → a ≠ b → (TX5 a).2.1 ≠ (TX5 b).2.1 := by decide +kernel
theorem tyX5_ok : ∀ k, k < 0 → parseFieldDescriptor (TX5 k).2.2.1 = some (tyX5 k) := by decide +kernel
def RJx145de : String := "java/io/Serializable"
def TJx145de : u_T := fun k => match k with
  | _ => ("", "", "", false)
def tyJx145de : Nat → FieldType := fun k => match k with
  | _ => .int
abbrev wsJx145de0 : List Cond := u_ws RJx145de TJx145de 0
theorem nmJx145de : ∀ a, a < 0 → ∀ b, b < 0 → a ≠ b → (TJx145de a).2.1 ≠ (TJx145de b).2.1 := by decide +kernel
theorem tyJx145de_ok : ∀ k, k < 0 → parseFieldDescriptor (TJx145de k).2.2.1 = some (tyJx145de k) := by decide +kernel
def RJx8e188 : String := "java/lang/Cloneable"
def TJx8e188 : u_T := fun k => match k with
  | _ => ("", "", "", false)
def tyJx8e188 : Nat → FieldType := fun k => match k with
  | _ => .int
abbrev wsJx8e1880 : List Cond := u_ws RJx8e188 TJx8e188 0
theorem nmJx8e188 : ∀ a, a < 0 → ∀ b, b < 0 → a ≠ b → (TJx8e188 a).2.1 ≠ (TJx8e188 b).2.1 := by decide +kernel
theorem tyJx8e188_ok : ∀ k, k < 0 → parseFieldDescriptor (TJx8e188 k).2.2.1 = some (tyJx8e188 k) := by decide +kernel
def RJxab1ab : String := "java/lang/Iterable"
def TJxab1ab : u_T := fun k => match k with
  | _ => ("", "", "", false)
def tyJxab1ab : Nat → FieldType := fun k => match k with
  | _ => .int
abbrev wsJxab1ab0 : List Cond := u_ws RJxab1ab TJxab1ab 0
theorem nmJxab1ab : ∀ a, a < 0 → ∀ b, b < 0 → a ≠ b → (TJxab1ab a).2.1 ≠ (TJxab1ab b).2.1 := by decide +kernel
theorem tyJxab1ab_ok : ∀ k, k < 0 → parseFieldDescriptor (TJxab1ab k).2.2.1 = some (tyJxab1ab k) := by decide +kernel
def RJ9 : String := "java/lang/Math"
def TJ9 : u_T := fun k => match k with
  | _ => ("", "", "", false)
def tyJ9 : Nat → FieldType := fun k => match k with
  | _ => .int
abbrev wsJ90 : List Cond := u_ws RJ9 TJ9 0
theorem nmJ9 : ∀ a, a < 0 → ∀ b, b < 0 → a ≠ b → (TJ9 a).2.1 ≠ (TJ9 b).2.1 := by decide +kernel
theorem tyJ9_ok : ∀ k, k < 0 → parseFieldDescriptor (TJ9 k).2.2.1 = some (tyJ9 k) := by decide +kernel
abbrev cJ9_max_7cf53 : ByteArray := prog_15_method_65_code
def yJ9_max_7cf53 : MethodName := ⟨RJ9, "max", "(II)I"⟩
abbrev cJ9_min_7cf53 : ByteArray := prog_15_method_69_code
def yJ9_min_7cf53 : MethodName := ⟨RJ9, "min", "(II)I"⟩
def RJ0 : String := "java/lang/String"
def TJ0 : u_T := fun k => match k with
  | _ => ("", "", "", false)
def tyJ0 : Nat → FieldType := fun k => match k with
  | _ => .int
abbrev wsJ00 : List Cond := u_ws RJ0 TJ0 0
theorem nmJ0 : ∀ a, a < 0 → ∀ b, b < 0 → a ≠ b → (TJ0 a).2.1 ≠ (TJ0 b).2.1 := by decide +kernel
theorem tyJ0_ok : ∀ k, k < 0 → parseFieldDescriptor (TJ0 k).2.2.1 = some (tyJ0 k) := by decide +kernel
def RJ10 : String := "java/lang/System"
def TJ10 : u_T := fun k => match k with
  | _ => ("", "", "", false)
def tyJ10 : Nat → FieldType := fun k => match k with
  | _ => .int
abbrev wsJ100 : List Cond := u_ws RJ10 TJ10 0
theorem nmJ10 : ∀ a, a < 0 → ∀ b, b < 0 → a ≠ b → (TJ10 a).2.1 ≠ (TJ10 b).2.1 := by decide +kernel
theorem tyJ10_ok : ∀ k, k < 0 → parseFieldDescriptor (TJ10 k).2.2.1 = some (tyJ10 k) := by decide +kernel
def RJxa1e45 : String := "java/util/AbstractCollection"
def TJxa1e45 : u_T := fun k => match k with
  | _ => ("", "", "", false)
def tyJxa1e45 : Nat → FieldType := fun k => match k with
  | _ => .int
abbrev wsJxa1e450 : List Cond := u_ws RJxa1e45 TJxa1e45 0
theorem nmJxa1e45 : ∀ a, a < 0 → ∀ b, b < 0 → a ≠ b → (TJxa1e45 a).2.1 ≠ (TJxa1e45 b).2.1 := by decide +kernel
theorem tyJxa1e45_ok : ∀ k, k < 0 → parseFieldDescriptor (TJxa1e45 k).2.2.1 = some (tyJxa1e45 k) := by decide +kernel
abbrev cJxa1e45_init_da8c8 : ByteArray := prog_20_method_1_code
def yJxa1e45_init_da8c8 : MethodName := ⟨RJxa1e45, "<init>", "()V"⟩
def RJxc12de : String := "java/util/AbstractList"
def TJxc12de : u_T := fun k => match k with
  | _ => ("", "", "", false)
def tyJxc12de : Nat → FieldType := fun k => match k with
  | _ => .int
abbrev wsJxc12de0 : List Cond := u_ws RJxc12de TJxc12de 0
theorem nmJxc12de : ∀ a, a < 0 → ∀ b, b < 0 → a ≠ b → (TJxc12de a).2.1 ≠ (TJxc12de b).2.1 := by decide +kernel
theorem tyJxc12de_ok : ∀ k, k < 0 → parseFieldDescriptor (TJxc12de k).2.2.1 = some (tyJxc12de k) := by decide +kernel
abbrev cJxc12de_init_da8c8 : ByteArray := prog_21_method_1_code
def yJxc12de_init_da8c8 : MethodName := ⟨RJxc12de, "<init>", "()V"⟩
def RJx4a65c : String := "java/util/ArrayList"
def TJx4a65c : u_T := fun k => match k with
  | 0 => ("java/util/AbstractList", "modCount", "I", false)
  | 1 => ("java/util/ArrayList", "elementData", "[Ljava/lang/Object;", false)
  | _ => ("java/util/ArrayList", "size", "I", false)
def tyJx4a65c : Nat → FieldType := fun k => match k with
  | 0 => .int
  | 1 => .array (.object "java/lang/Object")
  | _ => .int
abbrev wsJx4a65c0 : List Cond := u_ws RJx4a65c TJx4a65c 3
theorem nmJx4a65c : ∀ a, a < 3 → ∀ b, b < 3 → a ≠ b → (TJx4a65c a).2.1 ≠ (TJx4a65c b).2.1 := by decide +kernel
theorem tyJx4a65c_ok : ∀ k, k < 3 → parseFieldDescriptor (TJx4a65c k).2.2.1 = some (tyJx4a65c k) := by decide +kernel
abbrev cJx4a65c_init_da8c8 : ByteArray := prog_22_method_2_code
def yJx4a65c_init_da8c8 : MethodName := ⟨RJx4a65c, "<init>", "()V"⟩
abbrev cJx4a65c_grow_92f84 : ByteArray := prog_22_method_6_code
def yJx4a65c_grow_92f84 : MethodName := ⟨RJx4a65c, "grow", "(I)[Ljava/lang/Object;"⟩
abbrev cJx4a65c_grow_d5877 : ByteArray := prog_22_method_7_code
def yJx4a65c_grow_d5877 : MethodName := ⟨RJx4a65c, "grow", "()[Ljava/lang/Object;"⟩
abbrev cJx4a65c_size_8abf5 : ByteArray := prog_22_method_8_code
def yJx4a65c_size_8abf5 : MethodName := ⟨RJx4a65c, "size", "()I"⟩
abbrev cJx4a65c_elementData_915e3 : ByteArray := prog_22_method_18_code
def yJx4a65c_elementData_915e3 : MethodName := ⟨RJx4a65c, "elementData", "(I)Ljava/lang/Object;"⟩
abbrev cJx4a65c_get_915e3 : ByteArray := prog_22_method_20_code
def yJx4a65c_get_915e3 : MethodName := ⟨RJx4a65c, "get", "(I)Ljava/lang/Object;"⟩
abbrev cJx4a65c_add_72be8 : ByteArray := prog_22_method_24_code
def yJx4a65c_add_72be8 : MethodName := ⟨RJx4a65c, "add", "(Ljava/lang/Object;[Ljava/lang/Object;I)V"⟩
abbrev cJx4a65c_add_9ea2d : ByteArray := prog_22_method_25_code
def yJx4a65c_add_9ea2d : MethodName := ⟨RJx4a65c, "add", "(Ljava/lang/Object;)Z"⟩
def RJ7 : String := "java/util/Arrays"
def TJ7 : u_T := fun k => match k with
  | _ => ("", "", "", false)
def tyJ7 : Nat → FieldType := fun k => match k with
  | _ => .int
abbrev wsJ70 : List Cond := u_ws RJ7 TJ7 0
theorem nmJ7 : ∀ a, a < 0 → ∀ b, b < 0 → a ≠ b → (TJ7 a).2.1 ≠ (TJ7 b).2.1 := by decide +kernel
theorem tyJ7_ok : ∀ k, k < 0 → parseFieldDescriptor (TJ7 k).2.2.1 = some (tyJ7 k) := by decide +kernel
abbrev cJ7_copyOf_1904c : ByteArray := prog_23_method_119_code
def yJ7_copyOf_1904c : MethodName := ⟨RJ7, "copyOf", "([Ljava/lang/Object;I)[Ljava/lang/Object;"⟩
abbrev cJ7_copyOf_6403c : ByteArray := prog_23_method_120_code
def yJ7_copyOf_6403c : MethodName := ⟨RJ7, "copyOf", "([Ljava/lang/Object;ILjava/lang/Class;)[Ljava/lang/Object;"⟩
def RJx5ef63 : String := "java/util/Collection"
def TJx5ef63 : u_T := fun k => match k with
  | _ => ("", "", "", false)
def tyJx5ef63 : Nat → FieldType := fun k => match k with
  | _ => .int
abbrev wsJx5ef630 : List Cond := u_ws RJx5ef63 TJx5ef63 0
theorem nmJx5ef63 : ∀ a, a < 0 → ∀ b, b < 0 → a ≠ b → (TJx5ef63 a).2.1 ≠ (TJx5ef63 b).2.1 := by decide +kernel
theorem tyJx5ef63_ok : ∀ k, k < 0 → parseFieldDescriptor (TJx5ef63 k).2.2.1 = some (tyJx5ef63 k) := by decide +kernel
def RJxbd725 : String := "java/util/List"
def TJxbd725 : u_T := fun k => match k with
  | _ => ("", "", "", false)
def tyJxbd725 : Nat → FieldType := fun k => match k with
  | _ => .int
abbrev wsJxbd7250 : List Cond := u_ws RJxbd725 TJxbd725 0
theorem nmJxbd725 : ∀ a, a < 0 → ∀ b, b < 0 → a ≠ b → (TJxbd725 a).2.1 ≠ (TJxbd725 b).2.1 := by decide +kernel
theorem tyJxbd725_ok : ∀ k, k < 0 → parseFieldDescriptor (TJxbd725 k).2.2.1 = some (tyJxbd725 k) := by decide +kernel
def RJ15 : String := "java/util/Objects"
def TJ15 : u_T := fun k => match k with
  | _ => ("", "", "", false)
def tyJ15 : Nat → FieldType := fun k => match k with
  | _ => .int
abbrev wsJ150 : List Cond := u_ws RJ15 TJ15 0
theorem nmJ15 : ∀ a, a < 0 → ∀ b, b < 0 → a ≠ b → (TJ15 a).2.1 ≠ (TJ15 b).2.1 := by decide +kernel
theorem tyJ15_ok : ∀ k, k < 0 → parseFieldDescriptor (TJ15 k).2.2.1 = some (tyJ15 k) := by decide +kernel
abbrev cJ15_checkIndex_7cf53 : ByteArray := prog_26_method_17_code
def yJ15_checkIndex_7cf53 : MethodName := ⟨RJ15, "checkIndex", "(II)I"⟩
def RJxf0a74 : String := "java/util/RandomAccess"
def TJxf0a74 : u_T := fun k => match k with
  | _ => ("", "", "", false)
def tyJxf0a74 : Nat → FieldType := fun k => match k with
  | _ => .int
abbrev wsJxf0a740 : List Cond := u_ws RJxf0a74 TJxf0a74 0
theorem nmJxf0a74 : ∀ a, a < 0 → ∀ b, b < 0 → a ≠ b → (TJxf0a74 a).2.1 ≠ (TJxf0a74 b).2.1 := by decide +kernel
theorem tyJxf0a74_ok : ∀ k, k < 0 → parseFieldDescriptor (TJxf0a74 k).2.2.1 = some (tyJxf0a74 k) := by decide +kernel
def RJxa66e6 : String := "java/util/SequencedCollection"
def TJxa66e6 : u_T := fun k => match k with
  | _ => ("", "", "", false)
def tyJxa66e6 : Nat → FieldType := fun k => match k with
  | _ => .int
abbrev wsJxa66e60 : List Cond := u_ws RJxa66e6 TJxa66e6 0
theorem nmJxa66e6 : ∀ a, a < 0 → ∀ b, b < 0 → a ≠ b → (TJxa66e6 a).2.1 ≠ (TJxa66e6 b).2.1 := by decide +kernel
theorem tyJxa66e6_ok : ∀ k, k < 0 → parseFieldDescriptor (TJxa66e6 k).2.2.1 = some (tyJxa66e6 k) := by decide +kernel
def RJ8 : String := "jdk/internal/util/ArraysSupport"
def TJ8 : u_T := fun k => match k with
  | _ => ("", "", "", false)
def tyJ8 : Nat → FieldType := fun k => match k with
  | _ => .int
abbrev wsJ80 : List Cond := u_ws RJ8 TJ8 0
theorem nmJ8 : ∀ a, a < 0 → ∀ b, b < 0 → a ≠ b → (TJ8 a).2.1 ≠ (TJ8 b).2.1 := by decide +kernel
theorem tyJ8_ok : ∀ k, k < 0 → parseFieldDescriptor (TJ8 k).2.2.1 = some (tyJ8 k) := by decide +kernel
abbrev cJ8_newLength_cabcc : ByteArray := prog_29_method_27_code
def yJ8_newLength_cabcc : MethodName := ⟨RJ8, "newLength", "(III)I"⟩
abbrev cJ8_hugeLength_7cf53 : ByteArray := prog_29_method_28_code
def yJ8_hugeLength_7cf53 : MethodName := ⟨RJ8, "hugeLength", "(II)I"⟩
def RJ3 : String := "jdk/internal/util/Preconditions"
def TJ3 : u_T := fun k => match k with
  | _ => ("", "", "", false)
def tyJ3 : Nat → FieldType := fun k => match k with
  | _ => .int
abbrev wsJ30 : List Cond := u_ws RJ3 TJ3 0
theorem nmJ3 : ∀ a, a < 0 → ∀ b, b < 0 → a ≠ b → (TJ3 a).2.1 ≠ (TJ3 b).2.1 := by decide +kernel
theorem tyJ3_ok : ∀ k, k < 0 → parseFieldDescriptor (TJ3 k).2.2.1 = some (tyJ3 k) := by decide +kernel
abbrev cJ3_checkIndex_8e157 : ByteArray := prog_30_method_11_code
def yJ3_checkIndex_8e157 : MethodName := ⟨RJ3, "checkIndex", "(IILjava/util/function/BiFunction;)I"⟩
def RL : String := "TollGatewayLaw"
abbrev cL_cell : ByteArray := method_2_code
def yL_cell : MethodName := ⟨RL, "cell", "([II)I"⟩
abbrev cL_low : ByteArray := method_3_code
def yL_low : MethodName := ⟨RL, "low", "(II)I"⟩
abbrev cL_setPlan : ByteArray := method_4_code
def yL_setPlan : MethodName := ⟨RL, "setPlan", "(LTollGateway;IIII)I"⟩
abbrev cL_setRoute : ByteArray := method_5_code
def yL_setRoute : MethodName := ⟨RL, "setRoute", "(LTollGateway;III)I"⟩
abbrev cL_addKey : ByteArray := method_6_code
def yL_addKey : MethodName := ⟨RL, "addKey", "(LTollGateway;I)I"⟩
abbrev cL_setKeyPlan : ByteArray := method_7_code
def yL_setKeyPlan : MethodName := ⟨RL, "setKeyPlan", "(LTollGateway;II)I"⟩
abbrev cL_setTrust : ByteArray := method_8_code
def yL_setTrust : MethodName := ⟨RL, "setTrust", "(LTollGateway;II)I"⟩
abbrev cL_pay : ByteArray := method_9_code
def yL_pay : MethodName := ⟨RL, "pay", "(LTollGateway;II)I"⟩
abbrev cL_call : ByteArray := method_10_code
def yL_call : MethodName := ⟨RL, "call", "(LTollGateway;III)I"⟩
abbrev cL_end : ByteArray := method_11_code
def yL_end : MethodName := ⟨RL, "end", "(LTollGateway;II)I"⟩
abbrev cL_dispute : ByteArray := method_12_code
def yL_dispute : MethodName := ⟨RL, "dispute", "(LTollGateway;I)I"⟩
abbrev cL_pass : ByteArray := method_13_code
def yL_pass : MethodName := ⟨RL, "pass", "(LTollGateway;I)I"⟩
abbrev cL_credit : ByteArray := method_14_code
def yL_credit : MethodName := ⟨RL, "credit", "(LTollGateway;I)I"⟩
abbrev cL_act : ByteArray := method_15_code
def yL_act : MethodName := ⟨RL, "act", "(LTollGateway;I)I"⟩
abbrev cL_areAlike : ByteArray := method_16_code
def yL_areAlike : MethodName := ⟨RL, "areAlike", "(LTollGateway;LTollGateway;)Z"⟩
abbrev cL_areKeysSo : ByteArray := method_17_code
def yL_areKeysSo : MethodName := ⟨RL, "areKeysSo", "(LTollGateway;)Z"⟩
abbrev cL_law : ByteArray := code
def yL_law : MethodName := ⟨RL, "law", "([I)Z"⟩
def wsX0_init : List Cond := .code yX0_init cX0_init 5 none :: ([.methodLink RX0 3 objectInit, .instanceMethod objectInit, .code objectInit ⟨#[0xb1]⟩ 1 none, .fieldLink RX0 9 "TollGateway$Call" "cost" "I", .fieldLink RX0 15 "TollGateway$Call" "key" "LTollGateway$Key;", .fieldLink RX0 19 "TollGateway$Call" "worth" "I", .fieldLink RX0 22 "TollGateway$Call" "weight" "I", .fieldLink RX0 25 "TollGateway$Call" "dueTick" "I"] ++ wsX00)
def wsX0_hasEnded : List Cond := .code yX0_hasEnded cX0_hasEnded 1 (some .boolean) :: ([.fieldLink RX0 9 "TollGateway$Call" "cost" "I"] ++ wsX00)
def wsX0_costOf : List Cond := .code yX0_costOf cX0_costOf 2 (some .int) :: ([.fieldLink RX0 19 "TollGateway$Call" "worth" "I"] ++ wsX00)
def wsX1_receive : List Cond := .code yX1_receive cX1_receive 3 none :: ([.fieldLink RX1 22 "TollGateway$Key" "debt" "I", .methodLink RX1 25 Lib.Math.min.name, .static Lib.Math.min.name, .initialized "java/lang/Math", .code Lib.Math.min.name Lib.Math.min.code 2 (some .int), .fieldLink RX1 31 "TollGateway$Key" "credit" "I"] ++ wsX10)
def wsX1_closeHold : List Cond := .code yX1_closeHold cX1_closeHold 3 none :: ([.fieldLink RX1 40 "TollGateway$Key" "held" "I", .fieldLink RX1 43 "TollGateway$Key" "openHolds" "I", .fieldLink RX1 46 "TollGateway$Key" "spent" "I", .methodLink RX1 49 yX1_receive, .instanceMethod yX1_receive, .selects RX1 yX1_receive yX1_receive, .initialized RX1, .code yX1_receive cX1_receive 3 none, .fieldLink RX1 22 "TollGateway$Key" "debt" "I", .methodLink RX1 25 Lib.Math.min.name, .static Lib.Math.min.name, .initialized "java/lang/Math", .code Lib.Math.min.name Lib.Math.min.code 2 (some .int), .fieldLink RX1 31 "TollGateway$Key" "credit" "I"] ++ wsX10)
def wsX0_settle_r1 : List Cond := [Cond.fieldLink RX0 9 "TollGateway$Call" "cost" "I", Cond.fieldLink RX0 32 "TollGateway$Call" "endTick" "I", Cond.fieldLink RX0 15 "TollGateway$Call" "key" "LTollGateway$Key;", Cond.fieldLink RX0 19 "TollGateway$Call" "worth" "I", Cond.methodLink RX0 28 yX0_costOf, Cond.instanceMethod yX0_costOf, Cond.selects RX0 yX0_costOf yX0_costOf, Cond.initialized RX0, Cond.code yX0_costOf cX0_costOf 2 (some .int), Cond.instanceMethod yX1_closeHold, Cond.initialized RX1, Cond.selects RX1 yX1_closeHold yX1_closeHold, Cond.code yX1_closeHold cX1_closeHold 3 none, Cond.fieldLink RX1 40 "TollGateway$Key" "held" "I", Cond.fieldLink RX1 43 "TollGateway$Key" "openHolds" "I", Cond.fieldLink RX1 46 "TollGateway$Key" "spent" "I", Cond.methodLink RX1 49 yX1_receive, Cond.instanceMethod yX1_receive, Cond.selects RX1 yX1_receive yX1_receive, Cond.code yX1_receive cX1_receive 3 none, Cond.fieldLink RX1 22 "TollGateway$Key" "debt" "I", Cond.methodLink RX1 25 Lib.Math.min.name, Cond.static Lib.Math.min.name, Cond.initialized "java/lang/Math"]
def wsX0_settle_r2 : List Cond := [Cond.code Lib.Math.min.name Lib.Math.min.code 2 (some .int), Cond.fieldLink RX1 31 "TollGateway$Key" "credit" "I"]
def wsX0_settle : List Cond := .code yX0_settle cX0_settle 3 none :: ((wsX0_settle_r1 ++ wsX0_settle_r2) ++ wsX00 ++ wsX10)
def wsX0_giveBack : List Cond := .code yX0_giveBack cX0_giveBack 2 (some .int) :: ([.fieldLink RX0 9 "TollGateway$Call" "cost" "I", .fieldLink RX0 41 "TollGateway$Call" "wasDisputed" "Z", .fieldLink RX0 15 "TollGateway$Call" "key" "LTollGateway$Key;", .fieldLink RX0 22 "TollGateway$Call" "weight" "I", .instanceMethod yX1_receive, .initialized RX1, .selects RX1 yX1_receive yX1_receive, .code yX1_receive cX1_receive 3 none, .fieldLink RX1 22 "TollGateway$Key" "debt" "I", .methodLink RX1 25 Lib.Math.min.name, .static Lib.Math.min.name, .initialized "java/lang/Math", .code Lib.Math.min.name Lib.Math.min.code 2 (some .int), .fieldLink RX1 31 "TollGateway$Key" "credit" "I"] ++ wsX00 ++ wsX10)
def wsX1_init : List Cond := .code yX1_init cX1_init 2 none :: ([.methodLink RX1 1 objectInit, .instanceMethod objectInit, .code objectInit ⟨#[0xb1]⟩ 1 none, .fieldLink RX1 7 "TollGateway$Key" "plan" "LTollGateway$Plan;", .fieldLink RX1 19 "TollGateway$Key" "tokens" "I"] ++ wsX10 ++ wsX20)
def wsX1_canCover : List Cond := .code yX1_canCover cX1_canCover 3 (some .boolean) :: ([.fieldLink RX1 34 "TollGateway$Key" "trustLine" "I", .fieldLink RX1 22 "TollGateway$Key" "debt" "I", .methodLink RX1 37 Lib.Math.max.name, .static Lib.Math.max.name, .initialized "java/lang/Math", .code Lib.Math.max.name Lib.Math.max.code 2 (some .int), .fieldLink RX1 31 "TollGateway$Key" "credit" "I"] ++ wsX10)
def wsX1_openHold : List Cond := .code yX1_openHold cX1_openHold 3 none :: ([.fieldLink RX1 31 "TollGateway$Key" "credit" "I", .methodLink RX1 25 Lib.Math.min.name, .static Lib.Math.min.name, .initialized "java/lang/Math", .code Lib.Math.min.name Lib.Math.min.code 2 (some .int), .fieldLink RX1 22 "TollGateway$Key" "debt" "I", .fieldLink RX1 40 "TollGateway$Key" "held" "I", .fieldLink RX1 43 "TollGateway$Key" "openHolds" "I"] ++ wsX10)
def wsX1_refillsSlowly : List Cond := .code yX1_refillsSlowly cX1_refillsSlowly 1 (some .boolean) :: ([.fieldLink RX1 31 "TollGateway$Key" "credit" "I", .fieldLink RX1 43 "TollGateway$Key" "openHolds" "I"] ++ wsX10)
def wsX1_refillBucket : List Cond := .code yX1_refillBucket cX1_refillBucket 2 none :: ([.fieldLink RX1 19 "TollGateway$Key" "tokens" "I", .fieldLink RX1 7 "TollGateway$Key" "plan" "LTollGateway$Plan;", .methodLink RX1 25 Lib.Math.min.name, .static Lib.Math.min.name, .initialized "java/lang/Math", .code Lib.Math.min.name Lib.Math.min.code 2 (some .int), .methodLink RX1 53 yX1_refillsSlowly, .instanceMethod yX1_refillsSlowly, .selects RX1 yX1_refillsSlowly yX1_refillsSlowly, .initialized RX1, .code yX1_refillsSlowly cX1_refillsSlowly 1 (some .boolean), .fieldLink RX1 31 "TollGateway$Key" "credit" "I", .fieldLink RX1 43 "TollGateway$Key" "openHolds" "I"] ++ wsX10 ++ wsX20)
def wsX2_init : List Cond := .code yX2_init cX2_init 2 none :: ([.methodLink RX2 1 objectInit, .instanceMethod objectInit, .code objectInit ⟨#[0xb1]⟩ 1 none, .fieldLink RX2 7 "TollGateway$Plan" "size" "I", .fieldLink RX2 13 "TollGateway$Plan" "refill" "I", .fieldLink RX2 16 "TollGateway$Plan" "slowRefill" "I", .fieldLink RX2 19 "TollGateway$Plan" "number" "I"] ++ wsX20)
def wsX3_init : List Cond := .code yX3_init cX3_init 1 none :: ([.methodLink RX3 1 objectInit, .instanceMethod objectInit, .code objectInit ⟨#[0xb1]⟩ 1 none, .fieldLink RX3 7 "TollGateway$Route" "price" "I", .fieldLink RX3 13 "TollGateway$Route" "weight" "I"] ++ wsX30)
def wsJxa1e45_init_da8c8 : List Cond := .code yJxa1e45_init_da8c8 cJxa1e45_init_da8c8 1 none :: ([.methodLink RJxa1e45 1 objectInit, .instanceMethod objectInit, .code objectInit ⟨#[0xb1]⟩ 1 none])
def wsJxc12de_init_da8c8 : List Cond := .code yJxc12de_init_da8c8 cJxc12de_init_da8c8 1 none :: ([.fieldLink RJxc12de 7 "java/util/AbstractList" "modCount" "I", .methodLink RJxc12de 1 yJxa1e45_init_da8c8, .instanceMethod yJxa1e45_init_da8c8, .initialized RJxa1e45, .code yJxa1e45_init_da8c8 cJxa1e45_init_da8c8 1 none, .methodLink RJxa1e45 1 objectInit, .instanceMethod objectInit, .code objectInit ⟨#[0xb1]⟩ 1 none] ++ wsJx4a65c0)
def wsJx4a65c_init_da8c8 : List Cond := .code yJx4a65c_init_da8c8 cJx4a65c_init_da8c8 1 none :: ([.fieldLink RJx4a65c 39 "java/util/ArrayList" "DEFAULTCAPACITY_EMPTY_ELEMENTDATA" "[Ljava/lang/Object;", .fieldLink RJx4a65c 9 "java/util/ArrayList" "elementData" "[Ljava/lang/Object;", .methodLink RJx4a65c 1 yJxc12de_init_da8c8, .instanceMethod yJxc12de_init_da8c8, .initialized RJxc12de, .code yJxc12de_init_da8c8 cJxc12de_init_da8c8 1 none, .fieldLink RJxc12de 7 "java/util/AbstractList" "modCount" "I", .methodLink RJxc12de 1 yJxa1e45_init_da8c8, .instanceMethod yJxa1e45_init_da8c8, .initialized RJxa1e45, .code yJxa1e45_init_da8c8 cJxa1e45_init_da8c8 1 none, .methodLink RJxa1e45 1 objectInit, .instanceMethod objectInit, .code objectInit ⟨#[0xb1]⟩ 1 none] ++ wsJx4a65c0)
def wsX4_init_r1 : List Cond := [Cond.methodLink RX4 1 objectInit, Cond.instanceMethod objectInit, Cond.code objectInit ⟨#[0xb1]⟩ 1 none, Cond.classLink RX4 9 RX2, Cond.fieldLink RX4 11 "TollGateway" "plans" "[LTollGateway$Plan;", Cond.classLink RX4 15 RX3, Cond.fieldLink RX4 17 "TollGateway" "routes" "[LTollGateway$Route;", Cond.classLink RX4 21 RJx4a65c, Cond.instantiable RJx4a65c 3, Cond.initialized RJx4a65c, Cond.fieldLink RX4 24 "TollGateway" "keys" "Ljava/util/ArrayList;", Cond.fieldLink RX4 28 "TollGateway" "letThrough" "Ljava/util/ArrayList;", Cond.instantiable RX2 4, Cond.initialized RX2, Cond.instantiable RX3 2, Cond.initialized RX3, Cond.methodLink RX4 23 yJx4a65c_init_da8c8, Cond.instanceMethod yJx4a65c_init_da8c8, Cond.code yJx4a65c_init_da8c8 cJx4a65c_init_da8c8 1 none, Cond.fieldLink RJx4a65c 39 "java/util/ArrayList" "DEFAULTCAPACITY_EMPTY_ELEMENTDATA" "[Ljava/lang/Object;", Cond.fieldLink RJx4a65c 9 "java/util/ArrayList" "elementData" "[Ljava/lang/Object;", Cond.methodLink RJx4a65c 1 yJxc12de_init_da8c8, Cond.instanceMethod yJxc12de_init_da8c8, Cond.initialized RJxc12de]
def wsX4_init_r2 : List Cond := [Cond.code yJxc12de_init_da8c8 cJxc12de_init_da8c8 1 none, Cond.fieldLink RJxc12de 7 "java/util/AbstractList" "modCount" "I", Cond.methodLink RJxc12de 1 yJxa1e45_init_da8c8, Cond.instanceMethod yJxa1e45_init_da8c8, Cond.initialized RJxa1e45, Cond.code yJxa1e45_init_da8c8 cJxa1e45_init_da8c8 1 none, Cond.methodLink RJxa1e45 1 objectInit, Cond.instanceMethod yX2_init, Cond.code yX2_init cX2_init 2 none, Cond.methodLink RX2 1 objectInit, Cond.fieldLink RX2 7 "TollGateway$Plan" "size" "I", Cond.fieldLink RX2 13 "TollGateway$Plan" "refill" "I", Cond.fieldLink RX2 16 "TollGateway$Plan" "slowRefill" "I", Cond.fieldLink RX2 19 "TollGateway$Plan" "number" "I", Cond.instanceMethod yX3_init, Cond.code yX3_init cX3_init 1 none, Cond.methodLink RX3 1 objectInit, Cond.fieldLink RX3 7 "TollGateway$Route" "price" "I", Cond.fieldLink RX3 13 "TollGateway$Route" "weight" "I"]
def wsX4_init : List Cond := .code yX4_init cX4_init 2 none :: ((wsX4_init_r1 ++ wsX4_init_r2) ++ wsX40 ++ wsJx4a65c0 ++ wsX20 ++ wsX30)
def wsX4_planAt : List Cond := .code yX4_planAt cX4_planAt 2 (some (.object "TollGateway$Plan")) :: ([.classLink RX4 177 "java/lang/IllegalArgumentException", .initialized "java/lang/IllegalArgumentException", .fieldLink RX4 11 "TollGateway" "plans" "[LTollGateway$Plan;"] ++ wsX40 ++ (vx_atS RX4 181 "java/lang/IllegalArgumentException" ["java/lang/RuntimeException", "java/lang/Exception"]).filter goodWord)
def wsX4_refuseOutside : List Cond := .code yX4_refuseOutside cX4_refuseOutside 3 none :: ([.classLink RX4 177 "java/lang/IllegalArgumentException", .initialized "java/lang/IllegalArgumentException"] ++ (vx_atS RX4 181 "java/lang/IllegalArgumentException" ["java/lang/RuntimeException", "java/lang/Exception"]).filter goodWord)
def wsX4_setPlan : List Cond := .code yX4_setPlan cX4_setPlan 6 none :: ([.methodLink RX4 35 yX4_planAt, .instanceMethod yX4_planAt, .selects RX4 yX4_planAt yX4_planAt, .initialized RX4, .code yX4_planAt cX4_planAt 2 (some (.object "TollGateway$Plan")), .classLink RX4 177 "java/lang/IllegalArgumentException", .initialized "java/lang/IllegalArgumentException", .fieldLink RX4 11 "TollGateway" "plans" "[LTollGateway$Plan;", .methodLink RX4 39 yX4_refuseOutside, .static yX4_refuseOutside, .code yX4_refuseOutside cX4_refuseOutside 3 none] ++ wsX20 ++ wsX40 ++ (vx_atS RX4 181 "java/lang/IllegalArgumentException" ["java/lang/RuntimeException", "java/lang/Exception"]).filter goodWord)
def wsX4_routeAt : List Cond := .code yX4_routeAt cX4_routeAt 2 (some (.object "TollGateway$Route")) :: ([.classLink RX4 177 "java/lang/IllegalArgumentException", .initialized "java/lang/IllegalArgumentException", .fieldLink RX4 17 "TollGateway" "routes" "[LTollGateway$Route;"] ++ wsX40 ++ (vx_atS RX4 181 "java/lang/IllegalArgumentException" ["java/lang/RuntimeException", "java/lang/Exception"]).filter goodWord)
def wsX4_setRoute : List Cond := .code yX4_setRoute cX4_setRoute 5 none :: ([.methodLink RX4 53 yX4_routeAt, .instanceMethod yX4_routeAt, .selects RX4 yX4_routeAt yX4_routeAt, .initialized RX4, .code yX4_routeAt cX4_routeAt 2 (some (.object "TollGateway$Route")), .classLink RX4 177 "java/lang/IllegalArgumentException", .initialized "java/lang/IllegalArgumentException", .fieldLink RX4 17 "TollGateway" "routes" "[LTollGateway$Route;", .methodLink RX4 39 yX4_refuseOutside, .static yX4_refuseOutside, .code yX4_refuseOutside cX4_refuseOutside 3 none] ++ wsX30 ++ wsX40 ++ (vx_atS RX4 181 "java/lang/IllegalArgumentException" ["java/lang/RuntimeException", "java/lang/Exception"]).filter goodWord)
def wsJx4a65c_size_8abf5 : List Cond := .code yJx4a65c_size_8abf5 cJx4a65c_size_8abf5 1 (some .int) :: ([.fieldLink RJx4a65c 48 "java/util/ArrayList" "size" "I"] ++ wsJx4a65c0)
def wsJ8_hugeLength_7cf53 : List Cond := .code yJ8_hugeLength_7cf53 cJ8_hugeLength_7cf53 3 (some .int) :: ([.constant RJ8 200 (2147483639)])
def wsJ8_newLength_cabcc : List Cond := .code yJ8_newLength_cabcc cJ8_newLength_cabcc 4 (some .int) :: ([.methodLink RJ8 194 Lib.Math.max.name, .static Lib.Math.max.name, .initialized "java/lang/Math", .code Lib.Math.max.name Lib.Math.max.code 2 (some .int), .constant RJ8 200 (2147483639), .methodLink RJ8 201 yJ8_hugeLength_7cf53, .static yJ8_hugeLength_7cf53, .initialized RJ8, .code yJ8_hugeLength_7cf53 cJ8_hugeLength_7cf53 3 (some .int)])
def wsJ7_copyOf_6403c : List Cond := .code yJ7_copyOf_6403c cJ7_copyOf_6403c 4 (some (.array (.object "java/lang/Object"))) :: ([.classLink RJ7 110 "[Ljava/lang/Object;", .classLink RJ7 2 "java/lang/Object", .methodLink RJ7 304 Lib.Math.min.name, .static Lib.Math.min.name, .initialized "java/lang/Math", .code Lib.Math.min.name Lib.Math.min.code 2 (some .int), .methodLink RJ7 150 arraycopyName, .native arraycopyName, .static arraycopyName, .initialized "java/lang/System"])
def wsJ7_copyOf_1904c : List Cond := .code yJ7_copyOf_1904c cJ7_copyOf_1904c 2 (some (.array (.object "java/lang/Object"))) :: ([.methodLink RJ7 86 ⟨"java/lang/Object", "getClass", "()Ljava/lang/Class;"⟩, .selects "[Ljava/lang/Object;" ⟨"java/lang/Object", "getClass", "()Ljava/lang/Class;"⟩ ⟨"java/lang/Object", "getClass", "()Ljava/lang/Class;"⟩, .instanceMethod ⟨"java/lang/Object", "getClass", "()Ljava/lang/Class;"⟩, .native ⟨"java/lang/Object", "getClass", "()Ljava/lang/Class;"⟩, .methodLink RJ7 300 yJ7_copyOf_6403c, .static yJ7_copyOf_6403c, .initialized RJ7, .code yJ7_copyOf_6403c cJ7_copyOf_6403c 4 (some (.array (.object "java/lang/Object"))), .classLink RJ7 110 "[Ljava/lang/Object;", .classLink RJ7 2 "java/lang/Object", .methodLink RJ7 304 Lib.Math.min.name, .static Lib.Math.min.name, .initialized "java/lang/Math", .code Lib.Math.min.name Lib.Math.min.code 2 (some .int), .methodLink RJ7 150 arraycopyName, .native arraycopyName, .static arraycopyName, .initialized "java/lang/System"])
def wsJx4a65c_grow_92f84_r1 : List Cond := [Cond.fieldLink RJx4a65c 9 "java/util/ArrayList" "elementData" "[Ljava/lang/Object;", Cond.fieldLink RJx4a65c 39 "java/util/ArrayList" "DEFAULTCAPACITY_EMPTY_ELEMENTDATA" "[Ljava/lang/Object;", Cond.methodLink RJx4a65c 79 Lib.Math.max.name, Cond.static Lib.Math.max.name, Cond.initialized "java/lang/Math", Cond.code Lib.Math.max.name Lib.Math.max.code 2 (some .int), Cond.classLink RJx4a65c 7 "java/lang/Object", Cond.methodLink RJx4a65c 73 yJ8_newLength_cabcc, Cond.static yJ8_newLength_cabcc, Cond.initialized RJ8, Cond.code yJ8_newLength_cabcc cJ8_newLength_cabcc 4 (some .int), Cond.methodLink RJ8 194 Lib.Math.max.name, Cond.constant RJ8 200 (2147483639), Cond.methodLink RJ8 201 yJ8_hugeLength_7cf53, Cond.static yJ8_hugeLength_7cf53, Cond.code yJ8_hugeLength_7cf53 cJ8_hugeLength_7cf53 3 (some .int), Cond.methodLink RJx4a65c 66 yJ7_copyOf_1904c, Cond.static yJ7_copyOf_1904c, Cond.initialized RJ7, Cond.code yJ7_copyOf_1904c cJ7_copyOf_1904c 2 (some (.array (.object "java/lang/Object"))), Cond.methodLink RJ7 86 ⟨"java/lang/Object", "getClass", "()Ljava/lang/Class;"⟩, Cond.selects "[Ljava/lang/Object;" ⟨"java/lang/Object", "getClass", "()Ljava/lang/Class;"⟩ ⟨"java/lang/Object", "getClass", "()Ljava/lang/Class;"⟩, Cond.instanceMethod ⟨"java/lang/Object", "getClass", "()Ljava/lang/Class;"⟩, Cond.native ⟨"java/lang/Object", "getClass", "()Ljava/lang/Class;"⟩]
def wsJx4a65c_grow_92f84_r2 : List Cond := [Cond.methodLink RJ7 300 yJ7_copyOf_6403c, Cond.static yJ7_copyOf_6403c, Cond.code yJ7_copyOf_6403c cJ7_copyOf_6403c 4 (some (.array (.object "java/lang/Object"))), Cond.classLink RJ7 110 "[Ljava/lang/Object;", Cond.classLink RJ7 2 "java/lang/Object", Cond.methodLink RJ7 304 Lib.Math.min.name, Cond.static Lib.Math.min.name, Cond.code Lib.Math.min.name Lib.Math.min.code 2 (some .int), Cond.methodLink RJ7 150 arraycopyName, Cond.native arraycopyName, Cond.static arraycopyName, Cond.initialized "java/lang/System"]
def wsJx4a65c_grow_92f84 : List Cond := .code yJx4a65c_grow_92f84 cJx4a65c_grow_92f84 4 (some (.array (.object "java/lang/Object"))) :: ((wsJx4a65c_grow_92f84_r1 ++ wsJx4a65c_grow_92f84_r2) ++ wsJx4a65c0)
def wsJx4a65c_grow_d5877_r1 : List Cond := [Cond.fieldLink RJx4a65c 48 "java/util/ArrayList" "size" "I", Cond.methodLink RJx4a65c 69 yJx4a65c_grow_92f84, Cond.instanceMethod yJx4a65c_grow_92f84, Cond.selects RJx4a65c yJx4a65c_grow_92f84 yJx4a65c_grow_92f84, Cond.initialized RJx4a65c, Cond.code yJx4a65c_grow_92f84 cJx4a65c_grow_92f84 4 (some (.array (.object "java/lang/Object"))), Cond.fieldLink RJx4a65c 9 "java/util/ArrayList" "elementData" "[Ljava/lang/Object;", Cond.fieldLink RJx4a65c 39 "java/util/ArrayList" "DEFAULTCAPACITY_EMPTY_ELEMENTDATA" "[Ljava/lang/Object;", Cond.methodLink RJx4a65c 79 Lib.Math.max.name, Cond.static Lib.Math.max.name, Cond.initialized "java/lang/Math", Cond.code Lib.Math.max.name Lib.Math.max.code 2 (some .int), Cond.classLink RJx4a65c 7 "java/lang/Object", Cond.methodLink RJx4a65c 73 yJ8_newLength_cabcc, Cond.static yJ8_newLength_cabcc, Cond.initialized RJ8, Cond.code yJ8_newLength_cabcc cJ8_newLength_cabcc 4 (some .int), Cond.methodLink RJ8 194 Lib.Math.max.name, Cond.constant RJ8 200 (2147483639), Cond.methodLink RJ8 201 yJ8_hugeLength_7cf53, Cond.static yJ8_hugeLength_7cf53, Cond.code yJ8_hugeLength_7cf53 cJ8_hugeLength_7cf53 3 (some .int), Cond.methodLink RJx4a65c 66 yJ7_copyOf_1904c, Cond.static yJ7_copyOf_1904c]
def wsJx4a65c_grow_d5877_r2 : List Cond := [Cond.initialized RJ7, Cond.code yJ7_copyOf_1904c cJ7_copyOf_1904c 2 (some (.array (.object "java/lang/Object"))), Cond.methodLink RJ7 86 ⟨"java/lang/Object", "getClass", "()Ljava/lang/Class;"⟩, Cond.selects "[Ljava/lang/Object;" ⟨"java/lang/Object", "getClass", "()Ljava/lang/Class;"⟩ ⟨"java/lang/Object", "getClass", "()Ljava/lang/Class;"⟩, Cond.instanceMethod ⟨"java/lang/Object", "getClass", "()Ljava/lang/Class;"⟩, Cond.native ⟨"java/lang/Object", "getClass", "()Ljava/lang/Class;"⟩, Cond.methodLink RJ7 300 yJ7_copyOf_6403c, Cond.static yJ7_copyOf_6403c, Cond.code yJ7_copyOf_6403c cJ7_copyOf_6403c 4 (some (.array (.object "java/lang/Object"))), Cond.classLink RJ7 110 "[Ljava/lang/Object;", Cond.classLink RJ7 2 "java/lang/Object", Cond.methodLink RJ7 304 Lib.Math.min.name, Cond.static Lib.Math.min.name, Cond.code Lib.Math.min.name Lib.Math.min.code 2 (some .int), Cond.methodLink RJ7 150 arraycopyName, Cond.native arraycopyName, Cond.static arraycopyName, Cond.initialized "java/lang/System"]
def wsJx4a65c_grow_d5877 : List Cond := .code yJx4a65c_grow_d5877 cJx4a65c_grow_d5877 1 (some (.array (.object "java/lang/Object"))) :: ((wsJx4a65c_grow_d5877_r1 ++ wsJx4a65c_grow_d5877_r2) ++ wsJx4a65c0)
def wsJx4a65c_add_72be8_r1 : List Cond := [Cond.fieldLink RJx4a65c 48 "java/util/ArrayList" "size" "I", Cond.methodLink RJx4a65c 129 yJx4a65c_grow_d5877, Cond.instanceMethod yJx4a65c_grow_d5877, Cond.selects RJx4a65c yJx4a65c_grow_d5877 yJx4a65c_grow_d5877, Cond.initialized RJx4a65c, Cond.code yJx4a65c_grow_d5877 cJx4a65c_grow_d5877 1 (some (.array (.object "java/lang/Object"))), Cond.methodLink RJx4a65c 69 yJx4a65c_grow_92f84, Cond.instanceMethod yJx4a65c_grow_92f84, Cond.selects RJx4a65c yJx4a65c_grow_92f84 yJx4a65c_grow_92f84, Cond.code yJx4a65c_grow_92f84 cJx4a65c_grow_92f84 4 (some (.array (.object "java/lang/Object"))), Cond.fieldLink RJx4a65c 9 "java/util/ArrayList" "elementData" "[Ljava/lang/Object;", Cond.fieldLink RJx4a65c 39 "java/util/ArrayList" "DEFAULTCAPACITY_EMPTY_ELEMENTDATA" "[Ljava/lang/Object;", Cond.methodLink RJx4a65c 79 Lib.Math.max.name, Cond.static Lib.Math.max.name, Cond.initialized "java/lang/Math", Cond.code Lib.Math.max.name Lib.Math.max.code 2 (some .int), Cond.classLink RJx4a65c 7 "java/lang/Object", Cond.methodLink RJx4a65c 73 yJ8_newLength_cabcc, Cond.static yJ8_newLength_cabcc, Cond.initialized RJ8, Cond.code yJ8_newLength_cabcc cJ8_newLength_cabcc 4 (some .int), Cond.methodLink RJ8 194 Lib.Math.max.name, Cond.constant RJ8 200 (2147483639), Cond.methodLink RJ8 201 yJ8_hugeLength_7cf53]
def wsJx4a65c_add_72be8_r2 : List Cond := [Cond.static yJ8_hugeLength_7cf53, Cond.code yJ8_hugeLength_7cf53 cJ8_hugeLength_7cf53 3 (some .int), Cond.methodLink RJx4a65c 66 yJ7_copyOf_1904c, Cond.static yJ7_copyOf_1904c, Cond.initialized RJ7, Cond.code yJ7_copyOf_1904c cJ7_copyOf_1904c 2 (some (.array (.object "java/lang/Object"))), Cond.methodLink RJ7 86 ⟨"java/lang/Object", "getClass", "()Ljava/lang/Class;"⟩, Cond.selects "[Ljava/lang/Object;" ⟨"java/lang/Object", "getClass", "()Ljava/lang/Class;"⟩ ⟨"java/lang/Object", "getClass", "()Ljava/lang/Class;"⟩, Cond.instanceMethod ⟨"java/lang/Object", "getClass", "()Ljava/lang/Class;"⟩, Cond.native ⟨"java/lang/Object", "getClass", "()Ljava/lang/Class;"⟩, Cond.methodLink RJ7 300 yJ7_copyOf_6403c, Cond.static yJ7_copyOf_6403c, Cond.code yJ7_copyOf_6403c cJ7_copyOf_6403c 4 (some (.array (.object "java/lang/Object"))), Cond.classLink RJ7 110 "[Ljava/lang/Object;", Cond.classLink RJ7 2 "java/lang/Object", Cond.methodLink RJ7 304 Lib.Math.min.name, Cond.static Lib.Math.min.name, Cond.code Lib.Math.min.name Lib.Math.min.code 2 (some .int), Cond.methodLink RJ7 150 arraycopyName, Cond.native arraycopyName, Cond.static arraycopyName, Cond.initialized "java/lang/System"]
def wsJx4a65c_add_72be8 : List Cond := .code yJx4a65c_add_72be8 cJx4a65c_add_72be8 4 none :: ((wsJx4a65c_add_72be8_r1 ++ wsJx4a65c_add_72be8_r2) ++ wsJx4a65c0)
def wsJx4a65c_add_9ea2d_r1 : List Cond := [Cond.fieldLink RJx4a65c 63 "java/util/ArrayList" "modCount" "I", Cond.sameField "java/util/ArrayList" "java/util/AbstractList" "modCount" "I", Cond.fieldLink RJx4a65c 9 "java/util/ArrayList" "elementData" "[Ljava/lang/Object;", Cond.fieldLink RJx4a65c 48 "java/util/ArrayList" "size" "I", Cond.methodLink RJx4a65c 131 yJx4a65c_add_72be8, Cond.instanceMethod yJx4a65c_add_72be8, Cond.selects RJx4a65c yJx4a65c_add_72be8 yJx4a65c_add_72be8, Cond.initialized RJx4a65c, Cond.code yJx4a65c_add_72be8 cJx4a65c_add_72be8 4 none, Cond.methodLink RJx4a65c 129 yJx4a65c_grow_d5877, Cond.instanceMethod yJx4a65c_grow_d5877, Cond.selects RJx4a65c yJx4a65c_grow_d5877 yJx4a65c_grow_d5877, Cond.code yJx4a65c_grow_d5877 cJx4a65c_grow_d5877 1 (some (.array (.object "java/lang/Object"))), Cond.methodLink RJx4a65c 69 yJx4a65c_grow_92f84, Cond.instanceMethod yJx4a65c_grow_92f84, Cond.selects RJx4a65c yJx4a65c_grow_92f84 yJx4a65c_grow_92f84, Cond.code yJx4a65c_grow_92f84 cJx4a65c_grow_92f84 4 (some (.array (.object "java/lang/Object"))), Cond.fieldLink RJx4a65c 39 "java/util/ArrayList" "DEFAULTCAPACITY_EMPTY_ELEMENTDATA" "[Ljava/lang/Object;", Cond.methodLink RJx4a65c 79 Lib.Math.max.name, Cond.static Lib.Math.max.name, Cond.initialized "java/lang/Math", Cond.code Lib.Math.max.name Lib.Math.max.code 2 (some .int), Cond.classLink RJx4a65c 7 "java/lang/Object", Cond.methodLink RJx4a65c 73 yJ8_newLength_cabcc]
def wsJx4a65c_add_9ea2d_r2 : List Cond := [Cond.static yJ8_newLength_cabcc, Cond.initialized RJ8, Cond.code yJ8_newLength_cabcc cJ8_newLength_cabcc 4 (some .int), Cond.methodLink RJ8 194 Lib.Math.max.name, Cond.constant RJ8 200 (2147483639), Cond.methodLink RJ8 201 yJ8_hugeLength_7cf53, Cond.static yJ8_hugeLength_7cf53, Cond.code yJ8_hugeLength_7cf53 cJ8_hugeLength_7cf53 3 (some .int), Cond.methodLink RJx4a65c 66 yJ7_copyOf_1904c, Cond.static yJ7_copyOf_1904c, Cond.initialized RJ7, Cond.code yJ7_copyOf_1904c cJ7_copyOf_1904c 2 (some (.array (.object "java/lang/Object"))), Cond.methodLink RJ7 86 ⟨"java/lang/Object", "getClass", "()Ljava/lang/Class;"⟩, Cond.selects "[Ljava/lang/Object;" ⟨"java/lang/Object", "getClass", "()Ljava/lang/Class;"⟩ ⟨"java/lang/Object", "getClass", "()Ljava/lang/Class;"⟩, Cond.instanceMethod ⟨"java/lang/Object", "getClass", "()Ljava/lang/Class;"⟩, Cond.native ⟨"java/lang/Object", "getClass", "()Ljava/lang/Class;"⟩, Cond.methodLink RJ7 300 yJ7_copyOf_6403c, Cond.static yJ7_copyOf_6403c, Cond.code yJ7_copyOf_6403c cJ7_copyOf_6403c 4 (some (.array (.object "java/lang/Object"))), Cond.classLink RJ7 110 "[Ljava/lang/Object;", Cond.classLink RJ7 2 "java/lang/Object", Cond.methodLink RJ7 304 Lib.Math.min.name, Cond.static Lib.Math.min.name, Cond.code Lib.Math.min.name Lib.Math.min.code 2 (some .int)]
def wsJx4a65c_add_9ea2d_r3 : List Cond := [Cond.methodLink RJ7 150 arraycopyName, Cond.native arraycopyName, Cond.static arraycopyName, Cond.initialized "java/lang/System"]
def wsJx4a65c_add_9ea2d : List Cond := .code yJx4a65c_add_9ea2d cJx4a65c_add_9ea2d 2 (some .boolean) :: ((wsJx4a65c_add_9ea2d_r1 ++ (wsJx4a65c_add_9ea2d_r2 ++ wsJx4a65c_add_9ea2d_r3)) ++ wsJx4a65c0)
def wsX4_addKey_r1 : List Cond := [Cond.classLink RX4 66 "java/lang/IllegalStateException", Cond.initialized "java/lang/IllegalStateException", Cond.fieldLink RX4 24 "TollGateway" "keys" "Ljava/util/ArrayList;", Cond.classLink RX4 73 RX1, Cond.instantiable RX1 9, Cond.initialized RX1, Cond.methodLink RX4 35 yX4_planAt, Cond.instanceMethod yX4_planAt, Cond.selects RX4 yX4_planAt yX4_planAt, Cond.initialized RX4, Cond.code yX4_planAt cX4_planAt 2 (some (.object "TollGateway$Plan")), Cond.classLink RX4 177 "java/lang/IllegalArgumentException", Cond.initialized "java/lang/IllegalArgumentException", Cond.fieldLink RX4 11 "TollGateway" "plans" "[LTollGateway$Plan;", Cond.methodLink RX4 63 yJx4a65c_size_8abf5, Cond.instanceMethod yJx4a65c_size_8abf5, Cond.selects RJx4a65c yJx4a65c_size_8abf5 yJx4a65c_size_8abf5, Cond.initialized RJx4a65c, Cond.code yJx4a65c_size_8abf5 cJx4a65c_size_8abf5 1 (some .int), Cond.fieldLink RJx4a65c 48 "java/util/ArrayList" "size" "I", Cond.instanceMethod yX1_init, Cond.code yX1_init cX1_init 2 none, Cond.methodLink RX1 1 objectInit, Cond.instanceMethod objectInit]
def wsX4_addKey_r2 : List Cond := [Cond.code objectInit ⟨#[0xb1]⟩ 1 none, Cond.fieldLink RX1 7 "TollGateway$Key" "plan" "LTollGateway$Plan;", Cond.fieldLink RX1 19 "TollGateway$Key" "tokens" "I", Cond.methodLink RX4 78 yJx4a65c_add_9ea2d, Cond.instanceMethod yJx4a65c_add_9ea2d, Cond.selects RJx4a65c yJx4a65c_add_9ea2d yJx4a65c_add_9ea2d, Cond.code yJx4a65c_add_9ea2d cJx4a65c_add_9ea2d 2 (some .boolean), Cond.fieldLink RJx4a65c 63 "java/util/ArrayList" "modCount" "I", Cond.sameField "java/util/ArrayList" "java/util/AbstractList" "modCount" "I", Cond.fieldLink RJx4a65c 9 "java/util/ArrayList" "elementData" "[Ljava/lang/Object;", Cond.methodLink RJx4a65c 131 yJx4a65c_add_72be8, Cond.instanceMethod yJx4a65c_add_72be8, Cond.selects RJx4a65c yJx4a65c_add_72be8 yJx4a65c_add_72be8, Cond.code yJx4a65c_add_72be8 cJx4a65c_add_72be8 4 none, Cond.methodLink RJx4a65c 129 yJx4a65c_grow_d5877, Cond.instanceMethod yJx4a65c_grow_d5877, Cond.selects RJx4a65c yJx4a65c_grow_d5877 yJx4a65c_grow_d5877, Cond.code yJx4a65c_grow_d5877 cJx4a65c_grow_d5877 1 (some (.array (.object "java/lang/Object"))), Cond.methodLink RJx4a65c 69 yJx4a65c_grow_92f84, Cond.instanceMethod yJx4a65c_grow_92f84, Cond.selects RJx4a65c yJx4a65c_grow_92f84 yJx4a65c_grow_92f84, Cond.code yJx4a65c_grow_92f84 cJx4a65c_grow_92f84 4 (some (.array (.object "java/lang/Object"))), Cond.fieldLink RJx4a65c 39 "java/util/ArrayList" "DEFAULTCAPACITY_EMPTY_ELEMENTDATA" "[Ljava/lang/Object;", Cond.methodLink RJx4a65c 79 Lib.Math.max.name]
def wsX4_addKey_r3 : List Cond := [Cond.static Lib.Math.max.name, Cond.initialized "java/lang/Math", Cond.code Lib.Math.max.name Lib.Math.max.code 2 (some .int), Cond.classLink RJx4a65c 7 "java/lang/Object", Cond.methodLink RJx4a65c 73 yJ8_newLength_cabcc, Cond.static yJ8_newLength_cabcc, Cond.initialized RJ8, Cond.code yJ8_newLength_cabcc cJ8_newLength_cabcc 4 (some .int), Cond.methodLink RJ8 194 Lib.Math.max.name, Cond.constant RJ8 200 (2147483639), Cond.methodLink RJ8 201 yJ8_hugeLength_7cf53, Cond.static yJ8_hugeLength_7cf53, Cond.code yJ8_hugeLength_7cf53 cJ8_hugeLength_7cf53 3 (some .int), Cond.methodLink RJx4a65c 66 yJ7_copyOf_1904c, Cond.static yJ7_copyOf_1904c, Cond.initialized RJ7, Cond.code yJ7_copyOf_1904c cJ7_copyOf_1904c 2 (some (.array (.object "java/lang/Object"))), Cond.methodLink RJ7 86 ⟨"java/lang/Object", "getClass", "()Ljava/lang/Class;"⟩, Cond.selects "[Ljava/lang/Object;" ⟨"java/lang/Object", "getClass", "()Ljava/lang/Class;"⟩ ⟨"java/lang/Object", "getClass", "()Ljava/lang/Class;"⟩, Cond.instanceMethod ⟨"java/lang/Object", "getClass", "()Ljava/lang/Class;"⟩, Cond.native ⟨"java/lang/Object", "getClass", "()Ljava/lang/Class;"⟩, Cond.methodLink RJ7 300 yJ7_copyOf_6403c, Cond.static yJ7_copyOf_6403c, Cond.code yJ7_copyOf_6403c cJ7_copyOf_6403c 4 (some (.array (.object "java/lang/Object")))]
def wsX4_addKey_r4 : List Cond := [Cond.classLink RJ7 110 "[Ljava/lang/Object;", Cond.classLink RJ7 2 "java/lang/Object", Cond.methodLink RJ7 304 Lib.Math.min.name, Cond.static Lib.Math.min.name, Cond.code Lib.Math.min.name Lib.Math.min.code 2 (some .int), Cond.methodLink RJ7 150 arraycopyName, Cond.native arraycopyName, Cond.static arraycopyName, Cond.initialized "java/lang/System"]
def wsX4_addKey : List Cond := .code yX4_addKey cX4_addKey 3 (some .int) :: ((wsX4_addKey_r1 ++ (wsX4_addKey_r2 ++ (wsX4_addKey_r3 ++ wsX4_addKey_r4))) ++ wsX40 ++ wsX10 ++ wsJx4a65c0 ++ wsX20 ++ (vx_atS RX4 70 "java/lang/IllegalStateException" ["java/lang/RuntimeException", "java/lang/Exception"]).filter goodWord ++ (vx_atS RX4 181 "java/lang/IllegalArgumentException" ["java/lang/RuntimeException", "java/lang/Exception"]).filter goodWord)
def wsJ3_checkIndex_8e157 : List Cond := .code yJ3_checkIndex_8e157 cJ3_checkIndex_8e157 3 (some .int) :: ([])
def wsJ15_checkIndex_7cf53 : List Cond := .code yJ15_checkIndex_7cf53 cJ15_checkIndex_7cf53 2 (some .int) :: ([.methodLink RJ15 105 yJ3_checkIndex_8e157, .static yJ3_checkIndex_8e157, .initialized RJ3, .code yJ3_checkIndex_8e157 cJ3_checkIndex_8e157 3 (some .int)])
def wsJx4a65c_elementData_915e3 : List Cond := .code yJx4a65c_elementData_915e3 cJx4a65c_elementData_915e3 2 (some (.object "java/lang/Object")) :: ([.fieldLink RJx4a65c 9 "java/util/ArrayList" "elementData" "[Ljava/lang/Object;"] ++ wsJx4a65c0)
def wsJx4a65c_get_915e3 : List Cond := .code yJx4a65c_get_915e3 cJx4a65c_get_915e3 2 (some (.object "java/lang/Object")) :: ([.fieldLink RJx4a65c 48 "java/util/ArrayList" "size" "I", .methodLink RJx4a65c 118 yJ15_checkIndex_7cf53, .static yJ15_checkIndex_7cf53, .initialized RJ15, .code yJ15_checkIndex_7cf53 cJ15_checkIndex_7cf53 2 (some .int), .methodLink RJ15 105 yJ3_checkIndex_8e157, .static yJ3_checkIndex_8e157, .initialized RJ3, .code yJ3_checkIndex_8e157 cJ3_checkIndex_8e157 3 (some .int), .methodLink RJx4a65c 123 yJx4a65c_elementData_915e3, .instanceMethod yJx4a65c_elementData_915e3, .selects RJx4a65c yJx4a65c_elementData_915e3 yJx4a65c_elementData_915e3, .initialized RJx4a65c, .code yJx4a65c_elementData_915e3 cJx4a65c_elementData_915e3 2 (some (.object "java/lang/Object")), .fieldLink RJx4a65c 9 "java/util/ArrayList" "elementData" "[Ljava/lang/Object;"] ++ wsJx4a65c0)
def wsX4_keyAt_r1 : List Cond := [Cond.classLink RX4 184 "java/lang/IndexOutOfBoundsException", Cond.initialized "java/lang/IndexOutOfBoundsException", Cond.fieldLink RX4 24 "TollGateway" "keys" "Ljava/util/ArrayList;", Cond.classLink RX4 73 "TollGateway$Key", Cond.methodLink RX4 63 yJx4a65c_size_8abf5, Cond.instanceMethod yJx4a65c_size_8abf5, Cond.selects RJx4a65c yJx4a65c_size_8abf5 yJx4a65c_size_8abf5, Cond.initialized RJx4a65c, Cond.code yJx4a65c_size_8abf5 cJx4a65c_size_8abf5 1 (some .int), Cond.fieldLink RJx4a65c 48 "java/util/ArrayList" "size" "I", Cond.methodLink RX4 189 yJx4a65c_get_915e3, Cond.instanceMethod yJx4a65c_get_915e3, Cond.selects RJx4a65c yJx4a65c_get_915e3 yJx4a65c_get_915e3, Cond.code yJx4a65c_get_915e3 cJx4a65c_get_915e3 2 (some (.object "java/lang/Object")), Cond.methodLink RJx4a65c 118 yJ15_checkIndex_7cf53, Cond.static yJ15_checkIndex_7cf53, Cond.initialized RJ15, Cond.code yJ15_checkIndex_7cf53 cJ15_checkIndex_7cf53 2 (some .int), Cond.methodLink RJ15 105 yJ3_checkIndex_8e157, Cond.static yJ3_checkIndex_8e157, Cond.initialized RJ3, Cond.code yJ3_checkIndex_8e157 cJ3_checkIndex_8e157 3 (some .int), Cond.methodLink RJx4a65c 123 yJx4a65c_elementData_915e3, Cond.instanceMethod yJx4a65c_elementData_915e3]
def wsX4_keyAt_r2 : List Cond := [Cond.selects RJx4a65c yJx4a65c_elementData_915e3 yJx4a65c_elementData_915e3, Cond.code yJx4a65c_elementData_915e3 cJx4a65c_elementData_915e3 2 (some (.object "java/lang/Object")), Cond.fieldLink RJx4a65c 9 "java/util/ArrayList" "elementData" "[Ljava/lang/Object;"]
def wsX4_keyAt : List Cond := .code yX4_keyAt cX4_keyAt 2 (some (.object "TollGateway$Key")) :: ((wsX4_keyAt_r1 ++ wsX4_keyAt_r2) ++ wsX40 ++ wsJx4a65c0 ++ (vx_atS RX4 188 "java/lang/IndexOutOfBoundsException" ["java/lang/RuntimeException", "java/lang/Exception"]).filter goodWord)
def wsX4_setKeyPlan_r1 : List Cond := [Cond.methodLink RX4 82 yX4_keyAt, Cond.instanceMethod yX4_keyAt, Cond.selects RX4 yX4_keyAt yX4_keyAt, Cond.initialized RX4, Cond.code yX4_keyAt cX4_keyAt 2 (some (.object "TollGateway$Key")), Cond.classLink RX4 184 "java/lang/IndexOutOfBoundsException", Cond.initialized "java/lang/IndexOutOfBoundsException", Cond.fieldLink RX4 24 "TollGateway" "keys" "Ljava/util/ArrayList;", Cond.classLink RX4 73 "TollGateway$Key", Cond.methodLink RX4 63 yJx4a65c_size_8abf5, Cond.instanceMethod yJx4a65c_size_8abf5, Cond.selects RJx4a65c yJx4a65c_size_8abf5 yJx4a65c_size_8abf5, Cond.initialized RJx4a65c, Cond.code yJx4a65c_size_8abf5 cJx4a65c_size_8abf5 1 (some .int), Cond.fieldLink RJx4a65c 48 "java/util/ArrayList" "size" "I", Cond.methodLink RX4 189 yJx4a65c_get_915e3, Cond.instanceMethod yJx4a65c_get_915e3, Cond.selects RJx4a65c yJx4a65c_get_915e3 yJx4a65c_get_915e3, Cond.code yJx4a65c_get_915e3 cJx4a65c_get_915e3 2 (some (.object "java/lang/Object")), Cond.methodLink RJx4a65c 118 yJ15_checkIndex_7cf53, Cond.static yJ15_checkIndex_7cf53, Cond.initialized RJ15, Cond.code yJ15_checkIndex_7cf53 cJ15_checkIndex_7cf53 2 (some .int), Cond.methodLink RJ15 105 yJ3_checkIndex_8e157]
def wsX4_setKeyPlan_r2 : List Cond := [Cond.static yJ3_checkIndex_8e157, Cond.initialized RJ3, Cond.code yJ3_checkIndex_8e157 cJ3_checkIndex_8e157 3 (some .int), Cond.methodLink RJx4a65c 123 yJx4a65c_elementData_915e3, Cond.instanceMethod yJx4a65c_elementData_915e3, Cond.selects RJx4a65c yJx4a65c_elementData_915e3 yJx4a65c_elementData_915e3, Cond.code yJx4a65c_elementData_915e3 cJx4a65c_elementData_915e3 2 (some (.object "java/lang/Object")), Cond.fieldLink RJx4a65c 9 "java/util/ArrayList" "elementData" "[Ljava/lang/Object;", Cond.methodLink RX4 35 yX4_planAt, Cond.instanceMethod yX4_planAt, Cond.selects RX4 yX4_planAt yX4_planAt, Cond.code yX4_planAt cX4_planAt 2 (some (.object "TollGateway$Plan")), Cond.classLink RX4 177 "java/lang/IllegalArgumentException", Cond.initialized "java/lang/IllegalArgumentException", Cond.fieldLink RX4 11 "TollGateway" "plans" "[LTollGateway$Plan;"]
def wsX4_setKeyPlan : List Cond := .code yX4_setKeyPlan cX4_setKeyPlan 6 (some .int) :: ((wsX4_setKeyPlan_r1 ++ wsX4_setKeyPlan_r2) ++ wsX10 ++ wsX20 ++ wsX40 ++ wsJx4a65c0 ++ (vx_atS RX4 188 "java/lang/IndexOutOfBoundsException" ["java/lang/RuntimeException", "java/lang/Exception"]).filter goodWord ++ (vx_atS RX4 181 "java/lang/IllegalArgumentException" ["java/lang/RuntimeException", "java/lang/Exception"]).filter goodWord)
def wsX4_setTrust_r1 : List Cond := [Cond.methodLink RX4 82 yX4_keyAt, Cond.instanceMethod yX4_keyAt, Cond.selects RX4 yX4_keyAt yX4_keyAt, Cond.initialized RX4, Cond.code yX4_keyAt cX4_keyAt 2 (some (.object "TollGateway$Key")), Cond.classLink RX4 184 "java/lang/IndexOutOfBoundsException", Cond.initialized "java/lang/IndexOutOfBoundsException", Cond.fieldLink RX4 24 "TollGateway" "keys" "Ljava/util/ArrayList;", Cond.classLink RX4 73 "TollGateway$Key", Cond.methodLink RX4 63 yJx4a65c_size_8abf5, Cond.instanceMethod yJx4a65c_size_8abf5, Cond.selects RJx4a65c yJx4a65c_size_8abf5 yJx4a65c_size_8abf5, Cond.initialized RJx4a65c, Cond.code yJx4a65c_size_8abf5 cJx4a65c_size_8abf5 1 (some .int), Cond.fieldLink RJx4a65c 48 "java/util/ArrayList" "size" "I", Cond.methodLink RX4 189 yJx4a65c_get_915e3, Cond.instanceMethod yJx4a65c_get_915e3, Cond.selects RJx4a65c yJx4a65c_get_915e3 yJx4a65c_get_915e3, Cond.code yJx4a65c_get_915e3 cJx4a65c_get_915e3 2 (some (.object "java/lang/Object")), Cond.methodLink RJx4a65c 118 yJ15_checkIndex_7cf53, Cond.static yJ15_checkIndex_7cf53, Cond.initialized RJ15, Cond.code yJ15_checkIndex_7cf53 cJ15_checkIndex_7cf53 2 (some .int), Cond.methodLink RJ15 105 yJ3_checkIndex_8e157]
def wsX4_setTrust_r2 : List Cond := [Cond.static yJ3_checkIndex_8e157, Cond.initialized RJ3, Cond.code yJ3_checkIndex_8e157 cJ3_checkIndex_8e157 3 (some .int), Cond.methodLink RJx4a65c 123 yJx4a65c_elementData_915e3, Cond.instanceMethod yJx4a65c_elementData_915e3, Cond.selects RJx4a65c yJx4a65c_elementData_915e3 yJx4a65c_elementData_915e3, Cond.code yJx4a65c_elementData_915e3 cJx4a65c_elementData_915e3 2 (some (.object "java/lang/Object")), Cond.fieldLink RJx4a65c 9 "java/util/ArrayList" "elementData" "[Ljava/lang/Object;", Cond.methodLink RX4 39 yX4_refuseOutside, Cond.static yX4_refuseOutside, Cond.code yX4_refuseOutside cX4_refuseOutside 3 none, Cond.classLink RX4 177 "java/lang/IllegalArgumentException", Cond.initialized "java/lang/IllegalArgumentException"]
def wsX4_setTrust : List Cond := .code yX4_setTrust cX4_setTrust 5 (some .int) :: ((wsX4_setTrust_r1 ++ wsX4_setTrust_r2) ++ wsX10 ++ wsX40 ++ wsJx4a65c0 ++ (vx_atS RX4 188 "java/lang/IndexOutOfBoundsException" ["java/lang/RuntimeException", "java/lang/Exception"]).filter goodWord ++ (vx_atS RX4 181 "java/lang/IllegalArgumentException" ["java/lang/RuntimeException", "java/lang/Exception"]).filter goodWord)
def wsX4_pay_r1 : List Cond := [Cond.constant RX4 96 (100000), Cond.methodLink RX4 82 yX4_keyAt, Cond.instanceMethod yX4_keyAt, Cond.selects RX4 yX4_keyAt yX4_keyAt, Cond.initialized RX4, Cond.code yX4_keyAt cX4_keyAt 2 (some (.object "TollGateway$Key")), Cond.classLink RX4 184 "java/lang/IndexOutOfBoundsException", Cond.initialized "java/lang/IndexOutOfBoundsException", Cond.fieldLink RX4 24 "TollGateway" "keys" "Ljava/util/ArrayList;", Cond.classLink RX4 73 "TollGateway$Key", Cond.methodLink RX4 63 yJx4a65c_size_8abf5, Cond.instanceMethod yJx4a65c_size_8abf5, Cond.selects RJx4a65c yJx4a65c_size_8abf5 yJx4a65c_size_8abf5, Cond.initialized RJx4a65c, Cond.code yJx4a65c_size_8abf5 cJx4a65c_size_8abf5 1 (some .int), Cond.fieldLink RJx4a65c 48 "java/util/ArrayList" "size" "I", Cond.methodLink RX4 189 yJx4a65c_get_915e3, Cond.instanceMethod yJx4a65c_get_915e3, Cond.selects RJx4a65c yJx4a65c_get_915e3 yJx4a65c_get_915e3, Cond.code yJx4a65c_get_915e3 cJx4a65c_get_915e3 2 (some (.object "java/lang/Object")), Cond.methodLink RJx4a65c 118 yJ15_checkIndex_7cf53, Cond.static yJ15_checkIndex_7cf53, Cond.initialized RJ15, Cond.code yJ15_checkIndex_7cf53 cJ15_checkIndex_7cf53 2 (some .int)]
def wsX4_pay_r2 : List Cond := [Cond.methodLink RJ15 105 yJ3_checkIndex_8e157, Cond.static yJ3_checkIndex_8e157, Cond.initialized RJ3, Cond.code yJ3_checkIndex_8e157 cJ3_checkIndex_8e157 3 (some .int), Cond.methodLink RJx4a65c 123 yJx4a65c_elementData_915e3, Cond.instanceMethod yJx4a65c_elementData_915e3, Cond.selects RJx4a65c yJx4a65c_elementData_915e3 yJx4a65c_elementData_915e3, Cond.code yJx4a65c_elementData_915e3 cJx4a65c_elementData_915e3 2 (some (.object "java/lang/Object")), Cond.fieldLink RJx4a65c 9 "java/util/ArrayList" "elementData" "[Ljava/lang/Object;", Cond.methodLink RX4 39 yX4_refuseOutside, Cond.static yX4_refuseOutside, Cond.code yX4_refuseOutside cX4_refuseOutside 3 none, Cond.classLink RX4 177 "java/lang/IllegalArgumentException", Cond.initialized "java/lang/IllegalArgumentException", Cond.instanceMethod yX1_receive, Cond.initialized RX1, Cond.selects RX1 yX1_receive yX1_receive, Cond.code yX1_receive cX1_receive 3 none, Cond.fieldLink RX1 22 "TollGateway$Key" "debt" "I", Cond.methodLink RX1 25 Lib.Math.min.name, Cond.static Lib.Math.min.name, Cond.initialized "java/lang/Math", Cond.code Lib.Math.min.name Lib.Math.min.code 2 (some .int), Cond.fieldLink RX1 31 "TollGateway$Key" "credit" "I"]
def wsX4_pay : List Cond := .code yX4_pay cX4_pay 4 (some .int) :: ((wsX4_pay_r1 ++ wsX4_pay_r2) ++ wsX10 ++ wsX40 ++ wsJx4a65c0 ++ (vx_atS RX4 188 "java/lang/IndexOutOfBoundsException" ["java/lang/RuntimeException", "java/lang/Exception"]).filter goodWord ++ (vx_atS RX4 181 "java/lang/IllegalArgumentException" ["java/lang/RuntimeException", "java/lang/Exception"]).filter goodWord)
def wsX4_call_r1 : List Cond := [Cond.classLink RX4 66 "java/lang/IllegalStateException", Cond.initialized "java/lang/IllegalStateException", Cond.fieldLink RX4 28 "TollGateway" "letThrough" "Ljava/util/ArrayList;", Cond.classLink RX4 118 RX0, Cond.instantiable RX0 7, Cond.initialized RX0, Cond.fieldLink RX4 120 "TollGateway" "tick" "I", Cond.methodLink RX4 82 yX4_keyAt, Cond.instanceMethod yX4_keyAt, Cond.selects RX4 yX4_keyAt yX4_keyAt, Cond.initialized RX4, Cond.code yX4_keyAt cX4_keyAt 2 (some (.object "TollGateway$Key")), Cond.classLink RX4 184 "java/lang/IndexOutOfBoundsException", Cond.initialized "java/lang/IndexOutOfBoundsException", Cond.fieldLink RX4 24 "TollGateway" "keys" "Ljava/util/ArrayList;", Cond.classLink RX4 73 "TollGateway$Key", Cond.methodLink RX4 63 yJx4a65c_size_8abf5, Cond.instanceMethod yJx4a65c_size_8abf5, Cond.selects RJx4a65c yJx4a65c_size_8abf5 yJx4a65c_size_8abf5, Cond.initialized RJx4a65c, Cond.code yJx4a65c_size_8abf5 cJx4a65c_size_8abf5 1 (some .int), Cond.fieldLink RJx4a65c 48 "java/util/ArrayList" "size" "I", Cond.methodLink RX4 189 yJx4a65c_get_915e3, Cond.instanceMethod yJx4a65c_get_915e3]
def wsX4_call_r2 : List Cond := [Cond.selects RJx4a65c yJx4a65c_get_915e3 yJx4a65c_get_915e3, Cond.code yJx4a65c_get_915e3 cJx4a65c_get_915e3 2 (some (.object "java/lang/Object")), Cond.methodLink RJx4a65c 118 yJ15_checkIndex_7cf53, Cond.static yJ15_checkIndex_7cf53, Cond.initialized RJ15, Cond.code yJ15_checkIndex_7cf53 cJ15_checkIndex_7cf53 2 (some .int), Cond.methodLink RJ15 105 yJ3_checkIndex_8e157, Cond.static yJ3_checkIndex_8e157, Cond.initialized RJ3, Cond.code yJ3_checkIndex_8e157 cJ3_checkIndex_8e157 3 (some .int), Cond.methodLink RJx4a65c 123 yJx4a65c_elementData_915e3, Cond.instanceMethod yJx4a65c_elementData_915e3, Cond.selects RJx4a65c yJx4a65c_elementData_915e3 yJx4a65c_elementData_915e3, Cond.code yJx4a65c_elementData_915e3 cJx4a65c_elementData_915e3 2 (some (.object "java/lang/Object")), Cond.fieldLink RJx4a65c 9 "java/util/ArrayList" "elementData" "[Ljava/lang/Object;", Cond.methodLink RX4 53 yX4_routeAt, Cond.instanceMethod yX4_routeAt, Cond.selects RX4 yX4_routeAt yX4_routeAt, Cond.code yX4_routeAt cX4_routeAt 2 (some (.object "TollGateway$Route")), Cond.classLink RX4 177 "java/lang/IllegalArgumentException", Cond.initialized "java/lang/IllegalArgumentException", Cond.fieldLink RX4 17 "TollGateway" "routes" "[LTollGateway$Route;", Cond.methodLink RX4 39 yX4_refuseOutside, Cond.static yX4_refuseOutside]
def wsX4_call_r3 : List Cond := [Cond.code yX4_refuseOutside cX4_refuseOutside 3 none, Cond.instanceMethod yX1_canCover, Cond.initialized RX1, Cond.selects RX1 yX1_canCover yX1_canCover, Cond.code yX1_canCover cX1_canCover 3 (some .boolean), Cond.fieldLink RX1 34 "TollGateway$Key" "trustLine" "I", Cond.fieldLink RX1 22 "TollGateway$Key" "debt" "I", Cond.methodLink RX1 37 Lib.Math.max.name, Cond.static Lib.Math.max.name, Cond.initialized "java/lang/Math", Cond.code Lib.Math.max.name Lib.Math.max.code 2 (some .int), Cond.fieldLink RX1 31 "TollGateway$Key" "credit" "I", Cond.instanceMethod yX1_openHold, Cond.selects RX1 yX1_openHold yX1_openHold, Cond.code yX1_openHold cX1_openHold 3 none, Cond.methodLink RX1 25 Lib.Math.min.name, Cond.static Lib.Math.min.name, Cond.code Lib.Math.min.name Lib.Math.min.code 2 (some .int), Cond.fieldLink RX1 40 "TollGateway$Key" "held" "I", Cond.fieldLink RX1 43 "TollGateway$Key" "openHolds" "I", Cond.instanceMethod yX0_init, Cond.code yX0_init cX0_init 5 none, Cond.methodLink RX0 3 objectInit, Cond.instanceMethod objectInit]
def wsX4_call_r4 : List Cond := [Cond.code objectInit ⟨#[0xb1]⟩ 1 none, Cond.fieldLink RX0 9 "TollGateway$Call" "cost" "I", Cond.fieldLink RX0 15 "TollGateway$Call" "key" "LTollGateway$Key;", Cond.fieldLink RX0 19 "TollGateway$Call" "worth" "I", Cond.fieldLink RX0 22 "TollGateway$Call" "weight" "I", Cond.fieldLink RX0 25 "TollGateway$Call" "dueTick" "I", Cond.methodLink RX4 78 yJx4a65c_add_9ea2d, Cond.instanceMethod yJx4a65c_add_9ea2d, Cond.selects RJx4a65c yJx4a65c_add_9ea2d yJx4a65c_add_9ea2d, Cond.code yJx4a65c_add_9ea2d cJx4a65c_add_9ea2d 2 (some .boolean), Cond.fieldLink RJx4a65c 63 "java/util/ArrayList" "modCount" "I", Cond.sameField "java/util/ArrayList" "java/util/AbstractList" "modCount" "I", Cond.methodLink RJx4a65c 131 yJx4a65c_add_72be8, Cond.instanceMethod yJx4a65c_add_72be8, Cond.selects RJx4a65c yJx4a65c_add_72be8 yJx4a65c_add_72be8, Cond.code yJx4a65c_add_72be8 cJx4a65c_add_72be8 4 none, Cond.methodLink RJx4a65c 129 yJx4a65c_grow_d5877, Cond.instanceMethod yJx4a65c_grow_d5877, Cond.selects RJx4a65c yJx4a65c_grow_d5877 yJx4a65c_grow_d5877, Cond.code yJx4a65c_grow_d5877 cJx4a65c_grow_d5877 1 (some (.array (.object "java/lang/Object"))), Cond.methodLink RJx4a65c 69 yJx4a65c_grow_92f84, Cond.instanceMethod yJx4a65c_grow_92f84, Cond.selects RJx4a65c yJx4a65c_grow_92f84 yJx4a65c_grow_92f84, Cond.code yJx4a65c_grow_92f84 cJx4a65c_grow_92f84 4 (some (.array (.object "java/lang/Object")))]
def wsX4_call_r5 : List Cond := [Cond.fieldLink RJx4a65c 39 "java/util/ArrayList" "DEFAULTCAPACITY_EMPTY_ELEMENTDATA" "[Ljava/lang/Object;", Cond.methodLink RJx4a65c 79 Lib.Math.max.name, Cond.classLink RJx4a65c 7 "java/lang/Object", Cond.methodLink RJx4a65c 73 yJ8_newLength_cabcc, Cond.static yJ8_newLength_cabcc, Cond.initialized RJ8, Cond.code yJ8_newLength_cabcc cJ8_newLength_cabcc 4 (some .int), Cond.methodLink RJ8 194 Lib.Math.max.name, Cond.constant RJ8 200 (2147483639), Cond.methodLink RJ8 201 yJ8_hugeLength_7cf53, Cond.static yJ8_hugeLength_7cf53, Cond.code yJ8_hugeLength_7cf53 cJ8_hugeLength_7cf53 3 (some .int), Cond.methodLink RJx4a65c 66 yJ7_copyOf_1904c, Cond.static yJ7_copyOf_1904c, Cond.initialized RJ7, Cond.code yJ7_copyOf_1904c cJ7_copyOf_1904c 2 (some (.array (.object "java/lang/Object"))), Cond.methodLink RJ7 86 ⟨"java/lang/Object", "getClass", "()Ljava/lang/Class;"⟩, Cond.selects "[Ljava/lang/Object;" ⟨"java/lang/Object", "getClass", "()Ljava/lang/Class;"⟩ ⟨"java/lang/Object", "getClass", "()Ljava/lang/Class;"⟩, Cond.instanceMethod ⟨"java/lang/Object", "getClass", "()Ljava/lang/Class;"⟩, Cond.native ⟨"java/lang/Object", "getClass", "()Ljava/lang/Class;"⟩, Cond.methodLink RJ7 300 yJ7_copyOf_6403c, Cond.static yJ7_copyOf_6403c, Cond.code yJ7_copyOf_6403c cJ7_copyOf_6403c 4 (some (.array (.object "java/lang/Object"))), Cond.classLink RJ7 110 "[Ljava/lang/Object;"]
def wsX4_call_r6 : List Cond := [Cond.classLink RJ7 2 "java/lang/Object", Cond.methodLink RJ7 304 Lib.Math.min.name, Cond.methodLink RJ7 150 arraycopyName, Cond.native arraycopyName, Cond.static arraycopyName, Cond.initialized "java/lang/System"]
def wsX4_call : List Cond := .code yX4_call cX4_call 7 (some .int) :: ((wsX4_call_r1 ++ (wsX4_call_r2 ++ (wsX4_call_r3 ++ (wsX4_call_r4 ++ (wsX4_call_r5 ++ wsX4_call_r6))))) ++ wsX40 ++ wsX30 ++ wsX10 ++ wsX00 ++ wsJx4a65c0 ++ (vx_atS RX4 70 "java/lang/IllegalStateException" ["java/lang/RuntimeException", "java/lang/Exception"]).filter goodWord ++ (vx_atS RX4 188 "java/lang/IndexOutOfBoundsException" ["java/lang/RuntimeException", "java/lang/Exception"]).filter goodWord ++ (vx_atS RX4 181 "java/lang/IllegalArgumentException" ["java/lang/RuntimeException", "java/lang/Exception"]).filter goodWord)
def wsX4_callAt_r1 : List Cond := [Cond.classLink RX4 184 "java/lang/IndexOutOfBoundsException", Cond.initialized "java/lang/IndexOutOfBoundsException", Cond.fieldLink RX4 28 "TollGateway" "letThrough" "Ljava/util/ArrayList;", Cond.classLink RX4 118 "TollGateway$Call", Cond.methodLink RX4 63 yJx4a65c_size_8abf5, Cond.instanceMethod yJx4a65c_size_8abf5, Cond.selects RJx4a65c yJx4a65c_size_8abf5 yJx4a65c_size_8abf5, Cond.initialized RJx4a65c, Cond.code yJx4a65c_size_8abf5 cJx4a65c_size_8abf5 1 (some .int), Cond.fieldLink RJx4a65c 48 "java/util/ArrayList" "size" "I", Cond.methodLink RX4 189 yJx4a65c_get_915e3, Cond.instanceMethod yJx4a65c_get_915e3, Cond.selects RJx4a65c yJx4a65c_get_915e3 yJx4a65c_get_915e3, Cond.code yJx4a65c_get_915e3 cJx4a65c_get_915e3 2 (some (.object "java/lang/Object")), Cond.methodLink RJx4a65c 118 yJ15_checkIndex_7cf53, Cond.static yJ15_checkIndex_7cf53, Cond.initialized RJ15, Cond.code yJ15_checkIndex_7cf53 cJ15_checkIndex_7cf53 2 (some .int), Cond.methodLink RJ15 105 yJ3_checkIndex_8e157, Cond.static yJ3_checkIndex_8e157, Cond.initialized RJ3, Cond.code yJ3_checkIndex_8e157 cJ3_checkIndex_8e157 3 (some .int), Cond.methodLink RJx4a65c 123 yJx4a65c_elementData_915e3, Cond.instanceMethod yJx4a65c_elementData_915e3]
def wsX4_callAt_r2 : List Cond := [Cond.selects RJx4a65c yJx4a65c_elementData_915e3 yJx4a65c_elementData_915e3, Cond.code yJx4a65c_elementData_915e3 cJx4a65c_elementData_915e3 2 (some (.object "java/lang/Object")), Cond.fieldLink RJx4a65c 9 "java/util/ArrayList" "elementData" "[Ljava/lang/Object;"]
def wsX4_callAt : List Cond := .code yX4_callAt cX4_callAt 2 (some (.object "TollGateway$Call")) :: ((wsX4_callAt_r1 ++ wsX4_callAt_r2) ++ wsX40 ++ wsJx4a65c0 ++ (vx_atS RX4 188 "java/lang/IndexOutOfBoundsException" ["java/lang/RuntimeException", "java/lang/Exception"]).filter goodWord)
def wsX4_end_r1 : List Cond := [Cond.classLink RX4 66 "java/lang/IllegalStateException", Cond.initialized "java/lang/IllegalStateException", Cond.fieldLink RX4 120 "TollGateway" "tick" "I", Cond.methodLink RX4 126 yX4_callAt, Cond.instanceMethod yX4_callAt, Cond.selects RX4 yX4_callAt yX4_callAt, Cond.initialized RX4, Cond.code yX4_callAt cX4_callAt 2 (some (.object "TollGateway$Call")), Cond.classLink RX4 184 "java/lang/IndexOutOfBoundsException", Cond.initialized "java/lang/IndexOutOfBoundsException", Cond.fieldLink RX4 28 "TollGateway" "letThrough" "Ljava/util/ArrayList;", Cond.classLink RX4 118 "TollGateway$Call", Cond.methodLink RX4 63 yJx4a65c_size_8abf5, Cond.instanceMethod yJx4a65c_size_8abf5, Cond.selects RJx4a65c yJx4a65c_size_8abf5 yJx4a65c_size_8abf5, Cond.initialized RJx4a65c, Cond.code yJx4a65c_size_8abf5 cJx4a65c_size_8abf5 1 (some .int), Cond.fieldLink RJx4a65c 48 "java/util/ArrayList" "size" "I", Cond.methodLink RX4 189 yJx4a65c_get_915e3, Cond.instanceMethod yJx4a65c_get_915e3, Cond.selects RJx4a65c yJx4a65c_get_915e3 yJx4a65c_get_915e3, Cond.code yJx4a65c_get_915e3 cJx4a65c_get_915e3 2 (some (.object "java/lang/Object")), Cond.methodLink RJx4a65c 118 yJ15_checkIndex_7cf53, Cond.static yJ15_checkIndex_7cf53]
def wsX4_end_r2 : List Cond := [Cond.initialized RJ15, Cond.code yJ15_checkIndex_7cf53 cJ15_checkIndex_7cf53 2 (some .int), Cond.methodLink RJ15 105 yJ3_checkIndex_8e157, Cond.static yJ3_checkIndex_8e157, Cond.initialized RJ3, Cond.code yJ3_checkIndex_8e157 cJ3_checkIndex_8e157 3 (some .int), Cond.methodLink RJx4a65c 123 yJx4a65c_elementData_915e3, Cond.instanceMethod yJx4a65c_elementData_915e3, Cond.selects RJx4a65c yJx4a65c_elementData_915e3 yJx4a65c_elementData_915e3, Cond.code yJx4a65c_elementData_915e3 cJx4a65c_elementData_915e3 2 (some (.object "java/lang/Object")), Cond.fieldLink RJx4a65c 9 "java/util/ArrayList" "elementData" "[Ljava/lang/Object;", Cond.methodLink RX4 39 yX4_refuseOutside, Cond.static yX4_refuseOutside, Cond.code yX4_refuseOutside cX4_refuseOutside 3 none, Cond.classLink RX4 177 "java/lang/IllegalArgumentException", Cond.initialized "java/lang/IllegalArgumentException", Cond.instanceMethod yX0_hasEnded, Cond.initialized RX0, Cond.selects RX0 yX0_hasEnded yX0_hasEnded, Cond.code yX0_hasEnded cX0_hasEnded 1 (some .boolean), Cond.fieldLink RX0 9 "TollGateway$Call" "cost" "I", Cond.instanceMethod yX0_settle, Cond.selects RX0 yX0_settle yX0_settle, Cond.code yX0_settle cX0_settle 3 none]
def wsX4_end_r3 : List Cond := [Cond.fieldLink RX0 32 "TollGateway$Call" "endTick" "I", Cond.fieldLink RX0 15 "TollGateway$Call" "key" "LTollGateway$Key;", Cond.fieldLink RX0 19 "TollGateway$Call" "worth" "I", Cond.methodLink RX0 28 yX0_costOf, Cond.instanceMethod yX0_costOf, Cond.selects RX0 yX0_costOf yX0_costOf, Cond.code yX0_costOf cX0_costOf 2 (some .int), Cond.instanceMethod yX1_closeHold, Cond.initialized RX1, Cond.selects RX1 yX1_closeHold yX1_closeHold, Cond.code yX1_closeHold cX1_closeHold 3 none, Cond.fieldLink RX1 40 "TollGateway$Key" "held" "I", Cond.fieldLink RX1 43 "TollGateway$Key" "openHolds" "I", Cond.fieldLink RX1 46 "TollGateway$Key" "spent" "I", Cond.methodLink RX1 49 yX1_receive, Cond.instanceMethod yX1_receive, Cond.selects RX1 yX1_receive yX1_receive, Cond.code yX1_receive cX1_receive 3 none, Cond.fieldLink RX1 22 "TollGateway$Key" "debt" "I", Cond.methodLink RX1 25 Lib.Math.min.name, Cond.static Lib.Math.min.name, Cond.initialized "java/lang/Math", Cond.code Lib.Math.min.name Lib.Math.min.code 2 (some .int), Cond.fieldLink RX1 31 "TollGateway$Key" "credit" "I"]
def wsX4_end : List Cond := .code yX4_end cX4_end 4 (some .int) :: ((wsX4_end_r1 ++ (wsX4_end_r2 ++ wsX4_end_r3)) ++ wsX40 ++ wsX00 ++ wsJx4a65c0 ++ wsX10 ++ (vx_atS RX4 70 "java/lang/IllegalStateException" ["java/lang/RuntimeException", "java/lang/Exception"]).filter goodWord ++ (vx_atS RX4 188 "java/lang/IndexOutOfBoundsException" ["java/lang/RuntimeException", "java/lang/Exception"]).filter goodWord ++ (vx_atS RX4 181 "java/lang/IllegalArgumentException" ["java/lang/RuntimeException", "java/lang/Exception"]).filter goodWord)
def wsX4_dispute_r1 : List Cond := [Cond.classLink RX4 66 "java/lang/IllegalStateException", Cond.initialized "java/lang/IllegalStateException", Cond.fieldLink RX4 120 "TollGateway" "tick" "I", Cond.methodLink RX4 126 yX4_callAt, Cond.instanceMethod yX4_callAt, Cond.selects RX4 yX4_callAt yX4_callAt, Cond.initialized RX4, Cond.code yX4_callAt cX4_callAt 2 (some (.object "TollGateway$Call")), Cond.classLink RX4 184 "java/lang/IndexOutOfBoundsException", Cond.initialized "java/lang/IndexOutOfBoundsException", Cond.fieldLink RX4 28 "TollGateway" "letThrough" "Ljava/util/ArrayList;", Cond.classLink RX4 118 "TollGateway$Call", Cond.methodLink RX4 63 yJx4a65c_size_8abf5, Cond.instanceMethod yJx4a65c_size_8abf5, Cond.selects RJx4a65c yJx4a65c_size_8abf5 yJx4a65c_size_8abf5, Cond.initialized RJx4a65c, Cond.code yJx4a65c_size_8abf5 cJx4a65c_size_8abf5 1 (some .int), Cond.fieldLink RJx4a65c 48 "java/util/ArrayList" "size" "I", Cond.methodLink RX4 189 yJx4a65c_get_915e3, Cond.instanceMethod yJx4a65c_get_915e3, Cond.selects RJx4a65c yJx4a65c_get_915e3 yJx4a65c_get_915e3, Cond.code yJx4a65c_get_915e3 cJx4a65c_get_915e3 2 (some (.object "java/lang/Object")), Cond.methodLink RJx4a65c 118 yJ15_checkIndex_7cf53, Cond.static yJ15_checkIndex_7cf53]
def wsX4_dispute_r2 : List Cond := [Cond.initialized RJ15, Cond.code yJ15_checkIndex_7cf53 cJ15_checkIndex_7cf53 2 (some .int), Cond.methodLink RJ15 105 yJ3_checkIndex_8e157, Cond.static yJ3_checkIndex_8e157, Cond.initialized RJ3, Cond.code yJ3_checkIndex_8e157 cJ3_checkIndex_8e157 3 (some .int), Cond.methodLink RJx4a65c 123 yJx4a65c_elementData_915e3, Cond.instanceMethod yJx4a65c_elementData_915e3, Cond.selects RJx4a65c yJx4a65c_elementData_915e3 yJx4a65c_elementData_915e3, Cond.code yJx4a65c_elementData_915e3 cJx4a65c_elementData_915e3 2 (some (.object "java/lang/Object")), Cond.fieldLink RJx4a65c 9 "java/util/ArrayList" "elementData" "[Ljava/lang/Object;", Cond.instanceMethod yX0_hasEnded, Cond.initialized RX0, Cond.selects RX0 yX0_hasEnded yX0_hasEnded, Cond.code yX0_hasEnded cX0_hasEnded 1 (some .boolean), Cond.fieldLink RX0 9 "TollGateway$Call" "cost" "I", Cond.instanceMethod yX0_giveBack, Cond.selects RX0 yX0_giveBack yX0_giveBack, Cond.code yX0_giveBack cX0_giveBack 2 (some .int), Cond.fieldLink RX0 41 "TollGateway$Call" "wasDisputed" "Z", Cond.fieldLink RX0 15 "TollGateway$Call" "key" "LTollGateway$Key;", Cond.fieldLink RX0 22 "TollGateway$Call" "weight" "I", Cond.instanceMethod yX1_receive, Cond.initialized RX1]
def wsX4_dispute_r3 : List Cond := [Cond.selects RX1 yX1_receive yX1_receive, Cond.code yX1_receive cX1_receive 3 none, Cond.fieldLink RX1 22 "TollGateway$Key" "debt" "I", Cond.methodLink RX1 25 Lib.Math.min.name, Cond.static Lib.Math.min.name, Cond.initialized "java/lang/Math", Cond.code Lib.Math.min.name Lib.Math.min.code 2 (some .int), Cond.fieldLink RX1 31 "TollGateway$Key" "credit" "I"]
def wsX4_dispute : List Cond := .code yX4_dispute cX4_dispute 3 (some .int) :: ((wsX4_dispute_r1 ++ (wsX4_dispute_r2 ++ wsX4_dispute_r3)) ++ wsX00 ++ wsX40 ++ wsJx4a65c0 ++ wsX10 ++ (vx_atS RX4 70 "java/lang/IllegalStateException" ["java/lang/RuntimeException", "java/lang/Exception"]).filter goodWord ++ (vx_atS RX4 188 "java/lang/IndexOutOfBoundsException" ["java/lang/RuntimeException", "java/lang/Exception"]).filter goodWord)
def wsX4_runOutHolds_r1 : List Cond := [Cond.fieldLink RX4 197 "TollGateway" "nextToRunOut" "I", Cond.fieldLink RX4 28 "TollGateway" "letThrough" "Ljava/util/ArrayList;", Cond.classLink RX4 118 "TollGateway$Call", Cond.fieldLink RX4 120 "TollGateway" "tick" "I", Cond.methodLink RX4 63 yJx4a65c_size_8abf5, Cond.instanceMethod yJx4a65c_size_8abf5, Cond.selects RJx4a65c yJx4a65c_size_8abf5 yJx4a65c_size_8abf5, Cond.initialized RJx4a65c, Cond.code yJx4a65c_size_8abf5 cJx4a65c_size_8abf5 1 (some .int), Cond.fieldLink RJx4a65c 48 "java/util/ArrayList" "size" "I", Cond.methodLink RX4 189 yJx4a65c_get_915e3, Cond.instanceMethod yJx4a65c_get_915e3, Cond.selects RJx4a65c yJx4a65c_get_915e3 yJx4a65c_get_915e3, Cond.code yJx4a65c_get_915e3 cJx4a65c_get_915e3 2 (some (.object "java/lang/Object")), Cond.methodLink RJx4a65c 118 yJ15_checkIndex_7cf53, Cond.static yJ15_checkIndex_7cf53, Cond.initialized RJ15, Cond.code yJ15_checkIndex_7cf53 cJ15_checkIndex_7cf53 2 (some .int), Cond.methodLink RJ15 105 yJ3_checkIndex_8e157, Cond.static yJ3_checkIndex_8e157, Cond.initialized RJ3, Cond.code yJ3_checkIndex_8e157 cJ3_checkIndex_8e157 3 (some .int), Cond.methodLink RJx4a65c 123 yJx4a65c_elementData_915e3, Cond.instanceMethod yJx4a65c_elementData_915e3]
def wsX4_runOutHolds_r2 : List Cond := [Cond.selects RJx4a65c yJx4a65c_elementData_915e3 yJx4a65c_elementData_915e3, Cond.code yJx4a65c_elementData_915e3 cJx4a65c_elementData_915e3 2 (some (.object "java/lang/Object")), Cond.fieldLink RJx4a65c 9 "java/util/ArrayList" "elementData" "[Ljava/lang/Object;", Cond.instanceMethod yX0_hasEnded, Cond.initialized RX0, Cond.selects RX0 yX0_hasEnded yX0_hasEnded, Cond.code yX0_hasEnded cX0_hasEnded 1 (some .boolean), Cond.fieldLink RX0 9 "TollGateway$Call" "cost" "I", Cond.instanceMethod yX0_settle, Cond.selects RX0 yX0_settle yX0_settle, Cond.code yX0_settle cX0_settle 3 none, Cond.fieldLink RX0 32 "TollGateway$Call" "endTick" "I", Cond.fieldLink RX0 15 "TollGateway$Call" "key" "LTollGateway$Key;", Cond.fieldLink RX0 19 "TollGateway$Call" "worth" "I", Cond.methodLink RX0 28 yX0_costOf, Cond.instanceMethod yX0_costOf, Cond.selects RX0 yX0_costOf yX0_costOf, Cond.code yX0_costOf cX0_costOf 2 (some .int), Cond.instanceMethod yX1_closeHold, Cond.initialized RX1, Cond.selects RX1 yX1_closeHold yX1_closeHold, Cond.code yX1_closeHold cX1_closeHold 3 none, Cond.fieldLink RX1 40 "TollGateway$Key" "held" "I", Cond.fieldLink RX1 43 "TollGateway$Key" "openHolds" "I"]
def wsX4_runOutHolds_r3 : List Cond := [Cond.fieldLink RX1 46 "TollGateway$Key" "spent" "I", Cond.methodLink RX1 49 yX1_receive, Cond.instanceMethod yX1_receive, Cond.selects RX1 yX1_receive yX1_receive, Cond.code yX1_receive cX1_receive 3 none, Cond.fieldLink RX1 22 "TollGateway$Key" "debt" "I", Cond.methodLink RX1 25 Lib.Math.min.name, Cond.static Lib.Math.min.name, Cond.initialized "java/lang/Math", Cond.code Lib.Math.min.name Lib.Math.min.code 2 (some .int), Cond.fieldLink RX1 31 "TollGateway$Key" "credit" "I"]
def wsX4_runOutHolds : List Cond := .code yX4_runOutHolds cX4_runOutHolds 3 (some .int) :: ((wsX4_runOutHolds_r1 ++ (wsX4_runOutHolds_r2 ++ wsX4_runOutHolds_r3)) ++ wsX40 ++ wsX00 ++ wsJx4a65c0 ++ wsX10)
def wsX4_refillBuckets_r1 : List Cond := [Cond.fieldLink RX4 24 "TollGateway" "keys" "Ljava/util/ArrayList;", Cond.classLink RX4 73 "TollGateway$Key", Cond.methodLink RX4 63 yJx4a65c_size_8abf5, Cond.instanceMethod yJx4a65c_size_8abf5, Cond.selects RJx4a65c yJx4a65c_size_8abf5 yJx4a65c_size_8abf5, Cond.initialized RJx4a65c, Cond.code yJx4a65c_size_8abf5 cJx4a65c_size_8abf5 1 (some .int), Cond.fieldLink RJx4a65c 48 "java/util/ArrayList" "size" "I", Cond.methodLink RX4 189 yJx4a65c_get_915e3, Cond.instanceMethod yJx4a65c_get_915e3, Cond.selects RJx4a65c yJx4a65c_get_915e3 yJx4a65c_get_915e3, Cond.code yJx4a65c_get_915e3 cJx4a65c_get_915e3 2 (some (.object "java/lang/Object")), Cond.methodLink RJx4a65c 118 yJ15_checkIndex_7cf53, Cond.static yJ15_checkIndex_7cf53, Cond.initialized RJ15, Cond.code yJ15_checkIndex_7cf53 cJ15_checkIndex_7cf53 2 (some .int), Cond.methodLink RJ15 105 yJ3_checkIndex_8e157, Cond.static yJ3_checkIndex_8e157, Cond.initialized RJ3, Cond.code yJ3_checkIndex_8e157 cJ3_checkIndex_8e157 3 (some .int), Cond.methodLink RJx4a65c 123 yJx4a65c_elementData_915e3, Cond.instanceMethod yJx4a65c_elementData_915e3, Cond.selects RJx4a65c yJx4a65c_elementData_915e3 yJx4a65c_elementData_915e3, Cond.code yJx4a65c_elementData_915e3 cJx4a65c_elementData_915e3 2 (some (.object "java/lang/Object"))]
def wsX4_refillBuckets_r2 : List Cond := [Cond.fieldLink RJx4a65c 9 "java/util/ArrayList" "elementData" "[Ljava/lang/Object;", Cond.instanceMethod yX1_refillBucket, Cond.initialized RX1, Cond.selects RX1 yX1_refillBucket yX1_refillBucket, Cond.code yX1_refillBucket cX1_refillBucket 2 none, Cond.fieldLink RX1 19 "TollGateway$Key" "tokens" "I", Cond.fieldLink RX1 7 "TollGateway$Key" "plan" "LTollGateway$Plan;", Cond.methodLink RX1 25 Lib.Math.min.name, Cond.static Lib.Math.min.name, Cond.initialized "java/lang/Math", Cond.code Lib.Math.min.name Lib.Math.min.code 2 (some .int), Cond.methodLink RX1 53 yX1_refillsSlowly, Cond.instanceMethod yX1_refillsSlowly, Cond.selects RX1 yX1_refillsSlowly yX1_refillsSlowly, Cond.code yX1_refillsSlowly cX1_refillsSlowly 1 (some .boolean), Cond.fieldLink RX1 31 "TollGateway$Key" "credit" "I", Cond.fieldLink RX1 43 "TollGateway$Key" "openHolds" "I"]
def wsX4_refillBuckets : List Cond := .code yX4_refillBuckets cX4_refillBuckets 2 none :: ((wsX4_refillBuckets_r1 ++ wsX4_refillBuckets_r2) ++ wsX40 ++ wsJx4a65c0 ++ wsX10 ++ wsX20)
def wsX4_pass_r1 : List Cond := [Cond.fieldLink RX4 120 "TollGateway" "tick" "I", Cond.methodLink RX4 39 yX4_refuseOutside, Cond.static yX4_refuseOutside, Cond.initialized RX4, Cond.code yX4_refuseOutside cX4_refuseOutside 3 none, Cond.classLink RX4 177 "java/lang/IllegalArgumentException", Cond.initialized "java/lang/IllegalArgumentException", Cond.methodLink RX4 159 yX4_runOutHolds, Cond.instanceMethod yX4_runOutHolds, Cond.selects RX4 yX4_runOutHolds yX4_runOutHolds, Cond.code yX4_runOutHolds cX4_runOutHolds 3 (some .int), Cond.fieldLink RX4 197 "TollGateway" "nextToRunOut" "I", Cond.fieldLink RX4 28 "TollGateway" "letThrough" "Ljava/util/ArrayList;", Cond.classLink RX4 118 "TollGateway$Call", Cond.methodLink RX4 63 yJx4a65c_size_8abf5, Cond.instanceMethod yJx4a65c_size_8abf5, Cond.selects RJx4a65c yJx4a65c_size_8abf5 yJx4a65c_size_8abf5, Cond.initialized RJx4a65c, Cond.code yJx4a65c_size_8abf5 cJx4a65c_size_8abf5 1 (some .int), Cond.fieldLink RJx4a65c 48 "java/util/ArrayList" "size" "I", Cond.methodLink RX4 189 yJx4a65c_get_915e3, Cond.instanceMethod yJx4a65c_get_915e3, Cond.selects RJx4a65c yJx4a65c_get_915e3 yJx4a65c_get_915e3, Cond.code yJx4a65c_get_915e3 cJx4a65c_get_915e3 2 (some (.object "java/lang/Object"))]
def wsX4_pass_r2 : List Cond := [Cond.methodLink RJx4a65c 118 yJ15_checkIndex_7cf53, Cond.static yJ15_checkIndex_7cf53, Cond.initialized RJ15, Cond.code yJ15_checkIndex_7cf53 cJ15_checkIndex_7cf53 2 (some .int), Cond.methodLink RJ15 105 yJ3_checkIndex_8e157, Cond.static yJ3_checkIndex_8e157, Cond.initialized RJ3, Cond.code yJ3_checkIndex_8e157 cJ3_checkIndex_8e157 3 (some .int), Cond.methodLink RJx4a65c 123 yJx4a65c_elementData_915e3, Cond.instanceMethod yJx4a65c_elementData_915e3, Cond.selects RJx4a65c yJx4a65c_elementData_915e3 yJx4a65c_elementData_915e3, Cond.code yJx4a65c_elementData_915e3 cJx4a65c_elementData_915e3 2 (some (.object "java/lang/Object")), Cond.fieldLink RJx4a65c 9 "java/util/ArrayList" "elementData" "[Ljava/lang/Object;", Cond.instanceMethod yX0_hasEnded, Cond.initialized RX0, Cond.selects RX0 yX0_hasEnded yX0_hasEnded, Cond.code yX0_hasEnded cX0_hasEnded 1 (some .boolean), Cond.fieldLink RX0 9 "TollGateway$Call" "cost" "I", Cond.instanceMethod yX0_settle, Cond.selects RX0 yX0_settle yX0_settle, Cond.code yX0_settle cX0_settle 3 none, Cond.fieldLink RX0 32 "TollGateway$Call" "endTick" "I", Cond.fieldLink RX0 15 "TollGateway$Call" "key" "LTollGateway$Key;", Cond.fieldLink RX0 19 "TollGateway$Call" "worth" "I"]
def wsX4_pass_r3 : List Cond := [Cond.methodLink RX0 28 yX0_costOf, Cond.instanceMethod yX0_costOf, Cond.selects RX0 yX0_costOf yX0_costOf, Cond.code yX0_costOf cX0_costOf 2 (some .int), Cond.instanceMethod yX1_closeHold, Cond.initialized RX1, Cond.selects RX1 yX1_closeHold yX1_closeHold, Cond.code yX1_closeHold cX1_closeHold 3 none, Cond.fieldLink RX1 40 "TollGateway$Key" "held" "I", Cond.fieldLink RX1 43 "TollGateway$Key" "openHolds" "I", Cond.fieldLink RX1 46 "TollGateway$Key" "spent" "I", Cond.methodLink RX1 49 yX1_receive, Cond.instanceMethod yX1_receive, Cond.selects RX1 yX1_receive yX1_receive, Cond.code yX1_receive cX1_receive 3 none, Cond.fieldLink RX1 22 "TollGateway$Key" "debt" "I", Cond.methodLink RX1 25 Lib.Math.min.name, Cond.static Lib.Math.min.name, Cond.initialized "java/lang/Math", Cond.code Lib.Math.min.name Lib.Math.min.code 2 (some .int), Cond.fieldLink RX1 31 "TollGateway$Key" "credit" "I", Cond.methodLink RX4 162 yX4_refillBuckets, Cond.instanceMethod yX4_refillBuckets, Cond.selects RX4 yX4_refillBuckets yX4_refillBuckets]
def wsX4_pass_r4 : List Cond := [Cond.code yX4_refillBuckets cX4_refillBuckets 2 none, Cond.fieldLink RX4 24 "TollGateway" "keys" "Ljava/util/ArrayList;", Cond.classLink RX4 73 "TollGateway$Key", Cond.instanceMethod yX1_refillBucket, Cond.selects RX1 yX1_refillBucket yX1_refillBucket, Cond.code yX1_refillBucket cX1_refillBucket 2 none, Cond.fieldLink RX1 19 "TollGateway$Key" "tokens" "I", Cond.fieldLink RX1 7 "TollGateway$Key" "plan" "LTollGateway$Plan;", Cond.methodLink RX1 53 yX1_refillsSlowly, Cond.instanceMethod yX1_refillsSlowly, Cond.selects RX1 yX1_refillsSlowly yX1_refillsSlowly, Cond.code yX1_refillsSlowly cX1_refillsSlowly 1 (some .boolean)]
def wsX4_pass : List Cond := .code yX4_pass cX4_pass 4 (some .int) :: ((wsX4_pass_r1 ++ (wsX4_pass_r2 ++ (wsX4_pass_r3 ++ wsX4_pass_r4))) ++ wsX40 ++ wsX00 ++ wsJx4a65c0 ++ wsX10 ++ wsX20 ++ (vx_atS RX4 181 "java/lang/IllegalArgumentException" ["java/lang/RuntimeException", "java/lang/Exception"]).filter goodWord)
def wsX4_now : List Cond := .code yX4_now cX4_now 1 (some .int) :: ([.fieldLink RX4 120 "TollGateway" "tick" "I"] ++ wsX40)
def wsX4_calls : List Cond := .code yX4_calls cX4_calls 1 (some .int) :: ([.fieldLink RX4 28 "TollGateway" "letThrough" "Ljava/util/ArrayList;", .methodLink RX4 63 yJx4a65c_size_8abf5, .instanceMethod yJx4a65c_size_8abf5, .selects RJx4a65c yJx4a65c_size_8abf5 yJx4a65c_size_8abf5, .initialized RJx4a65c, .code yJx4a65c_size_8abf5 cJx4a65c_size_8abf5 1 (some .int), .fieldLink RJx4a65c 48 "java/util/ArrayList" "size" "I"] ++ wsX40 ++ wsJx4a65c0)
def wsX4_credit_r1 : List Cond := [Cond.methodLink RX4 82 yX4_keyAt, Cond.instanceMethod yX4_keyAt, Cond.selects RX4 yX4_keyAt yX4_keyAt, Cond.initialized RX4, Cond.code yX4_keyAt cX4_keyAt 2 (some (.object "TollGateway$Key")), Cond.classLink RX4 184 "java/lang/IndexOutOfBoundsException", Cond.initialized "java/lang/IndexOutOfBoundsException", Cond.fieldLink RX4 24 "TollGateway" "keys" "Ljava/util/ArrayList;", Cond.classLink RX4 73 "TollGateway$Key", Cond.methodLink RX4 63 yJx4a65c_size_8abf5, Cond.instanceMethod yJx4a65c_size_8abf5, Cond.selects RJx4a65c yJx4a65c_size_8abf5 yJx4a65c_size_8abf5, Cond.initialized RJx4a65c, Cond.code yJx4a65c_size_8abf5 cJx4a65c_size_8abf5 1 (some .int), Cond.fieldLink RJx4a65c 48 "java/util/ArrayList" "size" "I", Cond.methodLink RX4 189 yJx4a65c_get_915e3, Cond.instanceMethod yJx4a65c_get_915e3, Cond.selects RJx4a65c yJx4a65c_get_915e3 yJx4a65c_get_915e3, Cond.code yJx4a65c_get_915e3 cJx4a65c_get_915e3 2 (some (.object "java/lang/Object")), Cond.methodLink RJx4a65c 118 yJ15_checkIndex_7cf53, Cond.static yJ15_checkIndex_7cf53, Cond.initialized RJ15, Cond.code yJ15_checkIndex_7cf53 cJ15_checkIndex_7cf53 2 (some .int), Cond.methodLink RJ15 105 yJ3_checkIndex_8e157]
def wsX4_credit_r2 : List Cond := [Cond.static yJ3_checkIndex_8e157, Cond.initialized RJ3, Cond.code yJ3_checkIndex_8e157 cJ3_checkIndex_8e157 3 (some .int), Cond.methodLink RJx4a65c 123 yJx4a65c_elementData_915e3, Cond.instanceMethod yJx4a65c_elementData_915e3, Cond.selects RJx4a65c yJx4a65c_elementData_915e3 yJx4a65c_elementData_915e3, Cond.code yJx4a65c_elementData_915e3 cJx4a65c_elementData_915e3 2 (some (.object "java/lang/Object")), Cond.fieldLink RJx4a65c 9 "java/util/ArrayList" "elementData" "[Ljava/lang/Object;"]
def wsX4_credit : List Cond := .code yX4_credit cX4_credit 2 (some .int) :: ((wsX4_credit_r1 ++ wsX4_credit_r2) ++ wsX10 ++ wsX40 ++ wsJx4a65c0 ++ (vx_atS RX4 188 "java/lang/IndexOutOfBoundsException" ["java/lang/RuntimeException", "java/lang/Exception"]).filter goodWord)
def wsX4_debt_r1 : List Cond := [Cond.methodLink RX4 82 yX4_keyAt, Cond.instanceMethod yX4_keyAt, Cond.selects RX4 yX4_keyAt yX4_keyAt, Cond.initialized RX4, Cond.code yX4_keyAt cX4_keyAt 2 (some (.object "TollGateway$Key")), Cond.classLink RX4 184 "java/lang/IndexOutOfBoundsException", Cond.initialized "java/lang/IndexOutOfBoundsException", Cond.fieldLink RX4 24 "TollGateway" "keys" "Ljava/util/ArrayList;", Cond.classLink RX4 73 "TollGateway$Key", Cond.methodLink RX4 63 yJx4a65c_size_8abf5, Cond.instanceMethod yJx4a65c_size_8abf5, Cond.selects RJx4a65c yJx4a65c_size_8abf5 yJx4a65c_size_8abf5, Cond.initialized RJx4a65c, Cond.code yJx4a65c_size_8abf5 cJx4a65c_size_8abf5 1 (some .int), Cond.fieldLink RJx4a65c 48 "java/util/ArrayList" "size" "I", Cond.methodLink RX4 189 yJx4a65c_get_915e3, Cond.instanceMethod yJx4a65c_get_915e3, Cond.selects RJx4a65c yJx4a65c_get_915e3 yJx4a65c_get_915e3, Cond.code yJx4a65c_get_915e3 cJx4a65c_get_915e3 2 (some (.object "java/lang/Object")), Cond.methodLink RJx4a65c 118 yJ15_checkIndex_7cf53, Cond.static yJ15_checkIndex_7cf53, Cond.initialized RJ15, Cond.code yJ15_checkIndex_7cf53 cJ15_checkIndex_7cf53 2 (some .int), Cond.methodLink RJ15 105 yJ3_checkIndex_8e157]
def wsX4_debt_r2 : List Cond := [Cond.static yJ3_checkIndex_8e157, Cond.initialized RJ3, Cond.code yJ3_checkIndex_8e157 cJ3_checkIndex_8e157 3 (some .int), Cond.methodLink RJx4a65c 123 yJx4a65c_elementData_915e3, Cond.instanceMethod yJx4a65c_elementData_915e3, Cond.selects RJx4a65c yJx4a65c_elementData_915e3 yJx4a65c_elementData_915e3, Cond.code yJx4a65c_elementData_915e3 cJx4a65c_elementData_915e3 2 (some (.object "java/lang/Object")), Cond.fieldLink RJx4a65c 9 "java/util/ArrayList" "elementData" "[Ljava/lang/Object;"]
def wsX4_debt : List Cond := .code yX4_debt cX4_debt 2 (some .int) :: ((wsX4_debt_r1 ++ wsX4_debt_r2) ++ wsX10 ++ wsX40 ++ wsJx4a65c0 ++ (vx_atS RX4 188 "java/lang/IndexOutOfBoundsException" ["java/lang/RuntimeException", "java/lang/Exception"]).filter goodWord)
def wsX4_held_r1 : List Cond := [Cond.methodLink RX4 82 yX4_keyAt, Cond.instanceMethod yX4_keyAt, Cond.selects RX4 yX4_keyAt yX4_keyAt, Cond.initialized RX4, Cond.code yX4_keyAt cX4_keyAt 2 (some (.object "TollGateway$Key")), Cond.classLink RX4 184 "java/lang/IndexOutOfBoundsException", Cond.initialized "java/lang/IndexOutOfBoundsException", Cond.fieldLink RX4 24 "TollGateway" "keys" "Ljava/util/ArrayList;", Cond.classLink RX4 73 "TollGateway$Key", Cond.methodLink RX4 63 yJx4a65c_size_8abf5, Cond.instanceMethod yJx4a65c_size_8abf5, Cond.selects RJx4a65c yJx4a65c_size_8abf5 yJx4a65c_size_8abf5, Cond.initialized RJx4a65c, Cond.code yJx4a65c_size_8abf5 cJx4a65c_size_8abf5 1 (some .int), Cond.fieldLink RJx4a65c 48 "java/util/ArrayList" "size" "I", Cond.methodLink RX4 189 yJx4a65c_get_915e3, Cond.instanceMethod yJx4a65c_get_915e3, Cond.selects RJx4a65c yJx4a65c_get_915e3 yJx4a65c_get_915e3, Cond.code yJx4a65c_get_915e3 cJx4a65c_get_915e3 2 (some (.object "java/lang/Object")), Cond.methodLink RJx4a65c 118 yJ15_checkIndex_7cf53, Cond.static yJ15_checkIndex_7cf53, Cond.initialized RJ15, Cond.code yJ15_checkIndex_7cf53 cJ15_checkIndex_7cf53 2 (some .int), Cond.methodLink RJ15 105 yJ3_checkIndex_8e157]
def wsX4_held_r2 : List Cond := [Cond.static yJ3_checkIndex_8e157, Cond.initialized RJ3, Cond.code yJ3_checkIndex_8e157 cJ3_checkIndex_8e157 3 (some .int), Cond.methodLink RJx4a65c 123 yJx4a65c_elementData_915e3, Cond.instanceMethod yJx4a65c_elementData_915e3, Cond.selects RJx4a65c yJx4a65c_elementData_915e3 yJx4a65c_elementData_915e3, Cond.code yJx4a65c_elementData_915e3 cJx4a65c_elementData_915e3 2 (some (.object "java/lang/Object")), Cond.fieldLink RJx4a65c 9 "java/util/ArrayList" "elementData" "[Ljava/lang/Object;"]
def wsX4_held : List Cond := .code yX4_held cX4_held 2 (some .int) :: ((wsX4_held_r1 ++ wsX4_held_r2) ++ wsX10 ++ wsX40 ++ wsJx4a65c0 ++ (vx_atS RX4 188 "java/lang/IndexOutOfBoundsException" ["java/lang/RuntimeException", "java/lang/Exception"]).filter goodWord)
def wsX4_tokens_r1 : List Cond := [Cond.methodLink RX4 82 yX4_keyAt, Cond.instanceMethod yX4_keyAt, Cond.selects RX4 yX4_keyAt yX4_keyAt, Cond.initialized RX4, Cond.code yX4_keyAt cX4_keyAt 2 (some (.object "TollGateway$Key")), Cond.classLink RX4 184 "java/lang/IndexOutOfBoundsException", Cond.initialized "java/lang/IndexOutOfBoundsException", Cond.fieldLink RX4 24 "TollGateway" "keys" "Ljava/util/ArrayList;", Cond.classLink RX4 73 "TollGateway$Key", Cond.methodLink RX4 63 yJx4a65c_size_8abf5, Cond.instanceMethod yJx4a65c_size_8abf5, Cond.selects RJx4a65c yJx4a65c_size_8abf5 yJx4a65c_size_8abf5, Cond.initialized RJx4a65c, Cond.code yJx4a65c_size_8abf5 cJx4a65c_size_8abf5 1 (some .int), Cond.fieldLink RJx4a65c 48 "java/util/ArrayList" "size" "I", Cond.methodLink RX4 189 yJx4a65c_get_915e3, Cond.instanceMethod yJx4a65c_get_915e3, Cond.selects RJx4a65c yJx4a65c_get_915e3 yJx4a65c_get_915e3, Cond.code yJx4a65c_get_915e3 cJx4a65c_get_915e3 2 (some (.object "java/lang/Object")), Cond.methodLink RJx4a65c 118 yJ15_checkIndex_7cf53, Cond.static yJ15_checkIndex_7cf53, Cond.initialized RJ15, Cond.code yJ15_checkIndex_7cf53 cJ15_checkIndex_7cf53 2 (some .int), Cond.methodLink RJ15 105 yJ3_checkIndex_8e157]
def wsX4_tokens_r2 : List Cond := [Cond.static yJ3_checkIndex_8e157, Cond.initialized RJ3, Cond.code yJ3_checkIndex_8e157 cJ3_checkIndex_8e157 3 (some .int), Cond.methodLink RJx4a65c 123 yJx4a65c_elementData_915e3, Cond.instanceMethod yJx4a65c_elementData_915e3, Cond.selects RJx4a65c yJx4a65c_elementData_915e3 yJx4a65c_elementData_915e3, Cond.code yJx4a65c_elementData_915e3 cJx4a65c_elementData_915e3 2 (some (.object "java/lang/Object")), Cond.fieldLink RJx4a65c 9 "java/util/ArrayList" "elementData" "[Ljava/lang/Object;"]
def wsX4_tokens : List Cond := .code yX4_tokens cX4_tokens 2 (some .int) :: ((wsX4_tokens_r1 ++ wsX4_tokens_r2) ++ wsX10 ++ wsX40 ++ wsJx4a65c0 ++ (vx_atS RX4 188 "java/lang/IndexOutOfBoundsException" ["java/lang/RuntimeException", "java/lang/Exception"]).filter goodWord)
def wsX4_isSlowed_r1 : List Cond := [Cond.methodLink RX4 82 yX4_keyAt, Cond.instanceMethod yX4_keyAt, Cond.selects RX4 yX4_keyAt yX4_keyAt, Cond.initialized RX4, Cond.code yX4_keyAt cX4_keyAt 2 (some (.object "TollGateway$Key")), Cond.classLink RX4 184 "java/lang/IndexOutOfBoundsException", Cond.initialized "java/lang/IndexOutOfBoundsException", Cond.fieldLink RX4 24 "TollGateway" "keys" "Ljava/util/ArrayList;", Cond.classLink RX4 73 "TollGateway$Key", Cond.methodLink RX4 63 yJx4a65c_size_8abf5, Cond.instanceMethod yJx4a65c_size_8abf5, Cond.selects RJx4a65c yJx4a65c_size_8abf5 yJx4a65c_size_8abf5, Cond.initialized RJx4a65c, Cond.code yJx4a65c_size_8abf5 cJx4a65c_size_8abf5 1 (some .int), Cond.fieldLink RJx4a65c 48 "java/util/ArrayList" "size" "I", Cond.methodLink RX4 189 yJx4a65c_get_915e3, Cond.instanceMethod yJx4a65c_get_915e3, Cond.selects RJx4a65c yJx4a65c_get_915e3 yJx4a65c_get_915e3, Cond.code yJx4a65c_get_915e3 cJx4a65c_get_915e3 2 (some (.object "java/lang/Object")), Cond.methodLink RJx4a65c 118 yJ15_checkIndex_7cf53, Cond.static yJ15_checkIndex_7cf53, Cond.initialized RJ15, Cond.code yJ15_checkIndex_7cf53 cJ15_checkIndex_7cf53 2 (some .int), Cond.methodLink RJ15 105 yJ3_checkIndex_8e157]
def wsX4_isSlowed_r2 : List Cond := [Cond.static yJ3_checkIndex_8e157, Cond.initialized RJ3, Cond.code yJ3_checkIndex_8e157 cJ3_checkIndex_8e157 3 (some .int), Cond.methodLink RJx4a65c 123 yJx4a65c_elementData_915e3, Cond.instanceMethod yJx4a65c_elementData_915e3, Cond.selects RJx4a65c yJx4a65c_elementData_915e3 yJx4a65c_elementData_915e3, Cond.code yJx4a65c_elementData_915e3 cJx4a65c_elementData_915e3 2 (some (.object "java/lang/Object")), Cond.fieldLink RJx4a65c 9 "java/util/ArrayList" "elementData" "[Ljava/lang/Object;", Cond.instanceMethod yX1_refillsSlowly, Cond.initialized RX1, Cond.selects RX1 yX1_refillsSlowly yX1_refillsSlowly, Cond.code yX1_refillsSlowly cX1_refillsSlowly 1 (some .boolean), Cond.fieldLink RX1 31 "TollGateway$Key" "credit" "I", Cond.fieldLink RX1 43 "TollGateway$Key" "openHolds" "I"]
def wsX4_isSlowed : List Cond := .code yX4_isSlowed cX4_isSlowed 2 (some .boolean) :: ((wsX4_isSlowed_r1 ++ wsX4_isSlowed_r2) ++ wsX40 ++ wsJx4a65c0 ++ wsX10 ++ (vx_atS RX4 188 "java/lang/IndexOutOfBoundsException" ["java/lang/RuntimeException", "java/lang/Exception"]).filter goodWord)
def wsX4_cost_r1 : List Cond := [Cond.methodLink RX4 126 yX4_callAt, Cond.instanceMethod yX4_callAt, Cond.selects RX4 yX4_callAt yX4_callAt, Cond.initialized RX4, Cond.code yX4_callAt cX4_callAt 2 (some (.object "TollGateway$Call")), Cond.classLink RX4 184 "java/lang/IndexOutOfBoundsException", Cond.initialized "java/lang/IndexOutOfBoundsException", Cond.fieldLink RX4 28 "TollGateway" "letThrough" "Ljava/util/ArrayList;", Cond.classLink RX4 118 "TollGateway$Call", Cond.methodLink RX4 63 yJx4a65c_size_8abf5, Cond.instanceMethod yJx4a65c_size_8abf5, Cond.selects RJx4a65c yJx4a65c_size_8abf5 yJx4a65c_size_8abf5, Cond.initialized RJx4a65c, Cond.code yJx4a65c_size_8abf5 cJx4a65c_size_8abf5 1 (some .int), Cond.fieldLink RJx4a65c 48 "java/util/ArrayList" "size" "I", Cond.methodLink RX4 189 yJx4a65c_get_915e3, Cond.instanceMethod yJx4a65c_get_915e3, Cond.selects RJx4a65c yJx4a65c_get_915e3 yJx4a65c_get_915e3, Cond.code yJx4a65c_get_915e3 cJx4a65c_get_915e3 2 (some (.object "java/lang/Object")), Cond.methodLink RJx4a65c 118 yJ15_checkIndex_7cf53, Cond.static yJ15_checkIndex_7cf53, Cond.initialized RJ15, Cond.code yJ15_checkIndex_7cf53 cJ15_checkIndex_7cf53 2 (some .int), Cond.methodLink RJ15 105 yJ3_checkIndex_8e157]
def wsX4_cost_r2 : List Cond := [Cond.static yJ3_checkIndex_8e157, Cond.initialized RJ3, Cond.code yJ3_checkIndex_8e157 cJ3_checkIndex_8e157 3 (some .int), Cond.methodLink RJx4a65c 123 yJx4a65c_elementData_915e3, Cond.instanceMethod yJx4a65c_elementData_915e3, Cond.selects RJx4a65c yJx4a65c_elementData_915e3 yJx4a65c_elementData_915e3, Cond.code yJx4a65c_elementData_915e3 cJx4a65c_elementData_915e3 2 (some (.object "java/lang/Object")), Cond.fieldLink RJx4a65c 9 "java/util/ArrayList" "elementData" "[Ljava/lang/Object;"]
def wsX4_cost : List Cond := .code yX4_cost cX4_cost 2 (some .int) :: ((wsX4_cost_r1 ++ wsX4_cost_r2) ++ wsX00 ++ wsX40 ++ wsJx4a65c0 ++ (vx_atS RX4 188 "java/lang/IndexOutOfBoundsException" ["java/lang/RuntimeException", "java/lang/Exception"]).filter goodWord)
def wsX4_spent_r1 : List Cond := [Cond.methodLink RX4 82 yX4_keyAt, Cond.instanceMethod yX4_keyAt, Cond.selects RX4 yX4_keyAt yX4_keyAt, Cond.initialized RX4, Cond.code yX4_keyAt cX4_keyAt 2 (some (.object "TollGateway$Key")), Cond.classLink RX4 184 "java/lang/IndexOutOfBoundsException", Cond.initialized "java/lang/IndexOutOfBoundsException", Cond.fieldLink RX4 24 "TollGateway" "keys" "Ljava/util/ArrayList;", Cond.classLink RX4 73 "TollGateway$Key", Cond.methodLink RX4 63 yJx4a65c_size_8abf5, Cond.instanceMethod yJx4a65c_size_8abf5, Cond.selects RJx4a65c yJx4a65c_size_8abf5 yJx4a65c_size_8abf5, Cond.initialized RJx4a65c, Cond.code yJx4a65c_size_8abf5 cJx4a65c_size_8abf5 1 (some .int), Cond.fieldLink RJx4a65c 48 "java/util/ArrayList" "size" "I", Cond.methodLink RX4 189 yJx4a65c_get_915e3, Cond.instanceMethod yJx4a65c_get_915e3, Cond.selects RJx4a65c yJx4a65c_get_915e3 yJx4a65c_get_915e3, Cond.code yJx4a65c_get_915e3 cJx4a65c_get_915e3 2 (some (.object "java/lang/Object")), Cond.methodLink RJx4a65c 118 yJ15_checkIndex_7cf53, Cond.static yJ15_checkIndex_7cf53, Cond.initialized RJ15, Cond.code yJ15_checkIndex_7cf53 cJ15_checkIndex_7cf53 2 (some .int), Cond.methodLink RJ15 105 yJ3_checkIndex_8e157]
def wsX4_spent_r2 : List Cond := [Cond.static yJ3_checkIndex_8e157, Cond.initialized RJ3, Cond.code yJ3_checkIndex_8e157 cJ3_checkIndex_8e157 3 (some .int), Cond.methodLink RJx4a65c 123 yJx4a65c_elementData_915e3, Cond.instanceMethod yJx4a65c_elementData_915e3, Cond.selects RJx4a65c yJx4a65c_elementData_915e3 yJx4a65c_elementData_915e3, Cond.code yJx4a65c_elementData_915e3 cJx4a65c_elementData_915e3 2 (some (.object "java/lang/Object")), Cond.fieldLink RJx4a65c 9 "java/util/ArrayList" "elementData" "[Ljava/lang/Object;"]
def wsX4_spent : List Cond := .code yX4_spent cX4_spent 2 (some .int) :: ((wsX4_spent_r1 ++ wsX4_spent_r2) ++ wsX10 ++ wsX40 ++ wsJx4a65c0 ++ (vx_atS RX4 188 "java/lang/IndexOutOfBoundsException" ["java/lang/RuntimeException", "java/lang/Exception"]).filter goodWord)
def wsX4_paid_r1 : List Cond := [Cond.methodLink RX4 82 yX4_keyAt, Cond.instanceMethod yX4_keyAt, Cond.selects RX4 yX4_keyAt yX4_keyAt, Cond.initialized RX4, Cond.code yX4_keyAt cX4_keyAt 2 (some (.object "TollGateway$Key")), Cond.classLink RX4 184 "java/lang/IndexOutOfBoundsException", Cond.initialized "java/lang/IndexOutOfBoundsException", Cond.fieldLink RX4 24 "TollGateway" "keys" "Ljava/util/ArrayList;", Cond.classLink RX4 73 "TollGateway$Key", Cond.methodLink RX4 63 yJx4a65c_size_8abf5, Cond.instanceMethod yJx4a65c_size_8abf5, Cond.selects RJx4a65c yJx4a65c_size_8abf5 yJx4a65c_size_8abf5, Cond.initialized RJx4a65c, Cond.code yJx4a65c_size_8abf5 cJx4a65c_size_8abf5 1 (some .int), Cond.fieldLink RJx4a65c 48 "java/util/ArrayList" "size" "I", Cond.methodLink RX4 189 yJx4a65c_get_915e3, Cond.instanceMethod yJx4a65c_get_915e3, Cond.selects RJx4a65c yJx4a65c_get_915e3 yJx4a65c_get_915e3, Cond.code yJx4a65c_get_915e3 cJx4a65c_get_915e3 2 (some (.object "java/lang/Object")), Cond.methodLink RJx4a65c 118 yJ15_checkIndex_7cf53, Cond.static yJ15_checkIndex_7cf53, Cond.initialized RJ15, Cond.code yJ15_checkIndex_7cf53 cJ15_checkIndex_7cf53 2 (some .int), Cond.methodLink RJ15 105 yJ3_checkIndex_8e157]
def wsX4_paid_r2 : List Cond := [Cond.static yJ3_checkIndex_8e157, Cond.initialized RJ3, Cond.code yJ3_checkIndex_8e157 cJ3_checkIndex_8e157 3 (some .int), Cond.methodLink RJx4a65c 123 yJx4a65c_elementData_915e3, Cond.instanceMethod yJx4a65c_elementData_915e3, Cond.selects RJx4a65c yJx4a65c_elementData_915e3 yJx4a65c_elementData_915e3, Cond.code yJx4a65c_elementData_915e3 cJx4a65c_elementData_915e3 2 (some (.object "java/lang/Object")), Cond.fieldLink RJx4a65c 9 "java/util/ArrayList" "elementData" "[Ljava/lang/Object;"]
def wsX4_paid : List Cond := .code yX4_paid cX4_paid 2 (some .int) :: ((wsX4_paid_r1 ++ wsX4_paid_r2) ++ wsX10 ++ wsX40 ++ wsJx4a65c0 ++ (vx_atS RX4 188 "java/lang/IndexOutOfBoundsException" ["java/lang/RuntimeException", "java/lang/Exception"]).filter goodWord)
def wsJ9_max_7cf53 : List Cond := .code yJ9_max_7cf53 cJ9_max_7cf53 2 (some .int) :: ([])
def wsJ9_min_7cf53 : List Cond := .code yJ9_min_7cf53 cJ9_min_7cf53 2 (some .int) :: ([])
def wsL_cell : List Cond := .code yL_cell cL_cell 2 (some .int) :: ([])
def wsL_low : List Cond := .code yL_low cL_low 2 (some .int) :: ([.constant RL 7 (2147483647)])
def wsL_setPlan : List Cond := .codeWith yL_setPlan cL_setPlan 6 (some .int) [(0, 10, 11, 14)] :: ([.classLink RL 14 "java/lang/IllegalArgumentException", .constant RL 16 (-99999), .methodLink RL 8 yX4_setPlan, .instanceMethod yX4_setPlan, .selects RX4 yX4_setPlan yX4_setPlan, .initialized RX4, .code yX4_setPlan cX4_setPlan 6 none, .methodLink RX4 35 yX4_planAt, .instanceMethod yX4_planAt, .selects RX4 yX4_planAt yX4_planAt, .code yX4_planAt cX4_planAt 2 (some (.object "TollGateway$Plan")), .classLink RX4 177 "java/lang/IllegalArgumentException", .initialized "java/lang/IllegalArgumentException", .fieldLink RX4 11 "TollGateway" "plans" "[LTollGateway$Plan;", .methodLink RX4 39 yX4_refuseOutside, .static yX4_refuseOutside, .code yX4_refuseOutside cX4_refuseOutside 3 none] ++ wsX20 ++ wsX40 ++ (vx_atS RX4 181 "java/lang/IllegalArgumentException" ["java/lang/RuntimeException", "java/lang/Exception"]).filter goodWord)
def wsL_setRoute : List Cond := .codeWith yL_setRoute cL_setRoute 5 (some .int) [(0, 8, 9, 14)] :: ([.classLink RL 14 "java/lang/IllegalArgumentException", .constant RL 16 (-99999), .methodLink RL 17 yX4_setRoute, .instanceMethod yX4_setRoute, .selects RX4 yX4_setRoute yX4_setRoute, .initialized RX4, .code yX4_setRoute cX4_setRoute 5 none, .methodLink RX4 53 yX4_routeAt, .instanceMethod yX4_routeAt, .selects RX4 yX4_routeAt yX4_routeAt, .code yX4_routeAt cX4_routeAt 2 (some (.object "TollGateway$Route")), .classLink RX4 177 "java/lang/IllegalArgumentException", .initialized "java/lang/IllegalArgumentException", .fieldLink RX4 17 "TollGateway" "routes" "[LTollGateway$Route;", .methodLink RX4 39 yX4_refuseOutside, .static yX4_refuseOutside, .code yX4_refuseOutside cX4_refuseOutside 3 none] ++ wsX30 ++ wsX40 ++ (vx_atS RX4 181 "java/lang/IllegalArgumentException" ["java/lang/RuntimeException", "java/lang/Exception"]).filter goodWord)
def wsL_addKey_r1 : List Cond := [Cond.classLink RL 14 "java/lang/IllegalArgumentException", Cond.classLink RL 25 "java/lang/IllegalStateException", Cond.constant RL 16 (-99999), Cond.methodLink RL 21 yX4_addKey, Cond.instanceMethod yX4_addKey, Cond.selects RX4 yX4_addKey yX4_addKey, Cond.initialized RX4, Cond.code yX4_addKey cX4_addKey 3 (some .int), Cond.classLink RX4 66 "java/lang/IllegalStateException", Cond.initialized "java/lang/IllegalStateException", Cond.fieldLink RX4 24 "TollGateway" "keys" "Ljava/util/ArrayList;", Cond.classLink RX4 73 RX1, Cond.instantiable RX1 9, Cond.initialized RX1, Cond.methodLink RX4 35 yX4_planAt, Cond.instanceMethod yX4_planAt, Cond.selects RX4 yX4_planAt yX4_planAt, Cond.code yX4_planAt cX4_planAt 2 (some (.object "TollGateway$Plan")), Cond.classLink RX4 177 "java/lang/IllegalArgumentException", Cond.initialized "java/lang/IllegalArgumentException", Cond.fieldLink RX4 11 "TollGateway" "plans" "[LTollGateway$Plan;", Cond.methodLink RX4 63 yJx4a65c_size_8abf5, Cond.instanceMethod yJx4a65c_size_8abf5, Cond.selects RJx4a65c yJx4a65c_size_8abf5 yJx4a65c_size_8abf5]
def wsL_addKey_r2 : List Cond := [Cond.initialized RJx4a65c, Cond.code yJx4a65c_size_8abf5 cJx4a65c_size_8abf5 1 (some .int), Cond.fieldLink RJx4a65c 48 "java/util/ArrayList" "size" "I", Cond.instanceMethod yX1_init, Cond.code yX1_init cX1_init 2 none, Cond.methodLink RX1 1 objectInit, Cond.instanceMethod objectInit, Cond.code objectInit ⟨#[0xb1]⟩ 1 none, Cond.fieldLink RX1 7 "TollGateway$Key" "plan" "LTollGateway$Plan;", Cond.fieldLink RX1 19 "TollGateway$Key" "tokens" "I", Cond.methodLink RX4 78 yJx4a65c_add_9ea2d, Cond.instanceMethod yJx4a65c_add_9ea2d, Cond.selects RJx4a65c yJx4a65c_add_9ea2d yJx4a65c_add_9ea2d, Cond.code yJx4a65c_add_9ea2d cJx4a65c_add_9ea2d 2 (some .boolean), Cond.fieldLink RJx4a65c 63 "java/util/ArrayList" "modCount" "I", Cond.sameField "java/util/ArrayList" "java/util/AbstractList" "modCount" "I", Cond.fieldLink RJx4a65c 9 "java/util/ArrayList" "elementData" "[Ljava/lang/Object;", Cond.methodLink RJx4a65c 131 yJx4a65c_add_72be8, Cond.instanceMethod yJx4a65c_add_72be8, Cond.selects RJx4a65c yJx4a65c_add_72be8 yJx4a65c_add_72be8, Cond.code yJx4a65c_add_72be8 cJx4a65c_add_72be8 4 none, Cond.methodLink RJx4a65c 129 yJx4a65c_grow_d5877, Cond.instanceMethod yJx4a65c_grow_d5877, Cond.selects RJx4a65c yJx4a65c_grow_d5877 yJx4a65c_grow_d5877]
def wsL_addKey_r3 : List Cond := [Cond.code yJx4a65c_grow_d5877 cJx4a65c_grow_d5877 1 (some (.array (.object "java/lang/Object"))), Cond.methodLink RJx4a65c 69 yJx4a65c_grow_92f84, Cond.instanceMethod yJx4a65c_grow_92f84, Cond.selects RJx4a65c yJx4a65c_grow_92f84 yJx4a65c_grow_92f84, Cond.code yJx4a65c_grow_92f84 cJx4a65c_grow_92f84 4 (some (.array (.object "java/lang/Object"))), Cond.fieldLink RJx4a65c 39 "java/util/ArrayList" "DEFAULTCAPACITY_EMPTY_ELEMENTDATA" "[Ljava/lang/Object;", Cond.methodLink RJx4a65c 79 Lib.Math.max.name, Cond.static Lib.Math.max.name, Cond.initialized "java/lang/Math", Cond.code Lib.Math.max.name Lib.Math.max.code 2 (some .int), Cond.classLink RJx4a65c 7 "java/lang/Object", Cond.methodLink RJx4a65c 73 yJ8_newLength_cabcc, Cond.static yJ8_newLength_cabcc, Cond.initialized RJ8, Cond.code yJ8_newLength_cabcc cJ8_newLength_cabcc 4 (some .int), Cond.methodLink RJ8 194 Lib.Math.max.name, Cond.constant RJ8 200 (2147483639), Cond.methodLink RJ8 201 yJ8_hugeLength_7cf53, Cond.static yJ8_hugeLength_7cf53, Cond.code yJ8_hugeLength_7cf53 cJ8_hugeLength_7cf53 3 (some .int), Cond.methodLink RJx4a65c 66 yJ7_copyOf_1904c, Cond.static yJ7_copyOf_1904c, Cond.initialized RJ7, Cond.code yJ7_copyOf_1904c cJ7_copyOf_1904c 2 (some (.array (.object "java/lang/Object")))]
def wsL_addKey_r4 : List Cond := [Cond.methodLink RJ7 86 ⟨"java/lang/Object", "getClass", "()Ljava/lang/Class;"⟩, Cond.selects "[Ljava/lang/Object;" ⟨"java/lang/Object", "getClass", "()Ljava/lang/Class;"⟩ ⟨"java/lang/Object", "getClass", "()Ljava/lang/Class;"⟩, Cond.instanceMethod ⟨"java/lang/Object", "getClass", "()Ljava/lang/Class;"⟩, Cond.native ⟨"java/lang/Object", "getClass", "()Ljava/lang/Class;"⟩, Cond.methodLink RJ7 300 yJ7_copyOf_6403c, Cond.static yJ7_copyOf_6403c, Cond.code yJ7_copyOf_6403c cJ7_copyOf_6403c 4 (some (.array (.object "java/lang/Object"))), Cond.classLink RJ7 110 "[Ljava/lang/Object;", Cond.classLink RJ7 2 "java/lang/Object", Cond.methodLink RJ7 304 Lib.Math.min.name, Cond.static Lib.Math.min.name, Cond.code Lib.Math.min.name Lib.Math.min.code 2 (some .int), Cond.methodLink RJ7 150 arraycopyName, Cond.native arraycopyName, Cond.static arraycopyName, Cond.initialized "java/lang/System"]
def wsL_addKey : List Cond := .codeWith yL_addKey cL_addKey 3 (some .int) [(0, 5, 6, 14), (0, 5, 10, 25)] :: ((wsL_addKey_r1 ++ (wsL_addKey_r2 ++ (wsL_addKey_r3 ++ wsL_addKey_r4))) ++ wsX40 ++ wsX10 ++ wsJx4a65c0 ++ wsX20 ++ (vx_atS RX4 70 "java/lang/IllegalStateException" ["java/lang/RuntimeException", "java/lang/Exception"]).filter goodWord ++ (vx_atS RX4 181 "java/lang/IllegalArgumentException" ["java/lang/RuntimeException", "java/lang/Exception"]).filter goodWord)
def wsL_setKeyPlan_r1 : List Cond := [Cond.classLink RL 31 "java/lang/IndexOutOfBoundsException", Cond.classLink RL 14 "java/lang/IllegalArgumentException", Cond.constant RL 16 (-99999), Cond.methodLink RL 27 yX4_setKeyPlan, Cond.instanceMethod yX4_setKeyPlan, Cond.selects RX4 yX4_setKeyPlan yX4_setKeyPlan, Cond.initialized RX4, Cond.code yX4_setKeyPlan cX4_setKeyPlan 6 (some .int), Cond.methodLink RX4 82 yX4_keyAt, Cond.instanceMethod yX4_keyAt, Cond.selects RX4 yX4_keyAt yX4_keyAt, Cond.code yX4_keyAt cX4_keyAt 2 (some (.object "TollGateway$Key")), Cond.classLink RX4 184 "java/lang/IndexOutOfBoundsException", Cond.initialized "java/lang/IndexOutOfBoundsException", Cond.fieldLink RX4 24 "TollGateway" "keys" "Ljava/util/ArrayList;", Cond.classLink RX4 73 "TollGateway$Key", Cond.methodLink RX4 63 yJx4a65c_size_8abf5, Cond.instanceMethod yJx4a65c_size_8abf5, Cond.selects RJx4a65c yJx4a65c_size_8abf5 yJx4a65c_size_8abf5, Cond.initialized RJx4a65c, Cond.code yJx4a65c_size_8abf5 cJx4a65c_size_8abf5 1 (some .int), Cond.fieldLink RJx4a65c 48 "java/util/ArrayList" "size" "I", Cond.methodLink RX4 189 yJx4a65c_get_915e3, Cond.instanceMethod yJx4a65c_get_915e3]
def wsL_setKeyPlan_r2 : List Cond := [Cond.selects RJx4a65c yJx4a65c_get_915e3 yJx4a65c_get_915e3, Cond.code yJx4a65c_get_915e3 cJx4a65c_get_915e3 2 (some (.object "java/lang/Object")), Cond.methodLink RJx4a65c 118 yJ15_checkIndex_7cf53, Cond.static yJ15_checkIndex_7cf53, Cond.initialized RJ15, Cond.code yJ15_checkIndex_7cf53 cJ15_checkIndex_7cf53 2 (some .int), Cond.methodLink RJ15 105 yJ3_checkIndex_8e157, Cond.static yJ3_checkIndex_8e157, Cond.initialized RJ3, Cond.code yJ3_checkIndex_8e157 cJ3_checkIndex_8e157 3 (some .int), Cond.methodLink RJx4a65c 123 yJx4a65c_elementData_915e3, Cond.instanceMethod yJx4a65c_elementData_915e3, Cond.selects RJx4a65c yJx4a65c_elementData_915e3 yJx4a65c_elementData_915e3, Cond.code yJx4a65c_elementData_915e3 cJx4a65c_elementData_915e3 2 (some (.object "java/lang/Object")), Cond.fieldLink RJx4a65c 9 "java/util/ArrayList" "elementData" "[Ljava/lang/Object;", Cond.methodLink RX4 35 yX4_planAt, Cond.instanceMethod yX4_planAt, Cond.selects RX4 yX4_planAt yX4_planAt, Cond.code yX4_planAt cX4_planAt 2 (some (.object "TollGateway$Plan")), Cond.classLink RX4 177 "java/lang/IllegalArgumentException", Cond.initialized "java/lang/IllegalArgumentException", Cond.fieldLink RX4 11 "TollGateway" "plans" "[LTollGateway$Plan;"]
def wsL_setKeyPlan : List Cond := .codeWith yL_setKeyPlan cL_setKeyPlan 4 (some .int) [(0, 6, 7, 31), (0, 6, 11, 14)] :: ((wsL_setKeyPlan_r1 ++ wsL_setKeyPlan_r2) ++ wsX10 ++ wsX20 ++ wsX40 ++ wsJx4a65c0 ++ (vx_atS RX4 188 "java/lang/IndexOutOfBoundsException" ["java/lang/RuntimeException", "java/lang/Exception"]).filter goodWord ++ (vx_atS RX4 181 "java/lang/IllegalArgumentException" ["java/lang/RuntimeException", "java/lang/Exception"]).filter goodWord)
def wsL_setTrust_r1 : List Cond := [Cond.classLink RL 31 "java/lang/IndexOutOfBoundsException", Cond.classLink RL 14 "java/lang/IllegalArgumentException", Cond.constant RL 16 (-99999), Cond.methodLink RL 33 yX4_setTrust, Cond.instanceMethod yX4_setTrust, Cond.selects RX4 yX4_setTrust yX4_setTrust, Cond.initialized RX4, Cond.code yX4_setTrust cX4_setTrust 5 (some .int), Cond.methodLink RX4 82 yX4_keyAt, Cond.instanceMethod yX4_keyAt, Cond.selects RX4 yX4_keyAt yX4_keyAt, Cond.code yX4_keyAt cX4_keyAt 2 (some (.object "TollGateway$Key")), Cond.classLink RX4 184 "java/lang/IndexOutOfBoundsException", Cond.initialized "java/lang/IndexOutOfBoundsException", Cond.fieldLink RX4 24 "TollGateway" "keys" "Ljava/util/ArrayList;", Cond.classLink RX4 73 "TollGateway$Key", Cond.methodLink RX4 63 yJx4a65c_size_8abf5, Cond.instanceMethod yJx4a65c_size_8abf5, Cond.selects RJx4a65c yJx4a65c_size_8abf5 yJx4a65c_size_8abf5, Cond.initialized RJx4a65c, Cond.code yJx4a65c_size_8abf5 cJx4a65c_size_8abf5 1 (some .int), Cond.fieldLink RJx4a65c 48 "java/util/ArrayList" "size" "I", Cond.methodLink RX4 189 yJx4a65c_get_915e3, Cond.instanceMethod yJx4a65c_get_915e3]
def wsL_setTrust_r2 : List Cond := [Cond.selects RJx4a65c yJx4a65c_get_915e3 yJx4a65c_get_915e3, Cond.code yJx4a65c_get_915e3 cJx4a65c_get_915e3 2 (some (.object "java/lang/Object")), Cond.methodLink RJx4a65c 118 yJ15_checkIndex_7cf53, Cond.static yJ15_checkIndex_7cf53, Cond.initialized RJ15, Cond.code yJ15_checkIndex_7cf53 cJ15_checkIndex_7cf53 2 (some .int), Cond.methodLink RJ15 105 yJ3_checkIndex_8e157, Cond.static yJ3_checkIndex_8e157, Cond.initialized RJ3, Cond.code yJ3_checkIndex_8e157 cJ3_checkIndex_8e157 3 (some .int), Cond.methodLink RJx4a65c 123 yJx4a65c_elementData_915e3, Cond.instanceMethod yJx4a65c_elementData_915e3, Cond.selects RJx4a65c yJx4a65c_elementData_915e3 yJx4a65c_elementData_915e3, Cond.code yJx4a65c_elementData_915e3 cJx4a65c_elementData_915e3 2 (some (.object "java/lang/Object")), Cond.fieldLink RJx4a65c 9 "java/util/ArrayList" "elementData" "[Ljava/lang/Object;", Cond.methodLink RX4 39 yX4_refuseOutside, Cond.static yX4_refuseOutside, Cond.code yX4_refuseOutside cX4_refuseOutside 3 none, Cond.classLink RX4 177 "java/lang/IllegalArgumentException", Cond.initialized "java/lang/IllegalArgumentException"]
def wsL_setTrust : List Cond := .codeWith yL_setTrust cL_setTrust 4 (some .int) [(0, 6, 7, 31), (0, 6, 11, 14)] :: ((wsL_setTrust_r1 ++ wsL_setTrust_r2) ++ wsX10 ++ wsX40 ++ wsJx4a65c0 ++ (vx_atS RX4 188 "java/lang/IndexOutOfBoundsException" ["java/lang/RuntimeException", "java/lang/Exception"]).filter goodWord ++ (vx_atS RX4 181 "java/lang/IllegalArgumentException" ["java/lang/RuntimeException", "java/lang/Exception"]).filter goodWord)
def wsL_pay_r1 : List Cond := [Cond.classLink RL 31 "java/lang/IndexOutOfBoundsException", Cond.classLink RL 14 "java/lang/IllegalArgumentException", Cond.constant RL 16 (-99999), Cond.methodLink RL 36 yX4_pay, Cond.instanceMethod yX4_pay, Cond.selects RX4 yX4_pay yX4_pay, Cond.initialized RX4, Cond.code yX4_pay cX4_pay 4 (some .int), Cond.constant RX4 96 (100000), Cond.methodLink RX4 82 yX4_keyAt, Cond.instanceMethod yX4_keyAt, Cond.selects RX4 yX4_keyAt yX4_keyAt, Cond.code yX4_keyAt cX4_keyAt 2 (some (.object "TollGateway$Key")), Cond.classLink RX4 184 "java/lang/IndexOutOfBoundsException", Cond.initialized "java/lang/IndexOutOfBoundsException", Cond.fieldLink RX4 24 "TollGateway" "keys" "Ljava/util/ArrayList;", Cond.classLink RX4 73 "TollGateway$Key", Cond.methodLink RX4 63 yJx4a65c_size_8abf5, Cond.instanceMethod yJx4a65c_size_8abf5, Cond.selects RJx4a65c yJx4a65c_size_8abf5 yJx4a65c_size_8abf5, Cond.initialized RJx4a65c, Cond.code yJx4a65c_size_8abf5 cJx4a65c_size_8abf5 1 (some .int), Cond.fieldLink RJx4a65c 48 "java/util/ArrayList" "size" "I", Cond.methodLink RX4 189 yJx4a65c_get_915e3]
def wsL_pay_r2 : List Cond := [Cond.instanceMethod yJx4a65c_get_915e3, Cond.selects RJx4a65c yJx4a65c_get_915e3 yJx4a65c_get_915e3, Cond.code yJx4a65c_get_915e3 cJx4a65c_get_915e3 2 (some (.object "java/lang/Object")), Cond.methodLink RJx4a65c 118 yJ15_checkIndex_7cf53, Cond.static yJ15_checkIndex_7cf53, Cond.initialized RJ15, Cond.code yJ15_checkIndex_7cf53 cJ15_checkIndex_7cf53 2 (some .int), Cond.methodLink RJ15 105 yJ3_checkIndex_8e157, Cond.static yJ3_checkIndex_8e157, Cond.initialized RJ3, Cond.code yJ3_checkIndex_8e157 cJ3_checkIndex_8e157 3 (some .int), Cond.methodLink RJx4a65c 123 yJx4a65c_elementData_915e3, Cond.instanceMethod yJx4a65c_elementData_915e3, Cond.selects RJx4a65c yJx4a65c_elementData_915e3 yJx4a65c_elementData_915e3, Cond.code yJx4a65c_elementData_915e3 cJx4a65c_elementData_915e3 2 (some (.object "java/lang/Object")), Cond.fieldLink RJx4a65c 9 "java/util/ArrayList" "elementData" "[Ljava/lang/Object;", Cond.methodLink RX4 39 yX4_refuseOutside, Cond.static yX4_refuseOutside, Cond.code yX4_refuseOutside cX4_refuseOutside 3 none, Cond.classLink RX4 177 "java/lang/IllegalArgumentException", Cond.initialized "java/lang/IllegalArgumentException", Cond.instanceMethod yX1_receive, Cond.initialized RX1, Cond.selects RX1 yX1_receive yX1_receive]
def wsL_pay_r3 : List Cond := [Cond.code yX1_receive cX1_receive 3 none, Cond.fieldLink RX1 22 "TollGateway$Key" "debt" "I", Cond.methodLink RX1 25 Lib.Math.min.name, Cond.static Lib.Math.min.name, Cond.initialized "java/lang/Math", Cond.code Lib.Math.min.name Lib.Math.min.code 2 (some .int), Cond.fieldLink RX1 31 "TollGateway$Key" "credit" "I"]
def wsL_pay : List Cond := .codeWith yL_pay cL_pay 4 (some .int) [(0, 6, 7, 31), (0, 6, 11, 14)] :: ((wsL_pay_r1 ++ (wsL_pay_r2 ++ wsL_pay_r3)) ++ wsX10 ++ wsX40 ++ wsJx4a65c0 ++ (vx_atS RX4 188 "java/lang/IndexOutOfBoundsException" ["java/lang/RuntimeException", "java/lang/Exception"]).filter goodWord ++ (vx_atS RX4 181 "java/lang/IllegalArgumentException" ["java/lang/RuntimeException", "java/lang/Exception"]).filter goodWord)
def wsL_call_r1 : List Cond := [Cond.classLink RL 31 "java/lang/IndexOutOfBoundsException", Cond.classLink RL 14 "java/lang/IllegalArgumentException", Cond.classLink RL 25 "java/lang/IllegalStateException", Cond.constant RL 16 (-99999), Cond.methodLink RL 39 yX4_call, Cond.instanceMethod yX4_call, Cond.selects RX4 yX4_call yX4_call, Cond.initialized RX4, Cond.code yX4_call cX4_call 7 (some .int), Cond.classLink RX4 66 "java/lang/IllegalStateException", Cond.initialized "java/lang/IllegalStateException", Cond.fieldLink RX4 28 "TollGateway" "letThrough" "Ljava/util/ArrayList;", Cond.classLink RX4 118 RX0, Cond.instantiable RX0 7, Cond.initialized RX0, Cond.fieldLink RX4 120 "TollGateway" "tick" "I", Cond.methodLink RX4 82 yX4_keyAt, Cond.instanceMethod yX4_keyAt, Cond.selects RX4 yX4_keyAt yX4_keyAt, Cond.code yX4_keyAt cX4_keyAt 2 (some (.object "TollGateway$Key")), Cond.classLink RX4 184 "java/lang/IndexOutOfBoundsException", Cond.initialized "java/lang/IndexOutOfBoundsException", Cond.fieldLink RX4 24 "TollGateway" "keys" "Ljava/util/ArrayList;", Cond.classLink RX4 73 "TollGateway$Key"]
def wsL_call_r2 : List Cond := [Cond.methodLink RX4 63 yJx4a65c_size_8abf5, Cond.instanceMethod yJx4a65c_size_8abf5, Cond.selects RJx4a65c yJx4a65c_size_8abf5 yJx4a65c_size_8abf5, Cond.initialized RJx4a65c, Cond.code yJx4a65c_size_8abf5 cJx4a65c_size_8abf5 1 (some .int), Cond.fieldLink RJx4a65c 48 "java/util/ArrayList" "size" "I", Cond.methodLink RX4 189 yJx4a65c_get_915e3, Cond.instanceMethod yJx4a65c_get_915e3, Cond.selects RJx4a65c yJx4a65c_get_915e3 yJx4a65c_get_915e3, Cond.code yJx4a65c_get_915e3 cJx4a65c_get_915e3 2 (some (.object "java/lang/Object")), Cond.methodLink RJx4a65c 118 yJ15_checkIndex_7cf53, Cond.static yJ15_checkIndex_7cf53, Cond.initialized RJ15, Cond.code yJ15_checkIndex_7cf53 cJ15_checkIndex_7cf53 2 (some .int), Cond.methodLink RJ15 105 yJ3_checkIndex_8e157, Cond.static yJ3_checkIndex_8e157, Cond.initialized RJ3, Cond.code yJ3_checkIndex_8e157 cJ3_checkIndex_8e157 3 (some .int), Cond.methodLink RJx4a65c 123 yJx4a65c_elementData_915e3, Cond.instanceMethod yJx4a65c_elementData_915e3, Cond.selects RJx4a65c yJx4a65c_elementData_915e3 yJx4a65c_elementData_915e3, Cond.code yJx4a65c_elementData_915e3 cJx4a65c_elementData_915e3 2 (some (.object "java/lang/Object")), Cond.fieldLink RJx4a65c 9 "java/util/ArrayList" "elementData" "[Ljava/lang/Object;", Cond.methodLink RX4 53 yX4_routeAt]
def wsL_call_r3 : List Cond := [Cond.instanceMethod yX4_routeAt, Cond.selects RX4 yX4_routeAt yX4_routeAt, Cond.code yX4_routeAt cX4_routeAt 2 (some (.object "TollGateway$Route")), Cond.classLink RX4 177 "java/lang/IllegalArgumentException", Cond.initialized "java/lang/IllegalArgumentException", Cond.fieldLink RX4 17 "TollGateway" "routes" "[LTollGateway$Route;", Cond.methodLink RX4 39 yX4_refuseOutside, Cond.static yX4_refuseOutside, Cond.code yX4_refuseOutside cX4_refuseOutside 3 none, Cond.instanceMethod yX1_canCover, Cond.initialized RX1, Cond.selects RX1 yX1_canCover yX1_canCover, Cond.code yX1_canCover cX1_canCover 3 (some .boolean), Cond.fieldLink RX1 34 "TollGateway$Key" "trustLine" "I", Cond.fieldLink RX1 22 "TollGateway$Key" "debt" "I", Cond.methodLink RX1 37 Lib.Math.max.name, Cond.static Lib.Math.max.name, Cond.initialized "java/lang/Math", Cond.code Lib.Math.max.name Lib.Math.max.code 2 (some .int), Cond.fieldLink RX1 31 "TollGateway$Key" "credit" "I", Cond.instanceMethod yX1_openHold, Cond.selects RX1 yX1_openHold yX1_openHold, Cond.code yX1_openHold cX1_openHold 3 none, Cond.methodLink RX1 25 Lib.Math.min.name]
def wsL_call_r4 : List Cond := [Cond.static Lib.Math.min.name, Cond.code Lib.Math.min.name Lib.Math.min.code 2 (some .int), Cond.fieldLink RX1 40 "TollGateway$Key" "held" "I", Cond.fieldLink RX1 43 "TollGateway$Key" "openHolds" "I", Cond.instanceMethod yX0_init, Cond.code yX0_init cX0_init 5 none, Cond.methodLink RX0 3 objectInit, Cond.instanceMethod objectInit, Cond.code objectInit ⟨#[0xb1]⟩ 1 none, Cond.fieldLink RX0 9 "TollGateway$Call" "cost" "I", Cond.fieldLink RX0 15 "TollGateway$Call" "key" "LTollGateway$Key;", Cond.fieldLink RX0 19 "TollGateway$Call" "worth" "I", Cond.fieldLink RX0 22 "TollGateway$Call" "weight" "I", Cond.fieldLink RX0 25 "TollGateway$Call" "dueTick" "I", Cond.methodLink RX4 78 yJx4a65c_add_9ea2d, Cond.instanceMethod yJx4a65c_add_9ea2d, Cond.selects RJx4a65c yJx4a65c_add_9ea2d yJx4a65c_add_9ea2d, Cond.code yJx4a65c_add_9ea2d cJx4a65c_add_9ea2d 2 (some .boolean), Cond.fieldLink RJx4a65c 63 "java/util/ArrayList" "modCount" "I", Cond.sameField "java/util/ArrayList" "java/util/AbstractList" "modCount" "I", Cond.methodLink RJx4a65c 131 yJx4a65c_add_72be8, Cond.instanceMethod yJx4a65c_add_72be8, Cond.selects RJx4a65c yJx4a65c_add_72be8 yJx4a65c_add_72be8, Cond.code yJx4a65c_add_72be8 cJx4a65c_add_72be8 4 none]
def wsL_call_r5 : List Cond := [Cond.methodLink RJx4a65c 129 yJx4a65c_grow_d5877, Cond.instanceMethod yJx4a65c_grow_d5877, Cond.selects RJx4a65c yJx4a65c_grow_d5877 yJx4a65c_grow_d5877, Cond.code yJx4a65c_grow_d5877 cJx4a65c_grow_d5877 1 (some (.array (.object "java/lang/Object"))), Cond.methodLink RJx4a65c 69 yJx4a65c_grow_92f84, Cond.instanceMethod yJx4a65c_grow_92f84, Cond.selects RJx4a65c yJx4a65c_grow_92f84 yJx4a65c_grow_92f84, Cond.code yJx4a65c_grow_92f84 cJx4a65c_grow_92f84 4 (some (.array (.object "java/lang/Object"))), Cond.fieldLink RJx4a65c 39 "java/util/ArrayList" "DEFAULTCAPACITY_EMPTY_ELEMENTDATA" "[Ljava/lang/Object;", Cond.methodLink RJx4a65c 79 Lib.Math.max.name, Cond.classLink RJx4a65c 7 "java/lang/Object", Cond.methodLink RJx4a65c 73 yJ8_newLength_cabcc, Cond.static yJ8_newLength_cabcc, Cond.initialized RJ8, Cond.code yJ8_newLength_cabcc cJ8_newLength_cabcc 4 (some .int), Cond.methodLink RJ8 194 Lib.Math.max.name, Cond.constant RJ8 200 (2147483639), Cond.methodLink RJ8 201 yJ8_hugeLength_7cf53, Cond.static yJ8_hugeLength_7cf53, Cond.code yJ8_hugeLength_7cf53 cJ8_hugeLength_7cf53 3 (some .int), Cond.methodLink RJx4a65c 66 yJ7_copyOf_1904c, Cond.static yJ7_copyOf_1904c, Cond.initialized RJ7, Cond.code yJ7_copyOf_1904c cJ7_copyOf_1904c 2 (some (.array (.object "java/lang/Object")))]
def wsL_call_r6 : List Cond := [Cond.methodLink RJ7 86 ⟨"java/lang/Object", "getClass", "()Ljava/lang/Class;"⟩, Cond.selects "[Ljava/lang/Object;" ⟨"java/lang/Object", "getClass", "()Ljava/lang/Class;"⟩ ⟨"java/lang/Object", "getClass", "()Ljava/lang/Class;"⟩, Cond.instanceMethod ⟨"java/lang/Object", "getClass", "()Ljava/lang/Class;"⟩, Cond.native ⟨"java/lang/Object", "getClass", "()Ljava/lang/Class;"⟩, Cond.methodLink RJ7 300 yJ7_copyOf_6403c, Cond.static yJ7_copyOf_6403c, Cond.code yJ7_copyOf_6403c cJ7_copyOf_6403c 4 (some (.array (.object "java/lang/Object"))), Cond.classLink RJ7 110 "[Ljava/lang/Object;", Cond.classLink RJ7 2 "java/lang/Object", Cond.methodLink RJ7 304 Lib.Math.min.name, Cond.methodLink RJ7 150 arraycopyName, Cond.native arraycopyName, Cond.static arraycopyName, Cond.initialized "java/lang/System"]
def wsL_call : List Cond := .codeWith yL_call cL_call 5 (some .int) [(0, 7, 8, 31), (0, 7, 13, 14), (0, 7, 18, 25)] :: ((wsL_call_r1 ++ (wsL_call_r2 ++ (wsL_call_r3 ++ (wsL_call_r4 ++ (wsL_call_r5 ++ wsL_call_r6))))) ++ wsX40 ++ wsX30 ++ wsX10 ++ wsX00 ++ wsJx4a65c0 ++ (vx_atS RX4 70 "java/lang/IllegalStateException" ["java/lang/RuntimeException", "java/lang/Exception"]).filter goodWord ++ (vx_atS RX4 188 "java/lang/IndexOutOfBoundsException" ["java/lang/RuntimeException", "java/lang/Exception"]).filter goodWord ++ (vx_atS RX4 181 "java/lang/IllegalArgumentException" ["java/lang/RuntimeException", "java/lang/Exception"]).filter goodWord)
def wsL_end_r1 : List Cond := [Cond.classLink RL 31 "java/lang/IndexOutOfBoundsException", Cond.classLink RL 14 "java/lang/IllegalArgumentException", Cond.classLink RL 25 "java/lang/IllegalStateException", Cond.constant RL 16 (-99999), Cond.methodLink RL 43 yX4_end, Cond.instanceMethod yX4_end, Cond.selects RX4 yX4_end yX4_end, Cond.initialized RX4, Cond.code yX4_end cX4_end 4 (some .int), Cond.classLink RX4 66 "java/lang/IllegalStateException", Cond.initialized "java/lang/IllegalStateException", Cond.fieldLink RX4 120 "TollGateway" "tick" "I", Cond.methodLink RX4 126 yX4_callAt, Cond.instanceMethod yX4_callAt, Cond.selects RX4 yX4_callAt yX4_callAt, Cond.code yX4_callAt cX4_callAt 2 (some (.object "TollGateway$Call")), Cond.classLink RX4 184 "java/lang/IndexOutOfBoundsException", Cond.initialized "java/lang/IndexOutOfBoundsException", Cond.fieldLink RX4 28 "TollGateway" "letThrough" "Ljava/util/ArrayList;", Cond.classLink RX4 118 "TollGateway$Call", Cond.methodLink RX4 63 yJx4a65c_size_8abf5, Cond.instanceMethod yJx4a65c_size_8abf5, Cond.selects RJx4a65c yJx4a65c_size_8abf5 yJx4a65c_size_8abf5, Cond.initialized RJx4a65c]
def wsL_end_r2 : List Cond := [Cond.code yJx4a65c_size_8abf5 cJx4a65c_size_8abf5 1 (some .int), Cond.fieldLink RJx4a65c 48 "java/util/ArrayList" "size" "I", Cond.methodLink RX4 189 yJx4a65c_get_915e3, Cond.instanceMethod yJx4a65c_get_915e3, Cond.selects RJx4a65c yJx4a65c_get_915e3 yJx4a65c_get_915e3, Cond.code yJx4a65c_get_915e3 cJx4a65c_get_915e3 2 (some (.object "java/lang/Object")), Cond.methodLink RJx4a65c 118 yJ15_checkIndex_7cf53, Cond.static yJ15_checkIndex_7cf53, Cond.initialized RJ15, Cond.code yJ15_checkIndex_7cf53 cJ15_checkIndex_7cf53 2 (some .int), Cond.methodLink RJ15 105 yJ3_checkIndex_8e157, Cond.static yJ3_checkIndex_8e157, Cond.initialized RJ3, Cond.code yJ3_checkIndex_8e157 cJ3_checkIndex_8e157 3 (some .int), Cond.methodLink RJx4a65c 123 yJx4a65c_elementData_915e3, Cond.instanceMethod yJx4a65c_elementData_915e3, Cond.selects RJx4a65c yJx4a65c_elementData_915e3 yJx4a65c_elementData_915e3, Cond.code yJx4a65c_elementData_915e3 cJx4a65c_elementData_915e3 2 (some (.object "java/lang/Object")), Cond.fieldLink RJx4a65c 9 "java/util/ArrayList" "elementData" "[Ljava/lang/Object;", Cond.methodLink RX4 39 yX4_refuseOutside, Cond.static yX4_refuseOutside, Cond.code yX4_refuseOutside cX4_refuseOutside 3 none, Cond.classLink RX4 177 "java/lang/IllegalArgumentException", Cond.initialized "java/lang/IllegalArgumentException"]
def wsL_end_r3 : List Cond := [Cond.instanceMethod yX0_hasEnded, Cond.initialized RX0, Cond.selects RX0 yX0_hasEnded yX0_hasEnded, Cond.code yX0_hasEnded cX0_hasEnded 1 (some .boolean), Cond.fieldLink RX0 9 "TollGateway$Call" "cost" "I", Cond.instanceMethod yX0_settle, Cond.selects RX0 yX0_settle yX0_settle, Cond.code yX0_settle cX0_settle 3 none, Cond.fieldLink RX0 32 "TollGateway$Call" "endTick" "I", Cond.fieldLink RX0 15 "TollGateway$Call" "key" "LTollGateway$Key;", Cond.fieldLink RX0 19 "TollGateway$Call" "worth" "I", Cond.methodLink RX0 28 yX0_costOf, Cond.instanceMethod yX0_costOf, Cond.selects RX0 yX0_costOf yX0_costOf, Cond.code yX0_costOf cX0_costOf 2 (some .int), Cond.instanceMethod yX1_closeHold, Cond.initialized RX1, Cond.selects RX1 yX1_closeHold yX1_closeHold, Cond.code yX1_closeHold cX1_closeHold 3 none, Cond.fieldLink RX1 40 "TollGateway$Key" "held" "I", Cond.fieldLink RX1 43 "TollGateway$Key" "openHolds" "I", Cond.fieldLink RX1 46 "TollGateway$Key" "spent" "I", Cond.methodLink RX1 49 yX1_receive, Cond.instanceMethod yX1_receive]
def wsL_end_r4 : List Cond := [Cond.selects RX1 yX1_receive yX1_receive, Cond.code yX1_receive cX1_receive 3 none, Cond.fieldLink RX1 22 "TollGateway$Key" "debt" "I", Cond.methodLink RX1 25 Lib.Math.min.name, Cond.static Lib.Math.min.name, Cond.initialized "java/lang/Math", Cond.code Lib.Math.min.name Lib.Math.min.code 2 (some .int), Cond.fieldLink RX1 31 "TollGateway$Key" "credit" "I"]
def wsL_end : List Cond := .codeWith yL_end cL_end 4 (some .int) [(0, 6, 7, 31), (0, 6, 11, 14), (0, 6, 15, 25)] :: ((wsL_end_r1 ++ (wsL_end_r2 ++ (wsL_end_r3 ++ wsL_end_r4))) ++ wsX40 ++ wsX00 ++ wsJx4a65c0 ++ wsX10 ++ (vx_atS RX4 70 "java/lang/IllegalStateException" ["java/lang/RuntimeException", "java/lang/Exception"]).filter goodWord ++ (vx_atS RX4 188 "java/lang/IndexOutOfBoundsException" ["java/lang/RuntimeException", "java/lang/Exception"]).filter goodWord ++ (vx_atS RX4 181 "java/lang/IllegalArgumentException" ["java/lang/RuntimeException", "java/lang/Exception"]).filter goodWord)
def wsL_dispute_r1 : List Cond := [Cond.classLink RL 31 "java/lang/IndexOutOfBoundsException", Cond.classLink RL 25 "java/lang/IllegalStateException", Cond.constant RL 16 (-99999), Cond.methodLink RL 46 yX4_dispute, Cond.instanceMethod yX4_dispute, Cond.selects RX4 yX4_dispute yX4_dispute, Cond.initialized RX4, Cond.code yX4_dispute cX4_dispute 3 (some .int), Cond.classLink RX4 66 "java/lang/IllegalStateException", Cond.initialized "java/lang/IllegalStateException", Cond.fieldLink RX4 120 "TollGateway" "tick" "I", Cond.methodLink RX4 126 yX4_callAt, Cond.instanceMethod yX4_callAt, Cond.selects RX4 yX4_callAt yX4_callAt, Cond.code yX4_callAt cX4_callAt 2 (some (.object "TollGateway$Call")), Cond.classLink RX4 184 "java/lang/IndexOutOfBoundsException", Cond.initialized "java/lang/IndexOutOfBoundsException", Cond.fieldLink RX4 28 "TollGateway" "letThrough" "Ljava/util/ArrayList;", Cond.classLink RX4 118 "TollGateway$Call", Cond.methodLink RX4 63 yJx4a65c_size_8abf5, Cond.instanceMethod yJx4a65c_size_8abf5, Cond.selects RJx4a65c yJx4a65c_size_8abf5 yJx4a65c_size_8abf5, Cond.initialized RJx4a65c, Cond.code yJx4a65c_size_8abf5 cJx4a65c_size_8abf5 1 (some .int)]
def wsL_dispute_r2 : List Cond := [Cond.fieldLink RJx4a65c 48 "java/util/ArrayList" "size" "I", Cond.methodLink RX4 189 yJx4a65c_get_915e3, Cond.instanceMethod yJx4a65c_get_915e3, Cond.selects RJx4a65c yJx4a65c_get_915e3 yJx4a65c_get_915e3, Cond.code yJx4a65c_get_915e3 cJx4a65c_get_915e3 2 (some (.object "java/lang/Object")), Cond.methodLink RJx4a65c 118 yJ15_checkIndex_7cf53, Cond.static yJ15_checkIndex_7cf53, Cond.initialized RJ15, Cond.code yJ15_checkIndex_7cf53 cJ15_checkIndex_7cf53 2 (some .int), Cond.methodLink RJ15 105 yJ3_checkIndex_8e157, Cond.static yJ3_checkIndex_8e157, Cond.initialized RJ3, Cond.code yJ3_checkIndex_8e157 cJ3_checkIndex_8e157 3 (some .int), Cond.methodLink RJx4a65c 123 yJx4a65c_elementData_915e3, Cond.instanceMethod yJx4a65c_elementData_915e3, Cond.selects RJx4a65c yJx4a65c_elementData_915e3 yJx4a65c_elementData_915e3, Cond.code yJx4a65c_elementData_915e3 cJx4a65c_elementData_915e3 2 (some (.object "java/lang/Object")), Cond.fieldLink RJx4a65c 9 "java/util/ArrayList" "elementData" "[Ljava/lang/Object;", Cond.instanceMethod yX0_hasEnded, Cond.initialized RX0, Cond.selects RX0 yX0_hasEnded yX0_hasEnded, Cond.code yX0_hasEnded cX0_hasEnded 1 (some .boolean), Cond.fieldLink RX0 9 "TollGateway$Call" "cost" "I", Cond.instanceMethod yX0_giveBack]
def wsL_dispute_r3 : List Cond := [Cond.selects RX0 yX0_giveBack yX0_giveBack, Cond.code yX0_giveBack cX0_giveBack 2 (some .int), Cond.fieldLink RX0 41 "TollGateway$Call" "wasDisputed" "Z", Cond.fieldLink RX0 15 "TollGateway$Call" "key" "LTollGateway$Key;", Cond.fieldLink RX0 22 "TollGateway$Call" "weight" "I", Cond.instanceMethod yX1_receive, Cond.initialized RX1, Cond.selects RX1 yX1_receive yX1_receive, Cond.code yX1_receive cX1_receive 3 none, Cond.fieldLink RX1 22 "TollGateway$Key" "debt" "I", Cond.methodLink RX1 25 Lib.Math.min.name, Cond.static Lib.Math.min.name, Cond.initialized "java/lang/Math", Cond.code Lib.Math.min.name Lib.Math.min.code 2 (some .int), Cond.fieldLink RX1 31 "TollGateway$Key" "credit" "I"]
def wsL_dispute : List Cond := .codeWith yL_dispute cL_dispute 3 (some .int) [(0, 5, 6, 31), (0, 5, 10, 25)] :: ((wsL_dispute_r1 ++ (wsL_dispute_r2 ++ wsL_dispute_r3)) ++ wsX00 ++ wsX40 ++ wsJx4a65c0 ++ wsX10 ++ (vx_atS RX4 70 "java/lang/IllegalStateException" ["java/lang/RuntimeException", "java/lang/Exception"]).filter goodWord ++ (vx_atS RX4 188 "java/lang/IndexOutOfBoundsException" ["java/lang/RuntimeException", "java/lang/Exception"]).filter goodWord)
def wsL_pass_r1 : List Cond := [Cond.classLink RL 14 "java/lang/IllegalArgumentException", Cond.constant RL 16 (-99999), Cond.methodLink RL 49 yX4_pass, Cond.instanceMethod yX4_pass, Cond.selects RX4 yX4_pass yX4_pass, Cond.initialized RX4, Cond.code yX4_pass cX4_pass 4 (some .int), Cond.fieldLink RX4 120 "TollGateway" "tick" "I", Cond.methodLink RX4 39 yX4_refuseOutside, Cond.static yX4_refuseOutside, Cond.code yX4_refuseOutside cX4_refuseOutside 3 none, Cond.classLink RX4 177 "java/lang/IllegalArgumentException", Cond.initialized "java/lang/IllegalArgumentException", Cond.methodLink RX4 159 yX4_runOutHolds, Cond.instanceMethod yX4_runOutHolds, Cond.selects RX4 yX4_runOutHolds yX4_runOutHolds, Cond.code yX4_runOutHolds cX4_runOutHolds 3 (some .int), Cond.fieldLink RX4 197 "TollGateway" "nextToRunOut" "I", Cond.fieldLink RX4 28 "TollGateway" "letThrough" "Ljava/util/ArrayList;", Cond.classLink RX4 118 "TollGateway$Call", Cond.methodLink RX4 63 yJx4a65c_size_8abf5, Cond.instanceMethod yJx4a65c_size_8abf5, Cond.selects RJx4a65c yJx4a65c_size_8abf5 yJx4a65c_size_8abf5, Cond.initialized RJx4a65c]
def wsL_pass_r2 : List Cond := [Cond.code yJx4a65c_size_8abf5 cJx4a65c_size_8abf5 1 (some .int), Cond.fieldLink RJx4a65c 48 "java/util/ArrayList" "size" "I", Cond.methodLink RX4 189 yJx4a65c_get_915e3, Cond.instanceMethod yJx4a65c_get_915e3, Cond.selects RJx4a65c yJx4a65c_get_915e3 yJx4a65c_get_915e3, Cond.code yJx4a65c_get_915e3 cJx4a65c_get_915e3 2 (some (.object "java/lang/Object")), Cond.methodLink RJx4a65c 118 yJ15_checkIndex_7cf53, Cond.static yJ15_checkIndex_7cf53, Cond.initialized RJ15, Cond.code yJ15_checkIndex_7cf53 cJ15_checkIndex_7cf53 2 (some .int), Cond.methodLink RJ15 105 yJ3_checkIndex_8e157, Cond.static yJ3_checkIndex_8e157, Cond.initialized RJ3, Cond.code yJ3_checkIndex_8e157 cJ3_checkIndex_8e157 3 (some .int), Cond.methodLink RJx4a65c 123 yJx4a65c_elementData_915e3, Cond.instanceMethod yJx4a65c_elementData_915e3, Cond.selects RJx4a65c yJx4a65c_elementData_915e3 yJx4a65c_elementData_915e3, Cond.code yJx4a65c_elementData_915e3 cJx4a65c_elementData_915e3 2 (some (.object "java/lang/Object")), Cond.fieldLink RJx4a65c 9 "java/util/ArrayList" "elementData" "[Ljava/lang/Object;", Cond.instanceMethod yX0_hasEnded, Cond.initialized RX0, Cond.selects RX0 yX0_hasEnded yX0_hasEnded, Cond.code yX0_hasEnded cX0_hasEnded 1 (some .boolean), Cond.fieldLink RX0 9 "TollGateway$Call" "cost" "I"]
def wsL_pass_r3 : List Cond := [Cond.instanceMethod yX0_settle, Cond.selects RX0 yX0_settle yX0_settle, Cond.code yX0_settle cX0_settle 3 none, Cond.fieldLink RX0 32 "TollGateway$Call" "endTick" "I", Cond.fieldLink RX0 15 "TollGateway$Call" "key" "LTollGateway$Key;", Cond.fieldLink RX0 19 "TollGateway$Call" "worth" "I", Cond.methodLink RX0 28 yX0_costOf, Cond.instanceMethod yX0_costOf, Cond.selects RX0 yX0_costOf yX0_costOf, Cond.code yX0_costOf cX0_costOf 2 (some .int), Cond.instanceMethod yX1_closeHold, Cond.initialized RX1, Cond.selects RX1 yX1_closeHold yX1_closeHold, Cond.code yX1_closeHold cX1_closeHold 3 none, Cond.fieldLink RX1 40 "TollGateway$Key" "held" "I", Cond.fieldLink RX1 43 "TollGateway$Key" "openHolds" "I", Cond.fieldLink RX1 46 "TollGateway$Key" "spent" "I", Cond.methodLink RX1 49 yX1_receive, Cond.instanceMethod yX1_receive, Cond.selects RX1 yX1_receive yX1_receive, Cond.code yX1_receive cX1_receive 3 none, Cond.fieldLink RX1 22 "TollGateway$Key" "debt" "I", Cond.methodLink RX1 25 Lib.Math.min.name, Cond.static Lib.Math.min.name]
def wsL_pass_r4 : List Cond := [Cond.initialized "java/lang/Math", Cond.code Lib.Math.min.name Lib.Math.min.code 2 (some .int), Cond.fieldLink RX1 31 "TollGateway$Key" "credit" "I", Cond.methodLink RX4 162 yX4_refillBuckets, Cond.instanceMethod yX4_refillBuckets, Cond.selects RX4 yX4_refillBuckets yX4_refillBuckets, Cond.code yX4_refillBuckets cX4_refillBuckets 2 none, Cond.fieldLink RX4 24 "TollGateway" "keys" "Ljava/util/ArrayList;", Cond.classLink RX4 73 "TollGateway$Key", Cond.instanceMethod yX1_refillBucket, Cond.selects RX1 yX1_refillBucket yX1_refillBucket, Cond.code yX1_refillBucket cX1_refillBucket 2 none, Cond.fieldLink RX1 19 "TollGateway$Key" "tokens" "I", Cond.fieldLink RX1 7 "TollGateway$Key" "plan" "LTollGateway$Plan;", Cond.methodLink RX1 53 yX1_refillsSlowly, Cond.instanceMethod yX1_refillsSlowly, Cond.selects RX1 yX1_refillsSlowly yX1_refillsSlowly, Cond.code yX1_refillsSlowly cX1_refillsSlowly 1 (some .boolean)]
def wsL_pass : List Cond := .codeWith yL_pass cL_pass 3 (some .int) [(0, 5, 6, 14)] :: ((wsL_pass_r1 ++ (wsL_pass_r2 ++ (wsL_pass_r3 ++ wsL_pass_r4))) ++ wsX40 ++ wsX00 ++ wsJx4a65c0 ++ wsX10 ++ wsX20 ++ (vx_atS RX4 181 "java/lang/IllegalArgumentException" ["java/lang/RuntimeException", "java/lang/Exception"]).filter goodWord)
def wsL_credit_r1 : List Cond := [Cond.classLink RL 31 "java/lang/IndexOutOfBoundsException", Cond.methodLink RL 52 yX4_credit, Cond.instanceMethod yX4_credit, Cond.selects RX4 yX4_credit yX4_credit, Cond.initialized RX4, Cond.code yX4_credit cX4_credit 2 (some .int), Cond.methodLink RX4 82 yX4_keyAt, Cond.instanceMethod yX4_keyAt, Cond.selects RX4 yX4_keyAt yX4_keyAt, Cond.code yX4_keyAt cX4_keyAt 2 (some (.object "TollGateway$Key")), Cond.classLink RX4 184 "java/lang/IndexOutOfBoundsException", Cond.initialized "java/lang/IndexOutOfBoundsException", Cond.fieldLink RX4 24 "TollGateway" "keys" "Ljava/util/ArrayList;", Cond.classLink RX4 73 "TollGateway$Key", Cond.methodLink RX4 63 yJx4a65c_size_8abf5, Cond.instanceMethod yJx4a65c_size_8abf5, Cond.selects RJx4a65c yJx4a65c_size_8abf5 yJx4a65c_size_8abf5, Cond.initialized RJx4a65c, Cond.code yJx4a65c_size_8abf5 cJx4a65c_size_8abf5 1 (some .int), Cond.fieldLink RJx4a65c 48 "java/util/ArrayList" "size" "I", Cond.methodLink RX4 189 yJx4a65c_get_915e3, Cond.instanceMethod yJx4a65c_get_915e3, Cond.selects RJx4a65c yJx4a65c_get_915e3 yJx4a65c_get_915e3, Cond.code yJx4a65c_get_915e3 cJx4a65c_get_915e3 2 (some (.object "java/lang/Object"))]
def wsL_credit_r2 : List Cond := [Cond.methodLink RJx4a65c 118 yJ15_checkIndex_7cf53, Cond.static yJ15_checkIndex_7cf53, Cond.initialized RJ15, Cond.code yJ15_checkIndex_7cf53 cJ15_checkIndex_7cf53 2 (some .int), Cond.methodLink RJ15 105 yJ3_checkIndex_8e157, Cond.static yJ3_checkIndex_8e157, Cond.initialized RJ3, Cond.code yJ3_checkIndex_8e157 cJ3_checkIndex_8e157 3 (some .int), Cond.methodLink RJx4a65c 123 yJx4a65c_elementData_915e3, Cond.instanceMethod yJx4a65c_elementData_915e3, Cond.selects RJx4a65c yJx4a65c_elementData_915e3 yJx4a65c_elementData_915e3, Cond.code yJx4a65c_elementData_915e3 cJx4a65c_elementData_915e3 2 (some (.object "java/lang/Object")), Cond.fieldLink RJx4a65c 9 "java/util/ArrayList" "elementData" "[Ljava/lang/Object;"]
def wsL_credit : List Cond := .codeWith yL_credit cL_credit 3 (some .int) [(0, 5, 6, 31)] :: ((wsL_credit_r1 ++ wsL_credit_r2) ++ wsX10 ++ wsX40 ++ wsJx4a65c0 ++ (vx_atS RX4 188 "java/lang/IndexOutOfBoundsException" ["java/lang/RuntimeException", "java/lang/Exception"]).filter goodWord)
def wsL_act_r1 : List Cond := [Cond.constant RL 78 (100005), Cond.methodLink RL 55 yL_low, Cond.static yL_low, Cond.initialized RL, Cond.code yL_low cL_low 2 (some .int), Cond.constant RL 7 (2147483647), Cond.methodLink RL 60 yX4_calls, Cond.instanceMethod yX4_calls, Cond.selects RX4 yX4_calls yX4_calls, Cond.initialized RX4, Cond.code yX4_calls cX4_calls 1 (some .int), Cond.fieldLink RX4 28 "TollGateway" "letThrough" "Ljava/util/ArrayList;", Cond.methodLink RX4 63 yJx4a65c_size_8abf5, Cond.instanceMethod yJx4a65c_size_8abf5, Cond.selects RJx4a65c yJx4a65c_size_8abf5 yJx4a65c_size_8abf5, Cond.initialized RJx4a65c, Cond.code yJx4a65c_size_8abf5 cJx4a65c_size_8abf5 1 (some .int), Cond.fieldLink RJx4a65c 48 "java/util/ArrayList" "size" "I", Cond.methodLink RL 64 yL_setPlan, Cond.static yL_setPlan, Cond.codeWith yL_setPlan cL_setPlan 6 (some .int) [(0, 10, 11, 14)], Cond.classLink RL 14 "java/lang/IllegalArgumentException", Cond.constant RL 16 (-99999), Cond.methodLink RL 8 yX4_setPlan]
def wsL_act_r2 : List Cond := [Cond.instanceMethod yX4_setPlan, Cond.selects RX4 yX4_setPlan yX4_setPlan, Cond.code yX4_setPlan cX4_setPlan 6 none, Cond.methodLink RX4 35 yX4_planAt, Cond.instanceMethod yX4_planAt, Cond.selects RX4 yX4_planAt yX4_planAt, Cond.code yX4_planAt cX4_planAt 2 (some (.object "TollGateway$Plan")), Cond.classLink RX4 177 "java/lang/IllegalArgumentException", Cond.initialized "java/lang/IllegalArgumentException", Cond.fieldLink RX4 11 "TollGateway" "plans" "[LTollGateway$Plan;", Cond.methodLink RX4 39 yX4_refuseOutside, Cond.static yX4_refuseOutside, Cond.code yX4_refuseOutside cX4_refuseOutside 3 none, Cond.methodLink RL 67 yL_setRoute, Cond.static yL_setRoute, Cond.codeWith yL_setRoute cL_setRoute 5 (some .int) [(0, 8, 9, 14)], Cond.methodLink RL 17 yX4_setRoute, Cond.instanceMethod yX4_setRoute, Cond.selects RX4 yX4_setRoute yX4_setRoute, Cond.code yX4_setRoute cX4_setRoute 5 none, Cond.methodLink RX4 53 yX4_routeAt, Cond.instanceMethod yX4_routeAt, Cond.selects RX4 yX4_routeAt yX4_routeAt, Cond.code yX4_routeAt cX4_routeAt 2 (some (.object "TollGateway$Route"))]
def wsL_act_r3 : List Cond := [Cond.fieldLink RX4 17 "TollGateway" "routes" "[LTollGateway$Route;", Cond.methodLink RL 70 yL_addKey, Cond.static yL_addKey, Cond.codeWith yL_addKey cL_addKey 3 (some .int) [(0, 5, 6, 14), (0, 5, 10, 25)], Cond.classLink RL 25 "java/lang/IllegalStateException", Cond.methodLink RL 21 yX4_addKey, Cond.instanceMethod yX4_addKey, Cond.selects RX4 yX4_addKey yX4_addKey, Cond.code yX4_addKey cX4_addKey 3 (some .int), Cond.classLink RX4 66 "java/lang/IllegalStateException", Cond.initialized "java/lang/IllegalStateException", Cond.fieldLink RX4 24 "TollGateway" "keys" "Ljava/util/ArrayList;", Cond.classLink RX4 73 RX1, Cond.instantiable RX1 9, Cond.initialized RX1, Cond.instanceMethod yX1_init, Cond.code yX1_init cX1_init 2 none, Cond.methodLink RX1 1 objectInit, Cond.instanceMethod objectInit, Cond.code objectInit ⟨#[0xb1]⟩ 1 none, Cond.fieldLink RX1 7 "TollGateway$Key" "plan" "LTollGateway$Plan;", Cond.fieldLink RX1 19 "TollGateway$Key" "tokens" "I", Cond.methodLink RX4 78 yJx4a65c_add_9ea2d, Cond.instanceMethod yJx4a65c_add_9ea2d]
def wsL_act_r4 : List Cond := [Cond.selects RJx4a65c yJx4a65c_add_9ea2d yJx4a65c_add_9ea2d, Cond.code yJx4a65c_add_9ea2d cJx4a65c_add_9ea2d 2 (some .boolean), Cond.fieldLink RJx4a65c 63 "java/util/ArrayList" "modCount" "I", Cond.sameField "java/util/ArrayList" "java/util/AbstractList" "modCount" "I", Cond.fieldLink RJx4a65c 9 "java/util/ArrayList" "elementData" "[Ljava/lang/Object;", Cond.methodLink RJx4a65c 131 yJx4a65c_add_72be8, Cond.instanceMethod yJx4a65c_add_72be8, Cond.selects RJx4a65c yJx4a65c_add_72be8 yJx4a65c_add_72be8, Cond.code yJx4a65c_add_72be8 cJx4a65c_add_72be8 4 none, Cond.methodLink RJx4a65c 129 yJx4a65c_grow_d5877, Cond.instanceMethod yJx4a65c_grow_d5877, Cond.selects RJx4a65c yJx4a65c_grow_d5877 yJx4a65c_grow_d5877, Cond.code yJx4a65c_grow_d5877 cJx4a65c_grow_d5877 1 (some (.array (.object "java/lang/Object"))), Cond.methodLink RJx4a65c 69 yJx4a65c_grow_92f84, Cond.instanceMethod yJx4a65c_grow_92f84, Cond.selects RJx4a65c yJx4a65c_grow_92f84 yJx4a65c_grow_92f84, Cond.code yJx4a65c_grow_92f84 cJx4a65c_grow_92f84 4 (some (.array (.object "java/lang/Object"))), Cond.fieldLink RJx4a65c 39 "java/util/ArrayList" "DEFAULTCAPACITY_EMPTY_ELEMENTDATA" "[Ljava/lang/Object;", Cond.methodLink RJx4a65c 79 Lib.Math.max.name, Cond.static Lib.Math.max.name, Cond.initialized "java/lang/Math", Cond.code Lib.Math.max.name Lib.Math.max.code 2 (some .int), Cond.classLink RJx4a65c 7 "java/lang/Object", Cond.methodLink RJx4a65c 73 yJ8_newLength_cabcc]
def wsL_act_r5 : List Cond := [Cond.static yJ8_newLength_cabcc, Cond.initialized RJ8, Cond.code yJ8_newLength_cabcc cJ8_newLength_cabcc 4 (some .int), Cond.methodLink RJ8 194 Lib.Math.max.name, Cond.constant RJ8 200 (2147483639), Cond.methodLink RJ8 201 yJ8_hugeLength_7cf53, Cond.static yJ8_hugeLength_7cf53, Cond.code yJ8_hugeLength_7cf53 cJ8_hugeLength_7cf53 3 (some .int), Cond.methodLink RJx4a65c 66 yJ7_copyOf_1904c, Cond.static yJ7_copyOf_1904c, Cond.initialized RJ7, Cond.code yJ7_copyOf_1904c cJ7_copyOf_1904c 2 (some (.array (.object "java/lang/Object"))), Cond.methodLink RJ7 86 ⟨"java/lang/Object", "getClass", "()Ljava/lang/Class;"⟩, Cond.selects "[Ljava/lang/Object;" ⟨"java/lang/Object", "getClass", "()Ljava/lang/Class;"⟩ ⟨"java/lang/Object", "getClass", "()Ljava/lang/Class;"⟩, Cond.instanceMethod ⟨"java/lang/Object", "getClass", "()Ljava/lang/Class;"⟩, Cond.native ⟨"java/lang/Object", "getClass", "()Ljava/lang/Class;"⟩, Cond.methodLink RJ7 300 yJ7_copyOf_6403c, Cond.static yJ7_copyOf_6403c, Cond.code yJ7_copyOf_6403c cJ7_copyOf_6403c 4 (some (.array (.object "java/lang/Object"))), Cond.classLink RJ7 110 "[Ljava/lang/Object;", Cond.classLink RJ7 2 "java/lang/Object", Cond.methodLink RJ7 304 Lib.Math.min.name, Cond.static Lib.Math.min.name, Cond.code Lib.Math.min.name Lib.Math.min.code 2 (some .int)]
def wsL_act_r6 : List Cond := [Cond.methodLink RJ7 150 arraycopyName, Cond.native arraycopyName, Cond.static arraycopyName, Cond.initialized "java/lang/System", Cond.methodLink RL 73 yL_setKeyPlan, Cond.static yL_setKeyPlan, Cond.codeWith yL_setKeyPlan cL_setKeyPlan 4 (some .int) [(0, 6, 7, 31), (0, 6, 11, 14)], Cond.classLink RL 31 "java/lang/IndexOutOfBoundsException", Cond.methodLink RL 27 yX4_setKeyPlan, Cond.instanceMethod yX4_setKeyPlan, Cond.selects RX4 yX4_setKeyPlan yX4_setKeyPlan, Cond.code yX4_setKeyPlan cX4_setKeyPlan 6 (some .int), Cond.methodLink RX4 82 yX4_keyAt, Cond.instanceMethod yX4_keyAt, Cond.selects RX4 yX4_keyAt yX4_keyAt, Cond.code yX4_keyAt cX4_keyAt 2 (some (.object "TollGateway$Key")), Cond.classLink RX4 184 "java/lang/IndexOutOfBoundsException", Cond.initialized "java/lang/IndexOutOfBoundsException", Cond.classLink RX4 73 "TollGateway$Key", Cond.methodLink RX4 189 yJx4a65c_get_915e3, Cond.instanceMethod yJx4a65c_get_915e3, Cond.selects RJx4a65c yJx4a65c_get_915e3 yJx4a65c_get_915e3, Cond.code yJx4a65c_get_915e3 cJx4a65c_get_915e3 2 (some (.object "java/lang/Object")), Cond.methodLink RJx4a65c 118 yJ15_checkIndex_7cf53]
def wsL_act_r7 : List Cond := [Cond.static yJ15_checkIndex_7cf53, Cond.initialized RJ15, Cond.code yJ15_checkIndex_7cf53 cJ15_checkIndex_7cf53 2 (some .int), Cond.methodLink RJ15 105 yJ3_checkIndex_8e157, Cond.static yJ3_checkIndex_8e157, Cond.initialized RJ3, Cond.code yJ3_checkIndex_8e157 cJ3_checkIndex_8e157 3 (some .int), Cond.methodLink RJx4a65c 123 yJx4a65c_elementData_915e3, Cond.instanceMethod yJx4a65c_elementData_915e3, Cond.selects RJx4a65c yJx4a65c_elementData_915e3 yJx4a65c_elementData_915e3, Cond.code yJx4a65c_elementData_915e3 cJx4a65c_elementData_915e3 2 (some (.object "java/lang/Object")), Cond.methodLink RL 76 yL_setTrust, Cond.static yL_setTrust, Cond.codeWith yL_setTrust cL_setTrust 4 (some .int) [(0, 6, 7, 31), (0, 6, 11, 14)], Cond.methodLink RL 33 yX4_setTrust, Cond.instanceMethod yX4_setTrust, Cond.selects RX4 yX4_setTrust yX4_setTrust, Cond.code yX4_setTrust cX4_setTrust 5 (some .int), Cond.methodLink RL 79 yL_pay, Cond.static yL_pay, Cond.codeWith yL_pay cL_pay 4 (some .int) [(0, 6, 7, 31), (0, 6, 11, 14)], Cond.methodLink RL 36 yX4_pay, Cond.instanceMethod yX4_pay, Cond.selects RX4 yX4_pay yX4_pay]
def wsL_act_r8 : List Cond := [Cond.code yX4_pay cX4_pay 4 (some .int), Cond.constant RX4 96 (100000), Cond.instanceMethod yX1_receive, Cond.selects RX1 yX1_receive yX1_receive, Cond.code yX1_receive cX1_receive 3 none, Cond.fieldLink RX1 22 "TollGateway$Key" "debt" "I", Cond.methodLink RX1 25 Lib.Math.min.name, Cond.fieldLink RX1 31 "TollGateway$Key" "credit" "I", Cond.methodLink RL 81 yL_end, Cond.static yL_end, Cond.codeWith yL_end cL_end 4 (some .int) [(0, 6, 7, 31), (0, 6, 11, 14), (0, 6, 15, 25)], Cond.methodLink RL 43 yX4_end, Cond.instanceMethod yX4_end, Cond.selects RX4 yX4_end yX4_end, Cond.code yX4_end cX4_end 4 (some .int), Cond.fieldLink RX4 120 "TollGateway" "tick" "I", Cond.methodLink RX4 126 yX4_callAt, Cond.instanceMethod yX4_callAt, Cond.selects RX4 yX4_callAt yX4_callAt, Cond.code yX4_callAt cX4_callAt 2 (some (.object "TollGateway$Call")), Cond.classLink RX4 118 "TollGateway$Call", Cond.instanceMethod yX0_hasEnded, Cond.initialized RX0, Cond.selects RX0 yX0_hasEnded yX0_hasEnded]
def wsL_act_r9 : List Cond := [Cond.code yX0_hasEnded cX0_hasEnded 1 (some .boolean), Cond.fieldLink RX0 9 "TollGateway$Call" "cost" "I", Cond.instanceMethod yX0_settle, Cond.selects RX0 yX0_settle yX0_settle, Cond.code yX0_settle cX0_settle 3 none, Cond.fieldLink RX0 32 "TollGateway$Call" "endTick" "I", Cond.fieldLink RX0 15 "TollGateway$Call" "key" "LTollGateway$Key;", Cond.fieldLink RX0 19 "TollGateway$Call" "worth" "I", Cond.methodLink RX0 28 yX0_costOf, Cond.instanceMethod yX0_costOf, Cond.selects RX0 yX0_costOf yX0_costOf, Cond.code yX0_costOf cX0_costOf 2 (some .int), Cond.instanceMethod yX1_closeHold, Cond.selects RX1 yX1_closeHold yX1_closeHold, Cond.code yX1_closeHold cX1_closeHold 3 none, Cond.fieldLink RX1 40 "TollGateway$Key" "held" "I", Cond.fieldLink RX1 43 "TollGateway$Key" "openHolds" "I", Cond.fieldLink RX1 46 "TollGateway$Key" "spent" "I", Cond.methodLink RX1 49 yX1_receive, Cond.methodLink RL 83 yL_dispute, Cond.static yL_dispute, Cond.codeWith yL_dispute cL_dispute 3 (some .int) [(0, 5, 6, 31), (0, 5, 10, 25)], Cond.methodLink RL 46 yX4_dispute, Cond.instanceMethod yX4_dispute]
def wsL_act_r10 : List Cond := [Cond.selects RX4 yX4_dispute yX4_dispute, Cond.code yX4_dispute cX4_dispute 3 (some .int), Cond.instanceMethod yX0_giveBack, Cond.selects RX0 yX0_giveBack yX0_giveBack, Cond.code yX0_giveBack cX0_giveBack 2 (some .int), Cond.fieldLink RX0 41 "TollGateway$Call" "wasDisputed" "Z", Cond.fieldLink RX0 22 "TollGateway$Call" "weight" "I", Cond.methodLink RL 85 yL_pass, Cond.static yL_pass, Cond.codeWith yL_pass cL_pass 3 (some .int) [(0, 5, 6, 14)], Cond.methodLink RL 49 yX4_pass, Cond.instanceMethod yX4_pass, Cond.selects RX4 yX4_pass yX4_pass, Cond.code yX4_pass cX4_pass 4 (some .int), Cond.methodLink RX4 159 yX4_runOutHolds, Cond.instanceMethod yX4_runOutHolds, Cond.selects RX4 yX4_runOutHolds yX4_runOutHolds, Cond.code yX4_runOutHolds cX4_runOutHolds 3 (some .int), Cond.fieldLink RX4 197 "TollGateway" "nextToRunOut" "I", Cond.methodLink RX4 162 yX4_refillBuckets, Cond.instanceMethod yX4_refillBuckets, Cond.selects RX4 yX4_refillBuckets yX4_refillBuckets, Cond.code yX4_refillBuckets cX4_refillBuckets 2 none, Cond.instanceMethod yX1_refillBucket]
def wsL_act_r11 : List Cond := [Cond.selects RX1 yX1_refillBucket yX1_refillBucket, Cond.code yX1_refillBucket cX1_refillBucket 2 none, Cond.methodLink RX1 53 yX1_refillsSlowly, Cond.instanceMethod yX1_refillsSlowly, Cond.selects RX1 yX1_refillsSlowly yX1_refillsSlowly, Cond.code yX1_refillsSlowly cX1_refillsSlowly 1 (some .boolean), Cond.methodLink RL 87 yL_call, Cond.static yL_call, Cond.codeWith yL_call cL_call 5 (some .int) [(0, 7, 8, 31), (0, 7, 13, 14), (0, 7, 18, 25)], Cond.methodLink RL 39 yX4_call, Cond.instanceMethod yX4_call, Cond.selects RX4 yX4_call yX4_call, Cond.code yX4_call cX4_call 7 (some .int), Cond.classLink RX4 118 RX0, Cond.instantiable RX0 7, Cond.instanceMethod yX1_canCover, Cond.selects RX1 yX1_canCover yX1_canCover, Cond.code yX1_canCover cX1_canCover 3 (some .boolean), Cond.fieldLink RX1 34 "TollGateway$Key" "trustLine" "I", Cond.methodLink RX1 37 Lib.Math.max.name, Cond.instanceMethod yX1_openHold, Cond.selects RX1 yX1_openHold yX1_openHold, Cond.code yX1_openHold cX1_openHold 3 none, Cond.instanceMethod yX0_init]
def wsL_act_r12 : List Cond := [Cond.code yX0_init cX0_init 5 none, Cond.methodLink RX0 3 objectInit, Cond.fieldLink RX0 25 "TollGateway$Call" "dueTick" "I"]
def wsL_act : List Cond := .code yL_act cL_act 7 (some .int) :: ((wsL_act_r1 ++ (wsL_act_r2 ++ (wsL_act_r3 ++ (wsL_act_r4 ++ (wsL_act_r5 ++ (wsL_act_r6 ++ (wsL_act_r7 ++ (wsL_act_r8 ++ (wsL_act_r9 ++ (wsL_act_r10 ++ (wsL_act_r11 ++ wsL_act_r12))))))))))) ++ wsX40 ++ wsJx4a65c0 ++ wsX20 ++ wsX30 ++ wsX10 ++ wsX00 ++ (vx_atS RX4 181 "java/lang/IllegalArgumentException" ["java/lang/RuntimeException", "java/lang/Exception"]).filter goodWord ++ (vx_atS RX4 70 "java/lang/IllegalStateException" ["java/lang/RuntimeException", "java/lang/Exception"]).filter goodWord ++ (vx_atS RX4 188 "java/lang/IndexOutOfBoundsException" ["java/lang/RuntimeException", "java/lang/Exception"]).filter goodWord)
def wsL_areAlike_r1 : List Cond := [Cond.methodLink RL 89 yX4_now, Cond.instanceMethod yX4_now, Cond.selects RX4 yX4_now yX4_now, Cond.initialized RX4, Cond.code yX4_now cX4_now 1 (some .int), Cond.fieldLink RX4 120 "TollGateway" "tick" "I", Cond.methodLink RL 60 yX4_calls, Cond.instanceMethod yX4_calls, Cond.selects RX4 yX4_calls yX4_calls, Cond.code yX4_calls cX4_calls 1 (some .int), Cond.fieldLink RX4 28 "TollGateway" "letThrough" "Ljava/util/ArrayList;", Cond.methodLink RX4 63 yJx4a65c_size_8abf5, Cond.instanceMethod yJx4a65c_size_8abf5, Cond.selects RJx4a65c yJx4a65c_size_8abf5 yJx4a65c_size_8abf5, Cond.initialized RJx4a65c, Cond.code yJx4a65c_size_8abf5 cJx4a65c_size_8abf5 1 (some .int), Cond.fieldLink RJx4a65c 48 "java/util/ArrayList" "size" "I", Cond.methodLink RL 92 yL_credit, Cond.static yL_credit, Cond.initialized RL, Cond.codeWith yL_credit cL_credit 3 (some .int) [(0, 5, 6, 31)], Cond.classLink RL 31 "java/lang/IndexOutOfBoundsException", Cond.methodLink RL 52 yX4_credit, Cond.instanceMethod yX4_credit]
def wsL_areAlike_r2 : List Cond := [Cond.selects RX4 yX4_credit yX4_credit, Cond.code yX4_credit cX4_credit 2 (some .int), Cond.methodLink RX4 82 yX4_keyAt, Cond.instanceMethod yX4_keyAt, Cond.selects RX4 yX4_keyAt yX4_keyAt, Cond.code yX4_keyAt cX4_keyAt 2 (some (.object "TollGateway$Key")), Cond.classLink RX4 184 "java/lang/IndexOutOfBoundsException", Cond.initialized "java/lang/IndexOutOfBoundsException", Cond.fieldLink RX4 24 "TollGateway" "keys" "Ljava/util/ArrayList;", Cond.classLink RX4 73 "TollGateway$Key", Cond.methodLink RX4 189 yJx4a65c_get_915e3, Cond.instanceMethod yJx4a65c_get_915e3, Cond.selects RJx4a65c yJx4a65c_get_915e3 yJx4a65c_get_915e3, Cond.code yJx4a65c_get_915e3 cJx4a65c_get_915e3 2 (some (.object "java/lang/Object")), Cond.methodLink RJx4a65c 118 yJ15_checkIndex_7cf53, Cond.static yJ15_checkIndex_7cf53, Cond.initialized RJ15, Cond.code yJ15_checkIndex_7cf53 cJ15_checkIndex_7cf53 2 (some .int), Cond.methodLink RJ15 105 yJ3_checkIndex_8e157, Cond.static yJ3_checkIndex_8e157, Cond.initialized RJ3, Cond.code yJ3_checkIndex_8e157 cJ3_checkIndex_8e157 3 (some .int), Cond.methodLink RJx4a65c 123 yJx4a65c_elementData_915e3, Cond.instanceMethod yJx4a65c_elementData_915e3]
def wsL_areAlike_r3 : List Cond := [Cond.selects RJx4a65c yJx4a65c_elementData_915e3 yJx4a65c_elementData_915e3, Cond.code yJx4a65c_elementData_915e3 cJx4a65c_elementData_915e3 2 (some (.object "java/lang/Object")), Cond.fieldLink RJx4a65c 9 "java/util/ArrayList" "elementData" "[Ljava/lang/Object;", Cond.methodLink RL 94 yX4_debt, Cond.instanceMethod yX4_debt, Cond.selects RX4 yX4_debt yX4_debt, Cond.code yX4_debt cX4_debt 2 (some .int), Cond.methodLink RL 97 yX4_held, Cond.instanceMethod yX4_held, Cond.selects RX4 yX4_held yX4_held, Cond.code yX4_held cX4_held 2 (some .int), Cond.methodLink RL 100 yX4_tokens, Cond.instanceMethod yX4_tokens, Cond.selects RX4 yX4_tokens yX4_tokens, Cond.code yX4_tokens cX4_tokens 2 (some .int), Cond.methodLink RL 103 yX4_spent, Cond.instanceMethod yX4_spent, Cond.selects RX4 yX4_spent yX4_spent, Cond.code yX4_spent cX4_spent 2 (some .int), Cond.methodLink RL 106 yX4_isSlowed, Cond.instanceMethod yX4_isSlowed, Cond.selects RX4 yX4_isSlowed yX4_isSlowed, Cond.code yX4_isSlowed cX4_isSlowed 2 (some .boolean), Cond.instanceMethod yX1_refillsSlowly]
def wsL_areAlike_r4 : List Cond := [Cond.initialized RX1, Cond.selects RX1 yX1_refillsSlowly yX1_refillsSlowly, Cond.code yX1_refillsSlowly cX1_refillsSlowly 1 (some .boolean), Cond.fieldLink RX1 31 "TollGateway$Key" "credit" "I", Cond.fieldLink RX1 43 "TollGateway$Key" "openHolds" "I"]
def wsL_areAlike : List Cond := .code yL_areAlike cL_areAlike 4 (some .boolean) :: ((wsL_areAlike_r1 ++ (wsL_areAlike_r2 ++ (wsL_areAlike_r3 ++ wsL_areAlike_r4))) ++ wsX40 ++ wsJx4a65c0 ++ wsX10 ++ (vx_atS RX4 188 "java/lang/IndexOutOfBoundsException" ["java/lang/RuntimeException", "java/lang/Exception"]).filter goodWord)
def wsL_areKeysSo_r1 : List Cond := [Cond.methodLink RL 92 yL_credit, Cond.static yL_credit, Cond.initialized RL, Cond.codeWith yL_credit cL_credit 3 (some .int) [(0, 5, 6, 31)], Cond.classLink RL 31 "java/lang/IndexOutOfBoundsException", Cond.methodLink RL 52 yX4_credit, Cond.instanceMethod yX4_credit, Cond.selects RX4 yX4_credit yX4_credit, Cond.initialized RX4, Cond.code yX4_credit cX4_credit 2 (some .int), Cond.methodLink RX4 82 yX4_keyAt, Cond.instanceMethod yX4_keyAt, Cond.selects RX4 yX4_keyAt yX4_keyAt, Cond.code yX4_keyAt cX4_keyAt 2 (some (.object "TollGateway$Key")), Cond.classLink RX4 184 "java/lang/IndexOutOfBoundsException", Cond.initialized "java/lang/IndexOutOfBoundsException", Cond.fieldLink RX4 24 "TollGateway" "keys" "Ljava/util/ArrayList;", Cond.classLink RX4 73 "TollGateway$Key", Cond.methodLink RX4 63 yJx4a65c_size_8abf5, Cond.instanceMethod yJx4a65c_size_8abf5, Cond.selects RJx4a65c yJx4a65c_size_8abf5 yJx4a65c_size_8abf5, Cond.initialized RJx4a65c, Cond.code yJx4a65c_size_8abf5 cJx4a65c_size_8abf5 1 (some .int), Cond.fieldLink RJx4a65c 48 "java/util/ArrayList" "size" "I"]
def wsL_areKeysSo_r2 : List Cond := [Cond.methodLink RX4 189 yJx4a65c_get_915e3, Cond.instanceMethod yJx4a65c_get_915e3, Cond.selects RJx4a65c yJx4a65c_get_915e3 yJx4a65c_get_915e3, Cond.code yJx4a65c_get_915e3 cJx4a65c_get_915e3 2 (some (.object "java/lang/Object")), Cond.methodLink RJx4a65c 118 yJ15_checkIndex_7cf53, Cond.static yJ15_checkIndex_7cf53, Cond.initialized RJ15, Cond.code yJ15_checkIndex_7cf53 cJ15_checkIndex_7cf53 2 (some .int), Cond.methodLink RJ15 105 yJ3_checkIndex_8e157, Cond.static yJ3_checkIndex_8e157, Cond.initialized RJ3, Cond.code yJ3_checkIndex_8e157 cJ3_checkIndex_8e157 3 (some .int), Cond.methodLink RJx4a65c 123 yJx4a65c_elementData_915e3, Cond.instanceMethod yJx4a65c_elementData_915e3, Cond.selects RJx4a65c yJx4a65c_elementData_915e3 yJx4a65c_elementData_915e3, Cond.code yJx4a65c_elementData_915e3 cJx4a65c_elementData_915e3 2 (some (.object "java/lang/Object")), Cond.fieldLink RJx4a65c 9 "java/util/ArrayList" "elementData" "[Ljava/lang/Object;", Cond.methodLink RL 94 yX4_debt, Cond.instanceMethod yX4_debt, Cond.selects RX4 yX4_debt yX4_debt, Cond.code yX4_debt cX4_debt 2 (some .int), Cond.methodLink RL 97 yX4_held, Cond.instanceMethod yX4_held, Cond.selects RX4 yX4_held yX4_held]
def wsL_areKeysSo_r3 : List Cond := [Cond.code yX4_held cX4_held 2 (some .int), Cond.methodLink RL 103 yX4_spent, Cond.instanceMethod yX4_spent, Cond.selects RX4 yX4_spent yX4_spent, Cond.code yX4_spent cX4_spent 2 (some .int), Cond.methodLink RL 110 yX4_paid, Cond.instanceMethod yX4_paid, Cond.selects RX4 yX4_paid yX4_paid, Cond.code yX4_paid cX4_paid 2 (some .int), Cond.methodLink RL 100 yX4_tokens, Cond.instanceMethod yX4_tokens, Cond.selects RX4 yX4_tokens yX4_tokens, Cond.code yX4_tokens cX4_tokens 2 (some .int), Cond.methodLink RL 106 yX4_isSlowed, Cond.instanceMethod yX4_isSlowed, Cond.selects RX4 yX4_isSlowed yX4_isSlowed, Cond.code yX4_isSlowed cX4_isSlowed 2 (some .boolean), Cond.instanceMethod yX1_refillsSlowly, Cond.initialized RX1, Cond.selects RX1 yX1_refillsSlowly yX1_refillsSlowly, Cond.code yX1_refillsSlowly cX1_refillsSlowly 1 (some .boolean), Cond.fieldLink RX1 31 "TollGateway$Key" "credit" "I", Cond.fieldLink RX1 43 "TollGateway$Key" "openHolds" "I", Cond.methodLink RL 60 yX4_calls]
def wsL_areKeysSo_r4 : List Cond := [Cond.instanceMethod yX4_calls, Cond.selects RX4 yX4_calls yX4_calls, Cond.code yX4_calls cX4_calls 1 (some .int), Cond.fieldLink RX4 28 "TollGateway" "letThrough" "Ljava/util/ArrayList;", Cond.methodLink RL 113 yX4_cost, Cond.instanceMethod yX4_cost, Cond.selects RX4 yX4_cost yX4_cost, Cond.code yX4_cost cX4_cost 2 (some .int), Cond.methodLink RX4 126 yX4_callAt, Cond.instanceMethod yX4_callAt, Cond.selects RX4 yX4_callAt yX4_callAt, Cond.code yX4_callAt cX4_callAt 2 (some (.object "TollGateway$Call")), Cond.classLink RX4 118 "TollGateway$Call"]
def wsL_areKeysSo : List Cond := .code yL_areKeysSo cL_areKeysSo 5 (some .boolean) :: ((wsL_areKeysSo_r1 ++ (wsL_areKeysSo_r2 ++ (wsL_areKeysSo_r3 ++ wsL_areKeysSo_r4))) ++ wsX10 ++ wsX40 ++ wsJx4a65c0 ++ wsX00 ++ (vx_atS RX4 188 "java/lang/IndexOutOfBoundsException" ["java/lang/RuntimeException", "java/lang/Exception"]).filter goodWord)
def wsL_law0_r1 : List Cond := [Cond.classLink RL 9 RX4, Cond.instantiable RX4 6, Cond.initialized RX4, Cond.constant RL 16 (-99999), Cond.methodLink RL 116 yX4_init, Cond.instanceMethod yX4_init, Cond.code yX4_init cX4_init 2 none, Cond.methodLink RX4 1 objectInit, Cond.instanceMethod objectInit, Cond.code objectInit ⟨#[0xb1]⟩ 1 none, Cond.classLink RX4 9 RX2, Cond.fieldLink RX4 11 "TollGateway" "plans" "[LTollGateway$Plan;", Cond.classLink RX4 15 RX3, Cond.fieldLink RX4 17 "TollGateway" "routes" "[LTollGateway$Route;", Cond.classLink RX4 21 RJx4a65c, Cond.instantiable RJx4a65c 3, Cond.initialized RJx4a65c, Cond.fieldLink RX4 24 "TollGateway" "keys" "Ljava/util/ArrayList;", Cond.fieldLink RX4 28 "TollGateway" "letThrough" "Ljava/util/ArrayList;", Cond.instantiable RX2 4, Cond.initialized RX2, Cond.instantiable RX3 2, Cond.initialized RX3, Cond.methodLink RX4 23 yJx4a65c_init_da8c8]
def wsL_law0_r2 : List Cond := [Cond.instanceMethod yJx4a65c_init_da8c8, Cond.code yJx4a65c_init_da8c8 cJx4a65c_init_da8c8 1 none, Cond.fieldLink RJx4a65c 39 "java/util/ArrayList" "DEFAULTCAPACITY_EMPTY_ELEMENTDATA" "[Ljava/lang/Object;", Cond.fieldLink RJx4a65c 9 "java/util/ArrayList" "elementData" "[Ljava/lang/Object;", Cond.methodLink RJx4a65c 1 yJxc12de_init_da8c8, Cond.instanceMethod yJxc12de_init_da8c8, Cond.initialized RJxc12de, Cond.code yJxc12de_init_da8c8 cJxc12de_init_da8c8 1 none, Cond.fieldLink RJxc12de 7 "java/util/AbstractList" "modCount" "I", Cond.methodLink RJxc12de 1 yJxa1e45_init_da8c8, Cond.instanceMethod yJxa1e45_init_da8c8, Cond.initialized RJxa1e45, Cond.code yJxa1e45_init_da8c8 cJxa1e45_init_da8c8 1 none, Cond.methodLink RJxa1e45 1 objectInit, Cond.instanceMethod yX2_init, Cond.code yX2_init cX2_init 2 none, Cond.methodLink RX2 1 objectInit, Cond.fieldLink RX2 7 "TollGateway$Plan" "size" "I", Cond.fieldLink RX2 13 "TollGateway$Plan" "refill" "I", Cond.fieldLink RX2 16 "TollGateway$Plan" "slowRefill" "I", Cond.fieldLink RX2 19 "TollGateway$Plan" "number" "I", Cond.instanceMethod yX3_init, Cond.code yX3_init cX3_init 1 none, Cond.methodLink RX3 1 objectInit]
def wsL_law0_r3 : List Cond := [Cond.fieldLink RX3 7 "TollGateway$Route" "price" "I", Cond.fieldLink RX3 13 "TollGateway$Route" "weight" "I", Cond.methodLink RL 117 yL_cell, Cond.static yL_cell, Cond.initialized RL, Cond.code yL_cell cL_cell 2 (some .int), Cond.methodLink RL 121 yL_act, Cond.static yL_act, Cond.code yL_act cL_act 7 (some .int), Cond.constant RL 78 (100005), Cond.methodLink RL 55 yL_low, Cond.static yL_low, Cond.code yL_low cL_low 2 (some .int), Cond.constant RL 7 (2147483647), Cond.methodLink RL 60 yX4_calls, Cond.instanceMethod yX4_calls, Cond.selects RX4 yX4_calls yX4_calls, Cond.code yX4_calls cX4_calls 1 (some .int), Cond.methodLink RX4 63 yJx4a65c_size_8abf5, Cond.instanceMethod yJx4a65c_size_8abf5, Cond.selects RJx4a65c yJx4a65c_size_8abf5 yJx4a65c_size_8abf5, Cond.code yJx4a65c_size_8abf5 cJx4a65c_size_8abf5 1 (some .int), Cond.fieldLink RJx4a65c 48 "java/util/ArrayList" "size" "I", Cond.methodLink RL 64 yL_setPlan]
def wsL_law0_r4 : List Cond := [Cond.static yL_setPlan, Cond.codeWith yL_setPlan cL_setPlan 6 (some .int) [(0, 10, 11, 14)], Cond.classLink RL 14 "java/lang/IllegalArgumentException", Cond.methodLink RL 8 yX4_setPlan, Cond.instanceMethod yX4_setPlan, Cond.selects RX4 yX4_setPlan yX4_setPlan, Cond.code yX4_setPlan cX4_setPlan 6 none, Cond.methodLink RX4 35 yX4_planAt, Cond.instanceMethod yX4_planAt, Cond.selects RX4 yX4_planAt yX4_planAt, Cond.code yX4_planAt cX4_planAt 2 (some (.object "TollGateway$Plan")), Cond.classLink RX4 177 "java/lang/IllegalArgumentException", Cond.initialized "java/lang/IllegalArgumentException", Cond.methodLink RX4 39 yX4_refuseOutside, Cond.static yX4_refuseOutside, Cond.code yX4_refuseOutside cX4_refuseOutside 3 none, Cond.methodLink RL 67 yL_setRoute, Cond.static yL_setRoute, Cond.codeWith yL_setRoute cL_setRoute 5 (some .int) [(0, 8, 9, 14)], Cond.methodLink RL 17 yX4_setRoute, Cond.instanceMethod yX4_setRoute, Cond.selects RX4 yX4_setRoute yX4_setRoute, Cond.code yX4_setRoute cX4_setRoute 5 none, Cond.methodLink RX4 53 yX4_routeAt]
def wsL_law0_r5 : List Cond := [Cond.instanceMethod yX4_routeAt, Cond.selects RX4 yX4_routeAt yX4_routeAt, Cond.code yX4_routeAt cX4_routeAt 2 (some (.object "TollGateway$Route")), Cond.methodLink RL 70 yL_addKey, Cond.static yL_addKey, Cond.codeWith yL_addKey cL_addKey 3 (some .int) [(0, 5, 6, 14), (0, 5, 10, 25)], Cond.classLink RL 25 "java/lang/IllegalStateException", Cond.methodLink RL 21 yX4_addKey, Cond.instanceMethod yX4_addKey, Cond.selects RX4 yX4_addKey yX4_addKey, Cond.code yX4_addKey cX4_addKey 3 (some .int), Cond.classLink RX4 66 "java/lang/IllegalStateException", Cond.initialized "java/lang/IllegalStateException", Cond.classLink RX4 73 RX1, Cond.instantiable RX1 9, Cond.initialized RX1, Cond.instanceMethod yX1_init, Cond.code yX1_init cX1_init 2 none, Cond.methodLink RX1 1 objectInit, Cond.fieldLink RX1 7 "TollGateway$Key" "plan" "LTollGateway$Plan;", Cond.fieldLink RX1 19 "TollGateway$Key" "tokens" "I", Cond.methodLink RX4 78 yJx4a65c_add_9ea2d, Cond.instanceMethod yJx4a65c_add_9ea2d, Cond.selects RJx4a65c yJx4a65c_add_9ea2d yJx4a65c_add_9ea2d]
def wsL_law0_r6 : List Cond := [Cond.code yJx4a65c_add_9ea2d cJx4a65c_add_9ea2d 2 (some .boolean), Cond.fieldLink RJx4a65c 63 "java/util/ArrayList" "modCount" "I", Cond.sameField "java/util/ArrayList" "java/util/AbstractList" "modCount" "I", Cond.methodLink RJx4a65c 131 yJx4a65c_add_72be8, Cond.instanceMethod yJx4a65c_add_72be8, Cond.selects RJx4a65c yJx4a65c_add_72be8 yJx4a65c_add_72be8, Cond.code yJx4a65c_add_72be8 cJx4a65c_add_72be8 4 none, Cond.methodLink RJx4a65c 129 yJx4a65c_grow_d5877, Cond.instanceMethod yJx4a65c_grow_d5877, Cond.selects RJx4a65c yJx4a65c_grow_d5877 yJx4a65c_grow_d5877, Cond.code yJx4a65c_grow_d5877 cJx4a65c_grow_d5877 1 (some (.array (.object "java/lang/Object"))), Cond.methodLink RJx4a65c 69 yJx4a65c_grow_92f84, Cond.instanceMethod yJx4a65c_grow_92f84, Cond.selects RJx4a65c yJx4a65c_grow_92f84 yJx4a65c_grow_92f84, Cond.code yJx4a65c_grow_92f84 cJx4a65c_grow_92f84 4 (some (.array (.object "java/lang/Object"))), Cond.methodLink RJx4a65c 79 Lib.Math.max.name, Cond.static Lib.Math.max.name, Cond.initialized "java/lang/Math", Cond.code Lib.Math.max.name Lib.Math.max.code 2 (some .int), Cond.classLink RJx4a65c 7 "java/lang/Object", Cond.methodLink RJx4a65c 73 yJ8_newLength_cabcc, Cond.static yJ8_newLength_cabcc, Cond.initialized RJ8, Cond.code yJ8_newLength_cabcc cJ8_newLength_cabcc 4 (some .int)]
def wsL_law0_r7 : List Cond := [Cond.methodLink RJ8 194 Lib.Math.max.name, Cond.constant RJ8 200 (2147483639), Cond.methodLink RJ8 201 yJ8_hugeLength_7cf53, Cond.static yJ8_hugeLength_7cf53, Cond.code yJ8_hugeLength_7cf53 cJ8_hugeLength_7cf53 3 (some .int), Cond.methodLink RJx4a65c 66 yJ7_copyOf_1904c, Cond.static yJ7_copyOf_1904c, Cond.initialized RJ7, Cond.code yJ7_copyOf_1904c cJ7_copyOf_1904c 2 (some (.array (.object "java/lang/Object"))), Cond.methodLink RJ7 86 ⟨"java/lang/Object", "getClass", "()Ljava/lang/Class;"⟩, Cond.selects "[Ljava/lang/Object;" ⟨"java/lang/Object", "getClass", "()Ljava/lang/Class;"⟩ ⟨"java/lang/Object", "getClass", "()Ljava/lang/Class;"⟩, Cond.instanceMethod ⟨"java/lang/Object", "getClass", "()Ljava/lang/Class;"⟩, Cond.native ⟨"java/lang/Object", "getClass", "()Ljava/lang/Class;"⟩, Cond.methodLink RJ7 300 yJ7_copyOf_6403c, Cond.static yJ7_copyOf_6403c, Cond.code yJ7_copyOf_6403c cJ7_copyOf_6403c 4 (some (.array (.object "java/lang/Object"))), Cond.classLink RJ7 110 "[Ljava/lang/Object;", Cond.classLink RJ7 2 "java/lang/Object", Cond.methodLink RJ7 304 Lib.Math.min.name, Cond.static Lib.Math.min.name, Cond.code Lib.Math.min.name Lib.Math.min.code 2 (some .int), Cond.methodLink RJ7 150 arraycopyName, Cond.native arraycopyName, Cond.static arraycopyName]
def wsL_law0_r8 : List Cond := [Cond.initialized "java/lang/System", Cond.methodLink RL 73 yL_setKeyPlan, Cond.static yL_setKeyPlan, Cond.codeWith yL_setKeyPlan cL_setKeyPlan 4 (some .int) [(0, 6, 7, 31), (0, 6, 11, 14)], Cond.classLink RL 31 "java/lang/IndexOutOfBoundsException", Cond.methodLink RL 27 yX4_setKeyPlan, Cond.instanceMethod yX4_setKeyPlan, Cond.selects RX4 yX4_setKeyPlan yX4_setKeyPlan, Cond.code yX4_setKeyPlan cX4_setKeyPlan 6 (some .int), Cond.methodLink RX4 82 yX4_keyAt, Cond.instanceMethod yX4_keyAt, Cond.selects RX4 yX4_keyAt yX4_keyAt, Cond.code yX4_keyAt cX4_keyAt 2 (some (.object "TollGateway$Key")), Cond.classLink RX4 184 "java/lang/IndexOutOfBoundsException", Cond.initialized "java/lang/IndexOutOfBoundsException", Cond.classLink RX4 73 "TollGateway$Key", Cond.methodLink RX4 189 yJx4a65c_get_915e3, Cond.instanceMethod yJx4a65c_get_915e3, Cond.selects RJx4a65c yJx4a65c_get_915e3 yJx4a65c_get_915e3, Cond.code yJx4a65c_get_915e3 cJx4a65c_get_915e3 2 (some (.object "java/lang/Object")), Cond.methodLink RJx4a65c 118 yJ15_checkIndex_7cf53, Cond.static yJ15_checkIndex_7cf53, Cond.initialized RJ15, Cond.code yJ15_checkIndex_7cf53 cJ15_checkIndex_7cf53 2 (some .int)]
def wsL_law0_r9 : List Cond := [Cond.methodLink RJ15 105 yJ3_checkIndex_8e157, Cond.static yJ3_checkIndex_8e157, Cond.initialized RJ3, Cond.code yJ3_checkIndex_8e157 cJ3_checkIndex_8e157 3 (some .int), Cond.methodLink RJx4a65c 123 yJx4a65c_elementData_915e3, Cond.instanceMethod yJx4a65c_elementData_915e3, Cond.selects RJx4a65c yJx4a65c_elementData_915e3 yJx4a65c_elementData_915e3, Cond.code yJx4a65c_elementData_915e3 cJx4a65c_elementData_915e3 2 (some (.object "java/lang/Object")), Cond.methodLink RL 76 yL_setTrust, Cond.static yL_setTrust, Cond.codeWith yL_setTrust cL_setTrust 4 (some .int) [(0, 6, 7, 31), (0, 6, 11, 14)], Cond.methodLink RL 33 yX4_setTrust, Cond.instanceMethod yX4_setTrust, Cond.selects RX4 yX4_setTrust yX4_setTrust, Cond.code yX4_setTrust cX4_setTrust 5 (some .int), Cond.methodLink RL 79 yL_pay, Cond.static yL_pay, Cond.codeWith yL_pay cL_pay 4 (some .int) [(0, 6, 7, 31), (0, 6, 11, 14)], Cond.methodLink RL 36 yX4_pay, Cond.instanceMethod yX4_pay, Cond.selects RX4 yX4_pay yX4_pay, Cond.code yX4_pay cX4_pay 4 (some .int), Cond.constant RX4 96 (100000), Cond.instanceMethod yX1_receive]
def wsL_law0_r10 : List Cond := [Cond.selects RX1 yX1_receive yX1_receive, Cond.code yX1_receive cX1_receive 3 none, Cond.fieldLink RX1 22 "TollGateway$Key" "debt" "I", Cond.methodLink RX1 25 Lib.Math.min.name, Cond.fieldLink RX1 31 "TollGateway$Key" "credit" "I", Cond.methodLink RL 81 yL_end, Cond.static yL_end, Cond.codeWith yL_end cL_end 4 (some .int) [(0, 6, 7, 31), (0, 6, 11, 14), (0, 6, 15, 25)], Cond.methodLink RL 43 yX4_end, Cond.instanceMethod yX4_end, Cond.selects RX4 yX4_end yX4_end, Cond.code yX4_end cX4_end 4 (some .int), Cond.fieldLink RX4 120 "TollGateway" "tick" "I", Cond.methodLink RX4 126 yX4_callAt, Cond.instanceMethod yX4_callAt, Cond.selects RX4 yX4_callAt yX4_callAt, Cond.code yX4_callAt cX4_callAt 2 (some (.object "TollGateway$Call")), Cond.classLink RX4 118 "TollGateway$Call", Cond.instanceMethod yX0_hasEnded, Cond.initialized RX0, Cond.selects RX0 yX0_hasEnded yX0_hasEnded, Cond.code yX0_hasEnded cX0_hasEnded 1 (some .boolean), Cond.fieldLink RX0 9 "TollGateway$Call" "cost" "I", Cond.instanceMethod yX0_settle]
def wsL_law0_r11 : List Cond := [Cond.selects RX0 yX0_settle yX0_settle, Cond.code yX0_settle cX0_settle 3 none, Cond.fieldLink RX0 32 "TollGateway$Call" "endTick" "I", Cond.fieldLink RX0 15 "TollGateway$Call" "key" "LTollGateway$Key;", Cond.fieldLink RX0 19 "TollGateway$Call" "worth" "I", Cond.methodLink RX0 28 yX0_costOf, Cond.instanceMethod yX0_costOf, Cond.selects RX0 yX0_costOf yX0_costOf, Cond.code yX0_costOf cX0_costOf 2 (some .int), Cond.instanceMethod yX1_closeHold, Cond.selects RX1 yX1_closeHold yX1_closeHold, Cond.code yX1_closeHold cX1_closeHold 3 none, Cond.fieldLink RX1 40 "TollGateway$Key" "held" "I", Cond.fieldLink RX1 43 "TollGateway$Key" "openHolds" "I", Cond.fieldLink RX1 46 "TollGateway$Key" "spent" "I", Cond.methodLink RX1 49 yX1_receive, Cond.methodLink RL 83 yL_dispute, Cond.static yL_dispute, Cond.codeWith yL_dispute cL_dispute 3 (some .int) [(0, 5, 6, 31), (0, 5, 10, 25)], Cond.methodLink RL 46 yX4_dispute, Cond.instanceMethod yX4_dispute, Cond.selects RX4 yX4_dispute yX4_dispute, Cond.code yX4_dispute cX4_dispute 3 (some .int), Cond.instanceMethod yX0_giveBack]
def wsL_law0_r12 : List Cond := [Cond.selects RX0 yX0_giveBack yX0_giveBack, Cond.code yX0_giveBack cX0_giveBack 2 (some .int), Cond.fieldLink RX0 41 "TollGateway$Call" "wasDisputed" "Z", Cond.fieldLink RX0 22 "TollGateway$Call" "weight" "I", Cond.methodLink RL 85 yL_pass, Cond.static yL_pass, Cond.codeWith yL_pass cL_pass 3 (some .int) [(0, 5, 6, 14)], Cond.methodLink RL 49 yX4_pass, Cond.instanceMethod yX4_pass, Cond.selects RX4 yX4_pass yX4_pass, Cond.code yX4_pass cX4_pass 4 (some .int), Cond.methodLink RX4 159 yX4_runOutHolds, Cond.instanceMethod yX4_runOutHolds, Cond.selects RX4 yX4_runOutHolds yX4_runOutHolds, Cond.code yX4_runOutHolds cX4_runOutHolds 3 (some .int), Cond.fieldLink RX4 197 "TollGateway" "nextToRunOut" "I", Cond.methodLink RX4 162 yX4_refillBuckets, Cond.instanceMethod yX4_refillBuckets, Cond.selects RX4 yX4_refillBuckets yX4_refillBuckets, Cond.code yX4_refillBuckets cX4_refillBuckets 2 none, Cond.instanceMethod yX1_refillBucket, Cond.selects RX1 yX1_refillBucket yX1_refillBucket, Cond.code yX1_refillBucket cX1_refillBucket 2 none, Cond.methodLink RX1 53 yX1_refillsSlowly]
def wsL_law0_r13 : List Cond := [Cond.instanceMethod yX1_refillsSlowly, Cond.selects RX1 yX1_refillsSlowly yX1_refillsSlowly, Cond.code yX1_refillsSlowly cX1_refillsSlowly 1 (some .boolean), Cond.methodLink RL 87 yL_call, Cond.static yL_call, Cond.codeWith yL_call cL_call 5 (some .int) [(0, 7, 8, 31), (0, 7, 13, 14), (0, 7, 18, 25)], Cond.methodLink RL 39 yX4_call, Cond.instanceMethod yX4_call, Cond.selects RX4 yX4_call yX4_call, Cond.code yX4_call cX4_call 7 (some .int), Cond.classLink RX4 118 RX0, Cond.instantiable RX0 7, Cond.instanceMethod yX1_canCover, Cond.selects RX1 yX1_canCover yX1_canCover, Cond.code yX1_canCover cX1_canCover 3 (some .boolean), Cond.fieldLink RX1 34 "TollGateway$Key" "trustLine" "I", Cond.methodLink RX1 37 Lib.Math.max.name, Cond.instanceMethod yX1_openHold, Cond.selects RX1 yX1_openHold yX1_openHold, Cond.code yX1_openHold cX1_openHold 3 none, Cond.instanceMethod yX0_init, Cond.code yX0_init cX0_init 5 none, Cond.methodLink RX0 3 objectInit, Cond.fieldLink RX0 25 "TollGateway$Call" "dueTick" "I"]
def wsL_law0_r14 : List Cond := [Cond.methodLink RL 124 yL_areAlike, Cond.static yL_areAlike, Cond.code yL_areAlike cL_areAlike 4 (some .boolean), Cond.methodLink RL 89 yX4_now, Cond.instanceMethod yX4_now, Cond.selects RX4 yX4_now yX4_now, Cond.code yX4_now cX4_now 1 (some .int), Cond.methodLink RL 92 yL_credit, Cond.static yL_credit, Cond.codeWith yL_credit cL_credit 3 (some .int) [(0, 5, 6, 31)], Cond.methodLink RL 52 yX4_credit, Cond.instanceMethod yX4_credit, Cond.selects RX4 yX4_credit yX4_credit, Cond.code yX4_credit cX4_credit 2 (some .int), Cond.methodLink RL 94 yX4_debt, Cond.instanceMethod yX4_debt, Cond.selects RX4 yX4_debt yX4_debt, Cond.code yX4_debt cX4_debt 2 (some .int), Cond.methodLink RL 97 yX4_held, Cond.instanceMethod yX4_held, Cond.selects RX4 yX4_held yX4_held, Cond.code yX4_held cX4_held 2 (some .int), Cond.methodLink RL 100 yX4_tokens, Cond.instanceMethod yX4_tokens]
def wsL_law0_r15 : List Cond := [Cond.selects RX4 yX4_tokens yX4_tokens, Cond.code yX4_tokens cX4_tokens 2 (some .int), Cond.methodLink RL 103 yX4_spent, Cond.instanceMethod yX4_spent, Cond.selects RX4 yX4_spent yX4_spent, Cond.code yX4_spent cX4_spent 2 (some .int), Cond.methodLink RL 106 yX4_isSlowed, Cond.instanceMethod yX4_isSlowed, Cond.selects RX4 yX4_isSlowed yX4_isSlowed, Cond.code yX4_isSlowed cX4_isSlowed 2 (some .boolean), Cond.methodLink RL 128 yL_areKeysSo, Cond.static yL_areKeysSo, Cond.code yL_areKeysSo cL_areKeysSo 5 (some .boolean), Cond.methodLink RL 110 yX4_paid, Cond.instanceMethod yX4_paid, Cond.selects RX4 yX4_paid yX4_paid, Cond.code yX4_paid cX4_paid 2 (some .int), Cond.methodLink RL 113 yX4_cost, Cond.instanceMethod yX4_cost, Cond.selects RX4 yX4_cost yX4_cost, Cond.code yX4_cost cX4_cost 2 (some .int)]
def wsL_law0 : List Cond := (wsL_law0_r1 ++ (wsL_law0_r2 ++ (wsL_law0_r3 ++ (wsL_law0_r4 ++ (wsL_law0_r5 ++ (wsL_law0_r6 ++ (wsL_law0_r7 ++ (wsL_law0_r8 ++ (wsL_law0_r9 ++ (wsL_law0_r10 ++ (wsL_law0_r11 ++ (wsL_law0_r12 ++ (wsL_law0_r13 ++ (wsL_law0_r14 ++ wsL_law0_r15)))))))))))))) ++ wsX40 ++ wsJx4a65c0 ++ wsX20 ++ wsX30 ++ wsX10 ++ wsX00 ++ ([] : List Cond)
def wsL_law : List Cond := wsL_law0 ++ (vx_atS RX4 181 "java/lang/IllegalArgumentException" ["java/lang/RuntimeException", "java/lang/Exception"]).filter goodWord ++ (vx_atS RX4 70 "java/lang/IllegalStateException" ["java/lang/RuntimeException", "java/lang/Exception"]).filter goodWord ++ (vx_atS RX4 188 "java/lang/IndexOutOfBoundsException" ["java/lang/RuntimeException", "java/lang/Exception"]).filter goodWord
end
section
set_option maxRecDepth 20000 in
theorem wsL_law_in0_r1 : ∀ w ∈ wsL_law0_r1, w ∈ lw_tbl := fun w h => (goodIn_p wsL_law0_r1 [45, 48] (by decide +kernel) (by decide +kernel) w h).1
set_option maxRecDepth 20000 in
theorem wsL_law_in0_r2 : ∀ w ∈ wsL_law0_r2, w ∈ lw_tbl := fun w h => (goodIn_p wsL_law0_r2 [57, 60, 63, 82, 107] (by decide +kernel) (by decide +kernel) w h).1
set_option maxRecDepth 20000 in
theorem wsL_law_in0_r3 : ∀ w ∈ wsL_law0_r3, w ∈ lw_tbl := fun w h => (goodIn_p wsL_law0_r3 [312, 323, 326, 276, 219] (by decide +kernel) (by decide +kernel) w h).1
set_option maxRecDepth 20000 in
theorem wsL_law_in0_r4 : ∀ w ∈ wsL_law0_r4, w ∈ lw_tbl := fun w h => (goodIn_p wsL_law0_r4 [335, 339, 143, 348] (by decide +kernel) (by decide +kernel) w h).1
set_option maxRecDepth 20000 in
theorem wsL_law_in0_r5 : ∀ w ∈ wsL_law0_r5, w ∈ lw_tbl := fun w h => (goodIn_p wsL_law0_r5 [352, 361, 380] (by decide +kernel) (by decide +kernel) w h).1
set_option maxRecDepth 20000 in
theorem wsL_law_in0_r6 : ∀ w ∈ wsL_law0_r6, w ∈ lw_tbl := fun w h => (goodIn_p wsL_law0_r6 [422, 426, 430, 434, 440, 437] (by decide +kernel) (by decide +kernel) w h).1
set_option maxRecDepth 20000 in
theorem wsL_law_in0_r7 : ∀ w ∈ wsL_law0_r7, w ∈ lw_tbl := fun w h => (goodIn_p wsL_law0_r7 [444, 447, 463, 259] (by decide +kernel) (by decide +kernel) w h).1
set_option maxRecDepth 20000 in
theorem wsL_law_in0_r8 : ∀ w ∈ wsL_law0_r8, w ∈ lw_tbl := fun w h => (goodIn_p wsL_law0_r8 [479, 284, 223, 226] (by decide +kernel) (by decide +kernel) w h).1
set_option maxRecDepth 20000 in
theorem wsL_law_in0_r9 : ∀ w ∈ wsL_law0_r9, w ∈ lw_tbl := fun w h => (goodIn_p wsL_law0_r9 [229, 233, 486, 494] (by decide +kernel) (by decide +kernel) w h).1
set_option maxRecDepth 20000 in
theorem wsL_law_in0_r10 : ∀ w ∈ wsL_law0_r10, w ∈ lw_tbl := fun w h => (goodIn_p wsL_law0_r10 [256, 503, 308, 239] (by decide +kernel) (by decide +kernel) w h).1
set_option maxRecDepth 20000 in
theorem wsL_law_in0_r11 : ∀ w ∈ wsL_law0_r11, w ∈ lw_tbl := fun w h => (goodIn_p wsL_law0_r11 [243, 247, 252, 511] (by decide +kernel) (by decide +kernel) w h).1
set_option maxRecDepth 20000 in
theorem wsL_law_in0_r12 : ∀ w ∈ wsL_law0_r12, w ∈ lw_tbl := fun w h => (goodIn_p wsL_law0_r12 [518, 140, 215, 263, 268] (by decide +kernel) (by decide +kernel) w h).1
set_option maxRecDepth 20000 in
theorem wsL_law_in0_r13 : ∀ w ∈ wsL_law0_r13, w ∈ lw_tbl := fun w h => (goodIn_p wsL_law0_r13 [272, 529, 534, 539, 542] (by decide +kernel) (by decide +kernel) w h).1
set_option maxRecDepth 20000 in
theorem wsL_law_in0_r14 : ∀ w ∈ wsL_law0_r14, w ∈ lw_tbl := fun w h => (goodIn_p wsL_law0_r14 [572, 576, 320, 580, 280] (by decide +kernel) (by decide +kernel) w h).1
set_option maxRecDepth 20000 in
theorem wsL_law_in0_r15 : ∀ w ∈ wsL_law0_r15, w ∈ lw_tbl := fun w h => (goodIn_p wsL_law0_r15 [584, 588, 592, 596, 600, 304] (by decide +kernel) (by decide +kernel) w h).1
set_option maxRecDepth 20000 in
theorem wsL_law_in0_wsX40 : ∀ w ∈ wsX40, w ∈ lw_tbl := by decide +kernel
set_option maxRecDepth 20000 in
theorem wsL_law_in0_wsJx4a65c0 : ∀ w ∈ wsJx4a65c0, w ∈ lw_tbl := by decide +kernel
set_option maxRecDepth 20000 in
theorem wsL_law_in0_wsX20 : ∀ w ∈ wsX20, w ∈ lw_tbl := by decide +kernel
set_option maxRecDepth 20000 in
theorem wsL_law_in0_wsX30 : ∀ w ∈ wsX30, w ∈ lw_tbl := by decide +kernel
set_option maxRecDepth 20000 in
theorem wsL_law_in0_wsX10 : ∀ w ∈ wsX10, w ∈ lw_tbl := by decide +kernel
set_option maxRecDepth 20000 in
theorem wsL_law_in0_wsX00 : ∀ w ∈ wsX00, w ∈ lw_tbl := by decide +kernel
theorem wsL_law_in0 : ∀ w ∈ wsL_law0, w ∈ lw_tbl := by
  show ∀ w ∈ _ , w ∈ lw_tbl
  unfold wsL_law0
  exact (List.forall_mem_append.mpr ⟨(List.forall_mem_append.mpr ⟨(List.forall_mem_append.mpr ⟨(List.forall_mem_append.mpr ⟨(List.forall_mem_append.mpr ⟨(List.forall_mem_append.mpr ⟨(List.forall_mem_append.mpr ⟨(List.forall_mem_append.mpr ⟨wsL_law_in0_r1, (List.forall_mem_append.mpr ⟨wsL_law_in0_r2, (List.forall_mem_append.mpr ⟨wsL_law_in0_r3, (List.forall_mem_append.mpr ⟨wsL_law_in0_r4, (List.forall_mem_append.mpr ⟨wsL_law_in0_r5, (List.forall_mem_append.mpr ⟨wsL_law_in0_r6, (List.forall_mem_append.mpr ⟨wsL_law_in0_r7, (List.forall_mem_append.mpr ⟨wsL_law_in0_r8, (List.forall_mem_append.mpr ⟨wsL_law_in0_r9, (List.forall_mem_append.mpr ⟨wsL_law_in0_r10, (List.forall_mem_append.mpr ⟨wsL_law_in0_r11, (List.forall_mem_append.mpr ⟨wsL_law_in0_r12, (List.forall_mem_append.mpr ⟨wsL_law_in0_r13, (List.forall_mem_append.mpr ⟨wsL_law_in0_r14, wsL_law_in0_r15⟩)⟩)⟩)⟩)⟩)⟩)⟩)⟩)⟩)⟩)⟩)⟩)⟩)⟩), wsL_law_in0_wsX40⟩), wsL_law_in0_wsJx4a65c0⟩), wsL_law_in0_wsX20⟩), wsL_law_in0_wsX30⟩), wsL_law_in0_wsX10⟩), wsL_law_in0_wsX00⟩), (fun _ h => absurd h List.not_mem_nil)⟩)
theorem wsL_law_x0 : ∀ w ∈ (vx_atS RX4 181 "java/lang/IllegalArgumentException" ["java/lang/RuntimeException", "java/lang/Exception"]).filter goodWord, w ∈ lw_tbl := by decide +kernel
theorem wsL_law_x1 : ∀ w ∈ (vx_atS RX4 70 "java/lang/IllegalStateException" ["java/lang/RuntimeException", "java/lang/Exception"]).filter goodWord, w ∈ lw_tbl := by decide +kernel
theorem wsL_law_x2 : ∀ w ∈ (vx_atS RX4 188 "java/lang/IndexOutOfBoundsException" ["java/lang/RuntimeException", "java/lang/Exception"]).filter goodWord, w ∈ lw_tbl := by decide +kernel
theorem wsL_law_in : ∀ w ∈ wsL_law, w ∈ lw_tbl := fun w h => (List.mem_append.mp h).elim (fun h => (List.mem_append.mp h).elim (fun h => (List.mem_append.mp h).elim (fun h => wsL_law_in0 w h) (fun h => wsL_law_x0 w h)) (fun h => wsL_law_x1 w h)) (fun h => wsL_law_x2 w h)
theorem inlX0 : ∀ w ∈ wsX00, w ∈ wsL_law := fun _ h => List.mem_append_left _ (List.mem_append_left _ (List.mem_append_left _ (List.mem_append_left _ (List.mem_append_right _ h))))
theorem inX0 : ∀ w ∈ wsX00, w ∈ lw_tbl := fun w h => wsL_law_in w (inlX0 w h)
theorem inlX1 : ∀ w ∈ wsX10, w ∈ wsL_law := fun _ h => List.mem_append_left _ (List.mem_append_left _ (List.mem_append_left _ (List.mem_append_left _ (List.mem_append_left _ (List.mem_append_right _ h)))))
theorem inX1 : ∀ w ∈ wsX10, w ∈ lw_tbl := fun w h => wsL_law_in w (inlX1 w h)
theorem inlX2 : ∀ w ∈ wsX20, w ∈ wsL_law := fun _ h => List.mem_append_left _ (List.mem_append_left _ (List.mem_append_left _ (List.mem_append_left _ (List.mem_append_left _ (List.mem_append_left _ (List.mem_append_left _ (List.mem_append_right _ h)))))))
theorem inX2 : ∀ w ∈ wsX20, w ∈ lw_tbl := fun w h => wsL_law_in w (inlX2 w h)
theorem inlX3 : ∀ w ∈ wsX30, w ∈ wsL_law := fun _ h => List.mem_append_left _ (List.mem_append_left _ (List.mem_append_left _ (List.mem_append_left _ (List.mem_append_left _ (List.mem_append_left _ (List.mem_append_right _ h))))))
theorem inX3 : ∀ w ∈ wsX30, w ∈ lw_tbl := fun w h => wsL_law_in w (inlX3 w h)
theorem inlX4 : ∀ w ∈ wsX40, w ∈ wsL_law := fun _ h => List.mem_append_left _ (List.mem_append_left _ (List.mem_append_left _ (List.mem_append_left _ (List.mem_append_left _ (List.mem_append_left _ (List.mem_append_left _ (List.mem_append_left _ (List.mem_append_left _ (List.mem_append_right _ h)))))))))
theorem inX4 : ∀ w ∈ wsX40, w ∈ lw_tbl := fun w h => wsL_law_in w (inlX4 w h)
theorem inX5 : ∀ w ∈ wsX50, w ∈ lw_tbl := by decide +kernel
theorem inJx145de : ∀ w ∈ wsJx145de0, w ∈ lw_tbl := by decide +kernel
theorem inJx8e188 : ∀ w ∈ wsJx8e1880, w ∈ lw_tbl := by decide +kernel
theorem inJxab1ab : ∀ w ∈ wsJxab1ab0, w ∈ lw_tbl := by decide +kernel
theorem inJ9 : ∀ w ∈ wsJ90, w ∈ lw_tbl := by decide +kernel
theorem inJ0 : ∀ w ∈ wsJ00, w ∈ lw_tbl := by decide +kernel
theorem inJ10 : ∀ w ∈ wsJ100, w ∈ lw_tbl := by decide +kernel
theorem inJxa1e45 : ∀ w ∈ wsJxa1e450, w ∈ lw_tbl := by decide +kernel
theorem inJxc12de : ∀ w ∈ wsJxc12de0, w ∈ lw_tbl := by decide +kernel
theorem inlJx4a65c : ∀ w ∈ wsJx4a65c0, w ∈ wsL_law := fun _ h => List.mem_append_left _ (List.mem_append_left _ (List.mem_append_left _ (List.mem_append_left _ (List.mem_append_left _ (List.mem_append_left _ (List.mem_append_left _ (List.mem_append_left _ (List.mem_append_right _ h))))))))
theorem inJx4a65c : ∀ w ∈ wsJx4a65c0, w ∈ lw_tbl := fun w h => wsL_law_in w (inlJx4a65c w h)
theorem inJ7 : ∀ w ∈ wsJ70, w ∈ lw_tbl := by decide +kernel
theorem inJx5ef63 : ∀ w ∈ wsJx5ef630, w ∈ lw_tbl := by decide +kernel
theorem inJxbd725 : ∀ w ∈ wsJxbd7250, w ∈ lw_tbl := by decide +kernel
theorem inJ15 : ∀ w ∈ wsJ150, w ∈ lw_tbl := by decide +kernel
theorem inJxf0a74 : ∀ w ∈ wsJxf0a740, w ∈ lw_tbl := by decide +kernel
theorem inJxa66e6 : ∀ w ∈ wsJxa66e60, w ∈ lw_tbl := by decide +kernel
theorem inJ8 : ∀ w ∈ wsJ80, w ∈ lw_tbl := by decide +kernel
theorem inJ3 : ∀ w ∈ wsJ30, w ∈ lw_tbl := by decide +kernel
end
section
theorem dX0_init_0 : decode cX0_init 0 = .ok (.aload_n 0, 1) := by decide +kernel
theorem dX0_init_1 : decode cX0_init 1 = .ok (.invokespecial 3, 3) := by decide +kernel
theorem dX0_init_4 : decode cX0_init 4 = .ok (.aload_n 0, 1) := by decide +kernel
theorem dX0_init_5 : decode cX0_init 5 = .ok (.iconst (-1), 1) := by decide +kernel
theorem dX0_init_6 : decode cX0_init 6 = .ok (.putfield 9, 3) := by decide +kernel
theorem dX0_init_9 : decode cX0_init 9 = .ok (.aload_n 0, 1) := by decide +kernel
theorem dX0_init_10 : decode cX0_init 10 = .ok (.aload_n 1, 1) := by decide +kernel
theorem dX0_init_11 : decode cX0_init 11 = .ok (.putfield 15, 3) := by decide +kernel
theorem dX0_init_14 : decode cX0_init 14 = .ok (.aload_n 0, 1) := by decide +kernel
theorem dX0_init_15 : decode cX0_init 15 = .ok (.iload_n 2, 1) := by decide +kernel
theorem dX0_init_16 : decode cX0_init 16 = .ok (.putfield 19, 3) := by decide +kernel
theorem dX0_init_19 : decode cX0_init 19 = .ok (.aload_n 0, 1) := by decide +kernel
theorem dX0_init_20 : decode cX0_init 20 = .ok (.iload_n 3, 1) := by decide +kernel
theorem dX0_init_21 : decode cX0_init 21 = .ok (.putfield 22, 3) := by decide +kernel
theorem dX0_init_24 : decode cX0_init 24 = .ok (.aload_n 0, 1) := by decide +kernel
theorem dX0_init_25 : decode cX0_init 25 = .ok (.iload 4, 2) := by decide +kernel
theorem dX0_init_27 : decode cX0_init 27 = .ok (.putfield 25, 3) := by decide +kernel
theorem dX0_init_30 : decode cX0_init 30 = .ok (.return_, 1) := by decide +kernel
theorem dX0_hasEnded_0 : decode cX0_hasEnded 0 = .ok (.aload_n 0, 1) := by decide +kernel
theorem dX0_hasEnded_1 : decode cX0_hasEnded 1 = .ok (.getfield 9, 3) := by decide +kernel
theorem dX0_hasEnded_4 : decode cX0_hasEnded 4 = .ok (.iconst (-1), 1) := by decide +kernel
theorem dX0_hasEnded_5 : decode cX0_hasEnded 5 = .ok (.if_icmp .eq 7, 3) := by decide +kernel
theorem dX0_hasEnded_8 : decode cX0_hasEnded 8 = .ok (.iconst 1, 1) := by decide +kernel
theorem dX0_hasEnded_9 : decode cX0_hasEnded 9 = .ok (.goto 4, 3) := by decide +kernel
theorem dX0_hasEnded_12 : decode cX0_hasEnded 12 = .ok (.iconst 0, 1) := by decide +kernel
theorem dX0_hasEnded_13 : decode cX0_hasEnded 13 = .ok (.ireturn, 1) := by decide +kernel
set_option maxRecDepth 20000 in
theorem ggX0_settle_X0_costOf : GoodIn wsX0_settle wsX0_costOf := goodIn_r _ [9, 4, 27, 28, 29, 30, 31, 32, 33] (by decide +kernel) (by decide +kernel)
set_option maxRecDepth 20000 in
theorem gX0_settle_X0_costOf : GoodIn wsX0_settle (wsV RX0 28 RX0 yX0_costOf wsX0_costOf) := goodIn_app (goodIn_of _ (by decide +kernel)) ggX0_settle_X0_costOf
set_option maxRecDepth 20000 in
theorem ggX0_settle_X1_closeHold : GoodIn wsX0_settle wsX1_closeHold := goodIn_r _ [13, 14, 15, 16, 17, 18, 19, 11, 20, 21, 22, 23, 24, 25, 26, 34, 35, 36, 37, 38, 39, 40, 41, 42] (by decide +kernel) (by decide +kernel)
set_option maxRecDepth 20000 in
theorem gX0_settle_X1_closeHold_n35 : GoodIn wsX0_settle (wsX1_closeHold) := ggX0_settle_X1_closeHold
theorem dX0_settle_0 : decode cX0_settle 0 = .ok (.aload_n 0, 1) := by decide +kernel
theorem dX0_settle_1 : decode cX0_settle 1 = .ok (.aload_n 0, 1) := by decide +kernel
theorem dX0_settle_2 : decode cX0_settle 2 = .ok (.iload_n 1, 1) := by decide +kernel
theorem dX0_settle_3 : decode cX0_settle 3 = .ok (.invokevirtual 28, 3) := by decide +kernel
theorem dX0_settle_6 : decode cX0_settle 6 = .ok (.putfield 9, 3) := by decide +kernel
theorem dX0_settle_9 : decode cX0_settle 9 = .ok (.aload_n 0, 1) := by decide +kernel
theorem dX0_settle_10 : decode cX0_settle 10 = .ok (.iload_n 2, 1) := by decide +kernel
theorem dX0_settle_11 : decode cX0_settle 11 = .ok (.putfield 32, 3) := by decide +kernel
theorem dX0_settle_14 : decode cX0_settle 14 = .ok (.aload_n 0, 1) := by decide +kernel
theorem dX0_settle_15 : decode cX0_settle 15 = .ok (.getfield 15, 3) := by decide +kernel
theorem dX0_settle_18 : decode cX0_settle 18 = .ok (.aload_n 0, 1) := by decide +kernel
theorem dX0_settle_19 : decode cX0_settle 19 = .ok (.getfield 19, 3) := by decide +kernel
theorem dX0_settle_22 : decode cX0_settle 22 = .ok (.aload_n 0, 1) := by decide +kernel
theorem dX0_settle_23 : decode cX0_settle 23 = .ok (.getfield 9, 3) := by decide +kernel
theorem dX0_settle_26 : decode cX0_settle 26 = .ok (.invokevirtual 35, 3) := by decide +kernel
theorem dX0_settle_29 : decode cX0_settle 29 = .ok (.return_, 1) := by decide +kernel
theorem dX0_costOf_0 : decode cX0_costOf 0 = .ok (.iload_n 1, 1) := by decide +kernel
theorem dX0_costOf_1 : decode cX0_costOf 1 = .ok (.ifCond .ne 8, 3) := by decide +kernel
theorem dX0_costOf_4 : decode cX0_costOf 4 = .ok (.aload_n 0, 1) := by decide +kernel
theorem dX0_costOf_5 : decode cX0_costOf 5 = .ok (.getfield 19, 3) := by decide +kernel
theorem dX0_costOf_8 : decode cX0_costOf 8 = .ok (.ireturn, 1) := by decide +kernel
theorem dX0_costOf_9 : decode cX0_costOf 9 = .ok (.iload_n 1, 1) := by decide +kernel
theorem dX0_costOf_10 : decode cX0_costOf 10 = .ok (.iconst 1, 1) := by decide +kernel
theorem dX0_costOf_11 : decode cX0_costOf 11 = .ok (.if_icmp .ne 14, 3) := by decide +kernel
theorem dX0_costOf_14 : decode cX0_costOf 14 = .ok (.aload_n 0, 1) := by decide +kernel
theorem dX0_costOf_15 : decode cX0_costOf 15 = .ok (.getfield 19, 3) := by decide +kernel
theorem dX0_costOf_18 : decode cX0_costOf 18 = .ok (.iconst 1, 1) := by decide +kernel
theorem dX0_costOf_19 : decode cX0_costOf 19 = .ok (.iadd, 1) := by decide +kernel
theorem dX0_costOf_20 : decode cX0_costOf 20 = .ok (.iconst 2, 1) := by decide +kernel
theorem dX0_costOf_21 : decode cX0_costOf 21 = .ok (.idiv, 1) := by decide +kernel
theorem dX0_costOf_22 : decode cX0_costOf 22 = .ok (.goto 4, 3) := by decide +kernel
theorem dX0_costOf_25 : decode cX0_costOf 25 = .ok (.iconst 0, 1) := by decide +kernel
theorem dX0_costOf_26 : decode cX0_costOf 26 = .ok (.ireturn, 1) := by decide +kernel
set_option maxRecDepth 20000 in
theorem ggX0_giveBack_X1_receive : GoodIn wsX0_giveBack wsX1_receive := goodIn_r _ [8, 9, 10, 11, 12, 13, 14, 22, 23, 24, 25, 26, 27, 28, 29, 30] (by decide +kernel) (by decide +kernel)
set_option maxRecDepth 20000 in
theorem gX0_giveBack_X1_receive_n48 : GoodIn wsX0_giveBack (wsX1_receive) := ggX0_giveBack_X1_receive
theorem dX0_giveBack_0 : decode cX0_giveBack 0 = .ok (.aload_n 0, 1) := by decide +kernel
theorem dX0_giveBack_1 : decode cX0_giveBack 1 = .ok (.getfield 9, 3) := by decide +kernel
theorem dX0_giveBack_4 : decode cX0_giveBack 4 = .ok (.istore_n 1, 1) := by decide +kernel
theorem dX0_giveBack_5 : decode cX0_giveBack 5 = .ok (.aload_n 0, 1) := by decide +kernel
theorem dX0_giveBack_6 : decode cX0_giveBack 6 = .ok (.iconst 0, 1) := by decide +kernel
theorem dX0_giveBack_7 : decode cX0_giveBack 7 = .ok (.putfield 9, 3) := by decide +kernel
theorem dX0_giveBack_10 : decode cX0_giveBack 10 = .ok (.aload_n 0, 1) := by decide +kernel
theorem dX0_giveBack_11 : decode cX0_giveBack 11 = .ok (.iconst 1, 1) := by decide +kernel
theorem dX0_giveBack_12 : decode cX0_giveBack 12 = .ok (.putfield 41, 3) := by decide +kernel
theorem dX0_giveBack_15 : decode cX0_giveBack 15 = .ok (.aload_n 0, 1) := by decide +kernel
theorem dX0_giveBack_16 : decode cX0_giveBack 16 = .ok (.getfield 15, 3) := by decide +kernel
theorem dX0_giveBack_19 : decode cX0_giveBack 19 = .ok (.dup, 1) := by decide +kernel
theorem dX0_giveBack_20 : decode cX0_giveBack 20 = .ok (.getfield 45, 3) := by decide +kernel
theorem dX0_giveBack_23 : decode cX0_giveBack 23 = .ok (.iload_n 1, 1) := by decide +kernel
theorem dX0_giveBack_24 : decode cX0_giveBack 24 = .ok (.isub, 1) := by decide +kernel
theorem dX0_giveBack_25 : decode cX0_giveBack 25 = .ok (.putfield 45, 3) := by decide +kernel
theorem dX0_giveBack_28 : decode cX0_giveBack 28 = .ok (.aload_n 0, 1) := by decide +kernel
theorem dX0_giveBack_29 : decode cX0_giveBack 29 = .ok (.getfield 15, 3) := by decide +kernel
theorem dX0_giveBack_32 : decode cX0_giveBack 32 = .ok (.iload_n 1, 1) := by decide +kernel
theorem dX0_giveBack_33 : decode cX0_giveBack 33 = .ok (.invokevirtual 48, 3) := by decide +kernel
theorem dX0_giveBack_36 : decode cX0_giveBack 36 = .ok (.aload_n 0, 1) := by decide +kernel
theorem dX0_giveBack_37 : decode cX0_giveBack 37 = .ok (.getfield 15, 3) := by decide +kernel
theorem dX0_giveBack_40 : decode cX0_giveBack 40 = .ok (.dup, 1) := by decide +kernel
theorem dX0_giveBack_41 : decode cX0_giveBack 41 = .ok (.getfield 52, 3) := by decide +kernel
theorem dX0_giveBack_44 : decode cX0_giveBack 44 = .ok (.aload_n 0, 1) := by decide +kernel
theorem dX0_giveBack_45 : decode cX0_giveBack 45 = .ok (.getfield 22, 3) := by decide +kernel
theorem dX0_giveBack_48 : decode cX0_giveBack 48 = .ok (.iadd, 1) := by decide +kernel
theorem dX0_giveBack_49 : decode cX0_giveBack 49 = .ok (.putfield 52, 3) := by decide +kernel
theorem dX0_giveBack_52 : decode cX0_giveBack 52 = .ok (.iload_n 1, 1) := by decide +kernel
theorem dX0_giveBack_53 : decode cX0_giveBack 53 = .ok (.ireturn, 1) := by decide +kernel
theorem dX1_init_0 : decode cX1_init 0 = .ok (.aload_n 0, 1) := by decide +kernel
theorem dX1_init_1 : decode cX1_init 1 = .ok (.invokespecial 1, 3) := by decide +kernel
theorem dX1_init_4 : decode cX1_init 4 = .ok (.aload_n 0, 1) := by decide +kernel
theorem dX1_init_5 : decode cX1_init 5 = .ok (.aload_n 1, 1) := by decide +kernel
theorem dX1_init_6 : decode cX1_init 6 = .ok (.putfield 7, 3) := by decide +kernel
theorem dX1_init_9 : decode cX1_init 9 = .ok (.aload_n 0, 1) := by decide +kernel
theorem dX1_init_10 : decode cX1_init 10 = .ok (.aload_n 1, 1) := by decide +kernel
theorem dX1_init_11 : decode cX1_init 11 = .ok (.getfield 13, 3) := by decide +kernel
theorem dX1_init_14 : decode cX1_init 14 = .ok (.putfield 19, 3) := by decide +kernel
theorem dX1_init_17 : decode cX1_init 17 = .ok (.return_, 1) := by decide +kernel
theorem dX1_receive_0 : decode cX1_receive 0 = .ok (.aload_n 0, 1) := by decide +kernel
theorem dX1_receive_1 : decode cX1_receive 1 = .ok (.getfield 22, 3) := by decide +kernel
theorem dX1_receive_4 : decode cX1_receive 4 = .ok (.iload_n 1, 1) := by decide +kernel
theorem dX1_receive_5 : decode cX1_receive 5 = .ok (.invokestatic 25, 3) := by decide +kernel
theorem dX1_receive_8 : decode cX1_receive 8 = .ok (.istore_n 2, 1) := by decide +kernel
theorem dX1_receive_9 : decode cX1_receive 9 = .ok (.aload_n 0, 1) := by decide +kernel
theorem dX1_receive_10 : decode cX1_receive 10 = .ok (.dup, 1) := by decide +kernel
theorem dX1_receive_11 : decode cX1_receive 11 = .ok (.getfield 22, 3) := by decide +kernel
theorem dX1_receive_14 : decode cX1_receive 14 = .ok (.iload_n 2, 1) := by decide +kernel
theorem dX1_receive_15 : decode cX1_receive 15 = .ok (.isub, 1) := by decide +kernel
theorem dX1_receive_16 : decode cX1_receive 16 = .ok (.putfield 22, 3) := by decide +kernel
theorem dX1_receive_19 : decode cX1_receive 19 = .ok (.aload_n 0, 1) := by decide +kernel
theorem dX1_receive_20 : decode cX1_receive 20 = .ok (.dup, 1) := by decide +kernel
theorem dX1_receive_21 : decode cX1_receive 21 = .ok (.getfield 31, 3) := by decide +kernel
theorem dX1_receive_24 : decode cX1_receive 24 = .ok (.iload_n 1, 1) := by decide +kernel
theorem dX1_receive_25 : decode cX1_receive 25 = .ok (.iload_n 2, 1) := by decide +kernel
theorem dX1_receive_26 : decode cX1_receive 26 = .ok (.isub, 1) := by decide +kernel
theorem dX1_receive_27 : decode cX1_receive 27 = .ok (.iadd, 1) := by decide +kernel
theorem dX1_receive_28 : decode cX1_receive 28 = .ok (.putfield 31, 3) := by decide +kernel
theorem dX1_receive_31 : decode cX1_receive 31 = .ok (.return_, 1) := by decide +kernel
theorem dX1_canCover_0 : decode cX1_canCover 0 = .ok (.iconst 0, 1) := by decide +kernel
theorem dX1_canCover_1 : decode cX1_canCover 1 = .ok (.aload_n 0, 1) := by decide +kernel
theorem dX1_canCover_2 : decode cX1_canCover 2 = .ok (.getfield 34, 3) := by decide +kernel
theorem dX1_canCover_5 : decode cX1_canCover 5 = .ok (.aload_n 0, 1) := by decide +kernel
theorem dX1_canCover_6 : decode cX1_canCover 6 = .ok (.getfield 22, 3) := by decide +kernel
theorem dX1_canCover_9 : decode cX1_canCover 9 = .ok (.isub, 1) := by decide +kernel
theorem dX1_canCover_10 : decode cX1_canCover 10 = .ok (.invokestatic 37, 3) := by decide +kernel
theorem dX1_canCover_13 : decode cX1_canCover 13 = .ok (.istore_n 2, 1) := by decide +kernel
theorem dX1_canCover_14 : decode cX1_canCover 14 = .ok (.aload_n 0, 1) := by decide +kernel
theorem dX1_canCover_15 : decode cX1_canCover 15 = .ok (.getfield 31, 3) := by decide +kernel
theorem dX1_canCover_18 : decode cX1_canCover 18 = .ok (.iload_n 2, 1) := by decide +kernel
theorem dX1_canCover_19 : decode cX1_canCover 19 = .ok (.iadd, 1) := by decide +kernel
theorem dX1_canCover_20 : decode cX1_canCover 20 = .ok (.iload_n 1, 1) := by decide +kernel
theorem dX1_canCover_21 : decode cX1_canCover 21 = .ok (.if_icmp .lt 7, 3) := by decide +kernel
theorem dX1_canCover_24 : decode cX1_canCover 24 = .ok (.iconst 1, 1) := by decide +kernel
theorem dX1_canCover_25 : decode cX1_canCover 25 = .ok (.goto 4, 3) := by decide +kernel
theorem dX1_canCover_28 : decode cX1_canCover 28 = .ok (.iconst 0, 1) := by decide +kernel
theorem dX1_canCover_29 : decode cX1_canCover 29 = .ok (.ireturn, 1) := by decide +kernel
theorem dX1_openHold_0 : decode cX1_openHold 0 = .ok (.aload_n 0, 1) := by decide +kernel
theorem dX1_openHold_1 : decode cX1_openHold 1 = .ok (.getfield 31, 3) := by decide +kernel
theorem dX1_openHold_4 : decode cX1_openHold 4 = .ok (.iload_n 1, 1) := by decide +kernel
theorem dX1_openHold_5 : decode cX1_openHold 5 = .ok (.invokestatic 25, 3) := by decide +kernel
theorem dX1_openHold_8 : decode cX1_openHold 8 = .ok (.istore_n 2, 1) := by decide +kernel
theorem dX1_openHold_9 : decode cX1_openHold 9 = .ok (.aload_n 0, 1) := by decide +kernel
theorem dX1_openHold_10 : decode cX1_openHold 10 = .ok (.dup, 1) := by decide +kernel
theorem dX1_openHold_11 : decode cX1_openHold 11 = .ok (.getfield 31, 3) := by decide +kernel
theorem dX1_openHold_14 : decode cX1_openHold 14 = .ok (.iload_n 2, 1) := by decide +kernel
theorem dX1_openHold_15 : decode cX1_openHold 15 = .ok (.isub, 1) := by decide +kernel
theorem dX1_openHold_16 : decode cX1_openHold 16 = .ok (.putfield 31, 3) := by decide +kernel
theorem dX1_openHold_19 : decode cX1_openHold 19 = .ok (.aload_n 0, 1) := by decide +kernel
theorem dX1_openHold_20 : decode cX1_openHold 20 = .ok (.dup, 1) := by decide +kernel
theorem dX1_openHold_21 : decode cX1_openHold 21 = .ok (.getfield 22, 3) := by decide +kernel
theorem dX1_openHold_24 : decode cX1_openHold 24 = .ok (.iload_n 1, 1) := by decide +kernel
theorem dX1_openHold_25 : decode cX1_openHold 25 = .ok (.iload_n 2, 1) := by decide +kernel
theorem dX1_openHold_26 : decode cX1_openHold 26 = .ok (.isub, 1) := by decide +kernel
theorem dX1_openHold_27 : decode cX1_openHold 27 = .ok (.iadd, 1) := by decide +kernel
theorem dX1_openHold_28 : decode cX1_openHold 28 = .ok (.putfield 22, 3) := by decide +kernel
theorem dX1_openHold_31 : decode cX1_openHold 31 = .ok (.aload_n 0, 1) := by decide +kernel
theorem dX1_openHold_32 : decode cX1_openHold 32 = .ok (.dup, 1) := by decide +kernel
theorem dX1_openHold_33 : decode cX1_openHold 33 = .ok (.getfield 40, 3) := by decide +kernel
theorem dX1_openHold_36 : decode cX1_openHold 36 = .ok (.iload_n 1, 1) := by decide +kernel
theorem dX1_openHold_37 : decode cX1_openHold 37 = .ok (.iadd, 1) := by decide +kernel
theorem dX1_openHold_38 : decode cX1_openHold 38 = .ok (.putfield 40, 3) := by decide +kernel
theorem dX1_openHold_41 : decode cX1_openHold 41 = .ok (.aload_n 0, 1) := by decide +kernel
theorem dX1_openHold_42 : decode cX1_openHold 42 = .ok (.dup, 1) := by decide +kernel
theorem dX1_openHold_43 : decode cX1_openHold 43 = .ok (.getfield 43, 3) := by decide +kernel
theorem dX1_openHold_46 : decode cX1_openHold 46 = .ok (.iconst 1, 1) := by decide +kernel
theorem dX1_openHold_47 : decode cX1_openHold 47 = .ok (.iadd, 1) := by decide +kernel
theorem dX1_openHold_48 : decode cX1_openHold 48 = .ok (.putfield 43, 3) := by decide +kernel
theorem dX1_openHold_51 : decode cX1_openHold 51 = .ok (.return_, 1) := by decide +kernel
set_option maxRecDepth 20000 in
theorem ggX1_closeHold_X1_receive : GoodIn wsX1_closeHold wsX1_receive := goodIn_r _ [8, 9, 10, 11, 12, 13, 14, 15, 16, 17, 18, 19, 20, 21, 22, 23] (by decide +kernel) (by decide +kernel)
set_option maxRecDepth 20000 in
theorem gX1_closeHold_X1_receive : GoodIn wsX1_closeHold (wsV RX1 49 RX1 yX1_receive wsX1_receive) := goodIn_app (goodIn_of _ (by decide +kernel)) ggX1_closeHold_X1_receive
theorem dX1_closeHold_0 : decode cX1_closeHold 0 = .ok (.aload_n 0, 1) := by decide +kernel
theorem dX1_closeHold_1 : decode cX1_closeHold 1 = .ok (.dup, 1) := by decide +kernel
theorem dX1_closeHold_2 : decode cX1_closeHold 2 = .ok (.getfield 40, 3) := by decide +kernel
theorem dX1_closeHold_5 : decode cX1_closeHold 5 = .ok (.iload_n 1, 1) := by decide +kernel
theorem dX1_closeHold_6 : decode cX1_closeHold 6 = .ok (.isub, 1) := by decide +kernel
theorem dX1_closeHold_7 : decode cX1_closeHold 7 = .ok (.putfield 40, 3) := by decide +kernel
theorem dX1_closeHold_10 : decode cX1_closeHold 10 = .ok (.aload_n 0, 1) := by decide +kernel
theorem dX1_closeHold_11 : decode cX1_closeHold 11 = .ok (.dup, 1) := by decide +kernel
theorem dX1_closeHold_12 : decode cX1_closeHold 12 = .ok (.getfield 43, 3) := by decide +kernel
theorem dX1_closeHold_15 : decode cX1_closeHold 15 = .ok (.iconst 1, 1) := by decide +kernel
theorem dX1_closeHold_16 : decode cX1_closeHold 16 = .ok (.isub, 1) := by decide +kernel
theorem dX1_closeHold_17 : decode cX1_closeHold 17 = .ok (.putfield 43, 3) := by decide +kernel
theorem dX1_closeHold_20 : decode cX1_closeHold 20 = .ok (.aload_n 0, 1) := by decide +kernel
theorem dX1_closeHold_21 : decode cX1_closeHold 21 = .ok (.dup, 1) := by decide +kernel
theorem dX1_closeHold_22 : decode cX1_closeHold 22 = .ok (.getfield 46, 3) := by decide +kernel
theorem dX1_closeHold_25 : decode cX1_closeHold 25 = .ok (.iload_n 2, 1) := by decide +kernel
theorem dX1_closeHold_26 : decode cX1_closeHold 26 = .ok (.iadd, 1) := by decide +kernel
theorem dX1_closeHold_27 : decode cX1_closeHold 27 = .ok (.putfield 46, 3) := by decide +kernel
theorem dX1_closeHold_30 : decode cX1_closeHold 30 = .ok (.aload_n 0, 1) := by decide +kernel
theorem dX1_closeHold_31 : decode cX1_closeHold 31 = .ok (.iload_n 1, 1) := by decide +kernel
theorem dX1_closeHold_32 : decode cX1_closeHold 32 = .ok (.iload_n 2, 1) := by decide +kernel
theorem dX1_closeHold_33 : decode cX1_closeHold 33 = .ok (.isub, 1) := by decide +kernel
theorem dX1_closeHold_34 : decode cX1_closeHold 34 = .ok (.invokevirtual 49, 3) := by decide +kernel
theorem dX1_closeHold_37 : decode cX1_closeHold 37 = .ok (.return_, 1) := by decide +kernel
theorem dX1_refillsSlowly_0 : decode cX1_refillsSlowly 0 = .ok (.aload_n 0, 1) := by decide +kernel
theorem dX1_refillsSlowly_1 : decode cX1_refillsSlowly 1 = .ok (.getfield 31, 3) := by decide +kernel
theorem dX1_refillsSlowly_4 : decode cX1_refillsSlowly 4 = .ok (.ifCond .ne 14, 3) := by decide +kernel
theorem dX1_refillsSlowly_7 : decode cX1_refillsSlowly 7 = .ok (.aload_n 0, 1) := by decide +kernel
theorem dX1_refillsSlowly_8 : decode cX1_refillsSlowly 8 = .ok (.getfield 43, 3) := by decide +kernel
theorem dX1_refillsSlowly_11 : decode cX1_refillsSlowly 11 = .ok (.ifCond .ne 7, 3) := by decide +kernel
theorem dX1_refillsSlowly_14 : decode cX1_refillsSlowly 14 = .ok (.iconst 1, 1) := by decide +kernel
theorem dX1_refillsSlowly_15 : decode cX1_refillsSlowly 15 = .ok (.goto 4, 3) := by decide +kernel
theorem dX1_refillsSlowly_18 : decode cX1_refillsSlowly 18 = .ok (.iconst 0, 1) := by decide +kernel
theorem dX1_refillsSlowly_19 : decode cX1_refillsSlowly 19 = .ok (.ireturn, 1) := by decide +kernel
set_option maxRecDepth 20000 in
theorem ggX1_refillBucket_X1_refillsSlowly : GoodIn wsX1_refillBucket wsX1_refillsSlowly := goodIn_r _ [11, 12, 13, 14, 15, 16, 17, 18, 19, 20, 21, 22] (by decide +kernel) (by decide +kernel)
set_option maxRecDepth 20000 in
theorem gX1_refillBucket_X1_refillsSlowly : GoodIn wsX1_refillBucket (wsV RX1 53 RX1 yX1_refillsSlowly wsX1_refillsSlowly) := goodIn_app (goodIn_of _ (by decide +kernel)) ggX1_refillBucket_X1_refillsSlowly
theorem dX1_refillBucket_0 : decode cX1_refillBucket 0 = .ok (.aload_n 0, 1) := by decide +kernel
theorem dX1_refillBucket_1 : decode cX1_refillBucket 1 = .ok (.getfield 19, 3) := by decide +kernel
theorem dX1_refillBucket_4 : decode cX1_refillBucket 4 = .ok (.aload_n 0, 1) := by decide +kernel
theorem dX1_refillBucket_5 : decode cX1_refillBucket 5 = .ok (.getfield 7, 3) := by decide +kernel
theorem dX1_refillBucket_8 : decode cX1_refillBucket 8 = .ok (.getfield 13, 3) := by decide +kernel
theorem dX1_refillBucket_11 : decode cX1_refillBucket 11 = .ok (.if_icmp .ge 48, 3) := by decide +kernel
theorem dX1_refillBucket_14 : decode cX1_refillBucket 14 = .ok (.aload_n 0, 1) := by decide +kernel
theorem dX1_refillBucket_15 : decode cX1_refillBucket 15 = .ok (.invokevirtual 53, 3) := by decide +kernel
theorem dX1_refillBucket_18 : decode cX1_refillBucket 18 = .ok (.ifCond .eq 13, 3) := by decide +kernel
theorem dX1_refillBucket_21 : decode cX1_refillBucket 21 = .ok (.aload_n 0, 1) := by decide +kernel
theorem dX1_refillBucket_22 : decode cX1_refillBucket 22 = .ok (.getfield 7, 3) := by decide +kernel
theorem dX1_refillBucket_25 : decode cX1_refillBucket 25 = .ok (.getfield 57, 3) := by decide +kernel
theorem dX1_refillBucket_28 : decode cX1_refillBucket 28 = .ok (.goto 10, 3) := by decide +kernel
theorem dX1_refillBucket_31 : decode cX1_refillBucket 31 = .ok (.aload_n 0, 1) := by decide +kernel
theorem dX1_refillBucket_32 : decode cX1_refillBucket 32 = .ok (.getfield 7, 3) := by decide +kernel
theorem dX1_refillBucket_35 : decode cX1_refillBucket 35 = .ok (.getfield 60, 3) := by decide +kernel
theorem dX1_refillBucket_38 : decode cX1_refillBucket 38 = .ok (.istore_n 1, 1) := by decide +kernel
theorem dX1_refillBucket_39 : decode cX1_refillBucket 39 = .ok (.aload_n 0, 1) := by decide +kernel
theorem dX1_refillBucket_40 : decode cX1_refillBucket 40 = .ok (.aload_n 0, 1) := by decide +kernel
theorem dX1_refillBucket_41 : decode cX1_refillBucket 41 = .ok (.getfield 7, 3) := by decide +kernel
theorem dX1_refillBucket_44 : decode cX1_refillBucket 44 = .ok (.getfield 13, 3) := by decide +kernel
theorem dX1_refillBucket_47 : decode cX1_refillBucket 47 = .ok (.aload_n 0, 1) := by decide +kernel
theorem dX1_refillBucket_48 : decode cX1_refillBucket 48 = .ok (.getfield 19, 3) := by decide +kernel
theorem dX1_refillBucket_51 : decode cX1_refillBucket 51 = .ok (.iload_n 1, 1) := by decide +kernel
theorem dX1_refillBucket_52 : decode cX1_refillBucket 52 = .ok (.iadd, 1) := by decide +kernel
theorem dX1_refillBucket_53 : decode cX1_refillBucket 53 = .ok (.invokestatic 25, 3) := by decide +kernel
theorem dX1_refillBucket_56 : decode cX1_refillBucket 56 = .ok (.putfield 19, 3) := by decide +kernel
theorem dX1_refillBucket_59 : decode cX1_refillBucket 59 = .ok (.return_, 1) := by decide +kernel
theorem dX2_init_0 : decode cX2_init 0 = .ok (.aload_n 0, 1) := by decide +kernel
theorem dX2_init_1 : decode cX2_init 1 = .ok (.invokespecial 1, 3) := by decide +kernel
theorem dX2_init_4 : decode cX2_init 4 = .ok (.aload_n 0, 1) := by decide +kernel
theorem dX2_init_5 : decode cX2_init 5 = .ok (.bipush 10, 2) := by decide +kernel
theorem dX2_init_7 : decode cX2_init 7 = .ok (.putfield 7, 3) := by decide +kernel
theorem dX2_init_10 : decode cX2_init 10 = .ok (.aload_n 0, 1) := by decide +kernel
theorem dX2_init_11 : decode cX2_init 11 = .ok (.iconst 1, 1) := by decide +kernel
theorem dX2_init_12 : decode cX2_init 12 = .ok (.putfield 13, 3) := by decide +kernel
theorem dX2_init_15 : decode cX2_init 15 = .ok (.aload_n 0, 1) := by decide +kernel
theorem dX2_init_16 : decode cX2_init 16 = .ok (.iconst 0, 1) := by decide +kernel
theorem dX2_init_17 : decode cX2_init 17 = .ok (.putfield 16, 3) := by decide +kernel
theorem dX2_init_20 : decode cX2_init 20 = .ok (.aload_n 0, 1) := by decide +kernel
theorem dX2_init_21 : decode cX2_init 21 = .ok (.iload_n 1, 1) := by decide +kernel
theorem dX2_init_22 : decode cX2_init 22 = .ok (.putfield 19, 3) := by decide +kernel
theorem dX2_init_25 : decode cX2_init 25 = .ok (.return_, 1) := by decide +kernel
theorem dX3_init_0 : decode cX3_init 0 = .ok (.aload_n 0, 1) := by decide +kernel
theorem dX3_init_1 : decode cX3_init 1 = .ok (.invokespecial 1, 3) := by decide +kernel
theorem dX3_init_4 : decode cX3_init 4 = .ok (.aload_n 0, 1) := by decide +kernel
theorem dX3_init_5 : decode cX3_init 5 = .ok (.bipush 10, 2) := by decide +kernel
theorem dX3_init_7 : decode cX3_init 7 = .ok (.putfield 7, 3) := by decide +kernel
theorem dX3_init_10 : decode cX3_init 10 = .ok (.aload_n 0, 1) := by decide +kernel
theorem dX3_init_11 : decode cX3_init 11 = .ok (.iconst 1, 1) := by decide +kernel
theorem dX3_init_12 : decode cX3_init 12 = .ok (.putfield 13, 3) := by decide +kernel
theorem dX3_init_15 : decode cX3_init 15 = .ok (.return_, 1) := by decide +kernel
set_option maxRecDepth 20000 in
theorem ggX4_init_Jx4a65c_init_da8c8 : GoodIn wsX4_init wsJx4a65c_init_da8c8 := goodIn_r _ [19, 20, 21, 22, 23, 24, 25, 26, 27, 28, 29, 30, 31, 2, 3, 50, 51, 52] (by decide +kernel) (by decide +kernel)
set_option maxRecDepth 20000 in
theorem gX4_init_Jx4a65c_init_da8c8 : GoodIn wsX4_init (wsJx4a65c_init_da8c8) := ggX4_init_Jx4a65c_init_da8c8
set_option maxRecDepth 20000 in
theorem ggX4_init_X2_init : GoodIn wsX4_init wsX2_init := goodIn_r _ [33, 34, 2, 3, 35, 36, 37, 38, 53, 54, 55, 56] (by decide +kernel) (by decide +kernel)
set_option maxRecDepth 20000 in
theorem gX4_init_X2_init_n31 : GoodIn wsX4_init (wsX2_init) := ggX4_init_X2_init
set_option maxRecDepth 20000 in
theorem ggX4_init_X3_init : GoodIn wsX4_init wsX3_init := goodIn_r _ [40, 41, 2, 3, 42, 43, 57, 58] (by decide +kernel) (by decide +kernel)
set_option maxRecDepth 20000 in
theorem gX4_init_X3_init_n34 : GoodIn wsX4_init (wsX3_init) := ggX4_init_X3_init
theorem dX4_init_0 : decode cX4_init 0 = .ok (.aload_n 0, 1) := by decide +kernel
theorem dX4_init_1 : decode cX4_init 1 = .ok (.invokespecial 1, 3) := by decide +kernel
theorem dX4_init_4 : decode cX4_init 4 = .ok (.aload_n 0, 1) := by decide +kernel
theorem dX4_init_5 : decode cX4_init 5 = .ok (.iconst 4, 1) := by decide +kernel
theorem dX4_init_6 : decode cX4_init 6 = .ok (.anewarray 9, 3) := by decide +kernel
theorem dX4_init_9 : decode cX4_init 9 = .ok (.putfield 11, 3) := by decide +kernel
theorem dX4_init_12 : decode cX4_init 12 = .ok (.aload_n 0, 1) := by decide +kernel
theorem dX4_init_13 : decode cX4_init 13 = .ok (.bipush 6, 2) := by decide +kernel
theorem dX4_init_15 : decode cX4_init 15 = .ok (.anewarray 15, 3) := by decide +kernel
theorem dX4_init_18 : decode cX4_init 18 = .ok (.putfield 17, 3) := by decide +kernel
theorem dX4_init_21 : decode cX4_init 21 = .ok (.aload_n 0, 1) := by decide +kernel
theorem dX4_init_22 : decode cX4_init 22 = .ok (.new 21, 3) := by decide +kernel
theorem dX4_init_25 : decode cX4_init 25 = .ok (.dup, 1) := by decide +kernel
theorem dX4_init_26 : decode cX4_init 26 = .ok (.invokespecial 23, 3) := by decide +kernel
theorem dX4_init_29 : decode cX4_init 29 = .ok (.putfield 24, 3) := by decide +kernel
theorem dX4_init_32 : decode cX4_init 32 = .ok (.aload_n 0, 1) := by decide +kernel
theorem dX4_init_33 : decode cX4_init 33 = .ok (.new 21, 3) := by decide +kernel
theorem dX4_init_36 : decode cX4_init 36 = .ok (.dup, 1) := by decide +kernel
theorem dX4_init_37 : decode cX4_init 37 = .ok (.invokespecial 23, 3) := by decide +kernel
theorem dX4_init_40 : decode cX4_init 40 = .ok (.putfield 28, 3) := by decide +kernel
theorem dX4_init_43 : decode cX4_init 43 = .ok (.iconst 0, 1) := by decide +kernel
theorem dX4_init_44 : decode cX4_init 44 = .ok (.istore_n 1, 1) := by decide +kernel
theorem dX4_init_45 : decode cX4_init 45 = .ok (.iload_n 1, 1) := by decide +kernel
theorem dX4_init_46 : decode cX4_init 46 = .ok (.aload_n 0, 1) := by decide +kernel
theorem dX4_init_47 : decode cX4_init 47 = .ok (.getfield 11, 3) := by decide +kernel
theorem dX4_init_50 : decode cX4_init 50 = .ok (.arraylength, 1) := by decide +kernel
theorem dX4_init_51 : decode cX4_init 51 = .ok (.if_icmp .ge 23, 3) := by decide +kernel
theorem dX4_init_54 : decode cX4_init 54 = .ok (.aload_n 0, 1) := by decide +kernel
theorem dX4_init_55 : decode cX4_init 55 = .ok (.getfield 11, 3) := by decide +kernel
theorem dX4_init_58 : decode cX4_init 58 = .ok (.iload_n 1, 1) := by decide +kernel
theorem dX4_init_59 : decode cX4_init 59 = .ok (.new 9, 3) := by decide +kernel
theorem dX4_init_62 : decode cX4_init 62 = .ok (.dup, 1) := by decide +kernel
theorem dX4_init_63 : decode cX4_init 63 = .ok (.iload_n 1, 1) := by decide +kernel
theorem dX4_init_64 : decode cX4_init 64 = .ok (.invokespecial 31, 3) := by decide +kernel
theorem dX4_init_67 : decode cX4_init 67 = .ok (.aastore, 1) := by decide +kernel
theorem dX4_init_68 : decode cX4_init 68 = .ok (.iinc 1 1, 3) := by decide +kernel
theorem dX4_init_71 : decode cX4_init 71 = .ok (.goto (-26), 3) := by decide +kernel
theorem dX4_init_74 : decode cX4_init 74 = .ok (.iconst 0, 1) := by decide +kernel
theorem dX4_init_75 : decode cX4_init 75 = .ok (.istore_n 1, 1) := by decide +kernel
theorem dX4_init_76 : decode cX4_init 76 = .ok (.iload_n 1, 1) := by decide +kernel
theorem dX4_init_77 : decode cX4_init 77 = .ok (.aload_n 0, 1) := by decide +kernel
theorem dX4_init_78 : decode cX4_init 78 = .ok (.getfield 17, 3) := by decide +kernel
theorem dX4_init_81 : decode cX4_init 81 = .ok (.arraylength, 1) := by decide +kernel
theorem dX4_init_82 : decode cX4_init 82 = .ok (.if_icmp .ge 22, 3) := by decide +kernel
theorem dX4_init_85 : decode cX4_init 85 = .ok (.aload_n 0, 1) := by decide +kernel
theorem dX4_init_86 : decode cX4_init 86 = .ok (.getfield 17, 3) := by decide +kernel
theorem dX4_init_89 : decode cX4_init 89 = .ok (.iload_n 1, 1) := by decide +kernel
theorem dX4_init_90 : decode cX4_init 90 = .ok (.new 15, 3) := by decide +kernel
theorem dX4_init_93 : decode cX4_init 93 = .ok (.dup, 1) := by decide +kernel
theorem dX4_init_94 : decode cX4_init 94 = .ok (.invokespecial 34, 3) := by decide +kernel
theorem dX4_init_97 : decode cX4_init 97 = .ok (.aastore, 1) := by decide +kernel
theorem dX4_init_98 : decode cX4_init 98 = .ok (.iinc 1 1, 3) := by decide +kernel
theorem dX4_init_101 : decode cX4_init 101 = .ok (.goto (-25), 3) := by decide +kernel
theorem dX4_init_104 : decode cX4_init 104 = .ok (.return_, 1) := by decide +kernel
set_option maxRecDepth 20000 in
theorem ggX4_setPlan_X4_planAt : GoodIn wsX4_setPlan wsX4_planAt := goodIn_ca (goodIn_r _ [5, 6, 7, 8, 16, 17, 18, 19, 20, 21] (by decide +kernel) (by decide +kernel)) (goodIn_sub (fun _ h => List.mem_cons_of_mem _ (List.mem_append_right _ h)) (by decide +kernel))
set_option maxRecDepth 20000 in
theorem gX4_setPlan_X4_planAt : GoodIn wsX4_setPlan (wsV RX4 35 RX4 yX4_planAt wsX4_planAt) := goodIn_app (goodIn_of _ (by decide +kernel)) ggX4_setPlan_X4_planAt
set_option maxRecDepth 20000 in
theorem ggX4_setPlan_X4_refuseOutside : GoodIn wsX4_setPlan wsX4_refuseOutside := goodIn_ca (goodIn_r _ [11, 6, 7] (by decide +kernel) (by decide +kernel)) (goodIn_sub (fun _ h => List.mem_cons_of_mem _ (List.mem_append_right _ h)) (by decide +kernel))
set_option maxRecDepth 20000 in
theorem gX4_setPlan_X4_refuseOutside : GoodIn wsX4_setPlan (va_wsS RX4 39 yX4_refuseOutside wsX4_refuseOutside) := goodIn_app (goodIn_of _ (by decide +kernel)) ggX4_setPlan_X4_refuseOutside
theorem dX4_setPlan_0 : decode cX4_setPlan 0 = .ok (.aload_n 0, 1) := by decide +kernel
theorem dX4_setPlan_1 : decode cX4_setPlan 1 = .ok (.iload_n 1, 1) := by decide +kernel
theorem dX4_setPlan_2 : decode cX4_setPlan 2 = .ok (.invokevirtual 35, 3) := by decide +kernel
theorem dX4_setPlan_5 : decode cX4_setPlan 5 = .ok (.astore 5, 2) := by decide +kernel
theorem dX4_setPlan_7 : decode cX4_setPlan 7 = .ok (.iload_n 2, 1) := by decide +kernel
theorem dX4_setPlan_8 : decode cX4_setPlan 8 = .ok (.iconst 1, 1) := by decide +kernel
theorem dX4_setPlan_9 : decode cX4_setPlan 9 = .ok (.bipush 100, 2) := by decide +kernel
theorem dX4_setPlan_11 : decode cX4_setPlan 11 = .ok (.invokestatic 39, 3) := by decide +kernel
theorem dX4_setPlan_14 : decode cX4_setPlan 14 = .ok (.iload_n 3, 1) := by decide +kernel
theorem dX4_setPlan_15 : decode cX4_setPlan 15 = .ok (.iconst 0, 1) := by decide +kernel
theorem dX4_setPlan_16 : decode cX4_setPlan 16 = .ok (.bipush 100, 2) := by decide +kernel
theorem dX4_setPlan_18 : decode cX4_setPlan 18 = .ok (.invokestatic 39, 3) := by decide +kernel
theorem dX4_setPlan_21 : decode cX4_setPlan 21 = .ok (.iload 4, 2) := by decide +kernel
theorem dX4_setPlan_23 : decode cX4_setPlan 23 = .ok (.iconst 0, 1) := by decide +kernel
theorem dX4_setPlan_24 : decode cX4_setPlan 24 = .ok (.iload_n 3, 1) := by decide +kernel
theorem dX4_setPlan_25 : decode cX4_setPlan 25 = .ok (.invokestatic 39, 3) := by decide +kernel
theorem dX4_setPlan_28 : decode cX4_setPlan 28 = .ok (.aload 5, 2) := by decide +kernel
theorem dX4_setPlan_30 : decode cX4_setPlan 30 = .ok (.iload_n 2, 1) := by decide +kernel
theorem dX4_setPlan_31 : decode cX4_setPlan 31 = .ok (.putfield 43, 3) := by decide +kernel
theorem dX4_setPlan_34 : decode cX4_setPlan 34 = .ok (.aload 5, 2) := by decide +kernel
theorem dX4_setPlan_36 : decode cX4_setPlan 36 = .ok (.iload_n 3, 1) := by decide +kernel
theorem dX4_setPlan_37 : decode cX4_setPlan 37 = .ok (.putfield 47, 3) := by decide +kernel
theorem dX4_setPlan_40 : decode cX4_setPlan 40 = .ok (.aload 5, 2) := by decide +kernel
theorem dX4_setPlan_42 : decode cX4_setPlan 42 = .ok (.iload 4, 2) := by decide +kernel
theorem dX4_setPlan_44 : decode cX4_setPlan 44 = .ok (.putfield 50, 3) := by decide +kernel
theorem dX4_setPlan_47 : decode cX4_setPlan 47 = .ok (.return_, 1) := by decide +kernel
set_option maxRecDepth 20000 in
theorem ggX4_setRoute_X4_routeAt : GoodIn wsX4_setRoute wsX4_routeAt := goodIn_ca (goodIn_r _ [5, 6, 7, 8, 14, 15, 16, 17, 18, 19] (by decide +kernel) (by decide +kernel)) (goodIn_sub (fun _ h => List.mem_cons_of_mem _ (List.mem_append_right _ h)) (by decide +kernel))
set_option maxRecDepth 20000 in
theorem gX4_setRoute_X4_routeAt : GoodIn wsX4_setRoute (wsV RX4 53 RX4 yX4_routeAt wsX4_routeAt) := goodIn_app (goodIn_of _ (by decide +kernel)) ggX4_setRoute_X4_routeAt
set_option maxRecDepth 20000 in
theorem ggX4_setRoute_X4_refuseOutside : GoodIn wsX4_setRoute wsX4_refuseOutside := goodIn_ca (goodIn_r _ [11, 6, 7] (by decide +kernel) (by decide +kernel)) (goodIn_sub (fun _ h => List.mem_cons_of_mem _ (List.mem_append_right _ h)) (by decide +kernel))
set_option maxRecDepth 20000 in
theorem gX4_setRoute_X4_refuseOutside : GoodIn wsX4_setRoute (va_wsS RX4 39 yX4_refuseOutside wsX4_refuseOutside) := goodIn_app (goodIn_of _ (by decide +kernel)) ggX4_setRoute_X4_refuseOutside
theorem dX4_setRoute_0 : decode cX4_setRoute 0 = .ok (.aload_n 0, 1) := by decide +kernel
theorem dX4_setRoute_1 : decode cX4_setRoute 1 = .ok (.iload_n 1, 1) := by decide +kernel
theorem dX4_setRoute_2 : decode cX4_setRoute 2 = .ok (.invokevirtual 53, 3) := by decide +kernel
theorem dX4_setRoute_5 : decode cX4_setRoute 5 = .ok (.astore 4, 2) := by decide +kernel
theorem dX4_setRoute_7 : decode cX4_setRoute 7 = .ok (.iload_n 2, 1) := by decide +kernel
theorem dX4_setRoute_8 : decode cX4_setRoute 8 = .ok (.iconst 0, 1) := by decide +kernel
theorem dX4_setRoute_9 : decode cX4_setRoute 9 = .ok (.sipush 1000, 3) := by decide +kernel
theorem dX4_setRoute_12 : decode cX4_setRoute 12 = .ok (.invokestatic 39, 3) := by decide +kernel
theorem dX4_setRoute_15 : decode cX4_setRoute 15 = .ok (.iload_n 3, 1) := by decide +kernel
theorem dX4_setRoute_16 : decode cX4_setRoute 16 = .ok (.iconst 1, 1) := by decide +kernel
theorem dX4_setRoute_17 : decode cX4_setRoute 17 = .ok (.bipush 20, 2) := by decide +kernel
theorem dX4_setRoute_19 : decode cX4_setRoute 19 = .ok (.invokestatic 39, 3) := by decide +kernel
theorem dX4_setRoute_22 : decode cX4_setRoute 22 = .ok (.aload 4, 2) := by decide +kernel
theorem dX4_setRoute_24 : decode cX4_setRoute 24 = .ok (.iload_n 2, 1) := by decide +kernel
theorem dX4_setRoute_25 : decode cX4_setRoute 25 = .ok (.putfield 57, 3) := by decide +kernel
theorem dX4_setRoute_28 : decode cX4_setRoute 28 = .ok (.aload 4, 2) := by decide +kernel
theorem dX4_setRoute_30 : decode cX4_setRoute 30 = .ok (.iload_n 3, 1) := by decide +kernel
theorem dX4_setRoute_31 : decode cX4_setRoute 31 = .ok (.putfield 60, 3) := by decide +kernel
theorem dX4_setRoute_34 : decode cX4_setRoute 34 = .ok (.return_, 1) := by decide +kernel
set_option maxRecDepth 20000 in
theorem ggX4_addKey_X4_planAt : GoodIn wsX4_addKey wsX4_planAt := goodIn_ca (goodIn_r _ [11, 12, 13, 14, 82, 83, 84, 85, 86, 87] (by decide +kernel) (by decide +kernel)) (goodIn_sub (fun _ h => List.mem_cons_of_mem _ (List.mem_append_right _ h)) (by decide +kernel))
set_option maxRecDepth 20000 in
theorem gX4_addKey_X4_planAt : GoodIn wsX4_addKey (wsV RX4 35 RX4 yX4_planAt wsX4_planAt) := goodIn_app (goodIn_of _ (by decide +kernel)) ggX4_addKey_X4_planAt
set_option maxRecDepth 20000 in
theorem ggX4_addKey_Jx4a65c_size_8abf5 : GoodIn wsX4_addKey wsJx4a65c_size_8abf5 := goodIn_r _ [19, 20, 97, 98, 99] (by decide +kernel) (by decide +kernel)
set_option maxRecDepth 20000 in
theorem gX4_addKey_Jx4a65c_size_8abf5 : GoodIn wsX4_addKey (wsV RX4 63 RJx4a65c yJx4a65c_size_8abf5 wsJx4a65c_size_8abf5) := goodIn_app (goodIn_of _ (by decide +kernel)) ggX4_addKey_Jx4a65c_size_8abf5
set_option maxRecDepth 20000 in
theorem ggX4_addKey_X1_init : GoodIn wsX4_addKey wsX1_init := goodIn_r _ [22, 23, 24, 25, 26, 27, 88, 89, 90, 91, 92, 93, 94, 95, 96, 100, 101, 102, 103] (by decide +kernel) (by decide +kernel)
set_option maxRecDepth 20000 in
theorem gX4_addKey_X1_init_n75 : GoodIn wsX4_addKey (wsX1_init) := ggX4_addKey_X1_init
set_option maxRecDepth 20000 in
theorem ggX4_addKey_Jx4a65c_add_9ea2d : GoodIn wsX4_addKey wsJx4a65c_add_9ea2d := goodIn_r _ [31, 32, 33, 34, 20, 35, 36, 37, 18, 38, 39, 40, 41, 42, 43, 44, 45, 46, 47, 48, 49, 50, 51, 52, 53, 54, 55, 56, 57, 58, 59, 60, 61, 62, 63, 64, 65, 66, 67, 68, 69, 70, 71, 72, 73, 74, 75, 76, 77, 78, 79, 80, 81, 97, 98, 99] (by decide +kernel) (by decide +kernel)
set_option maxRecDepth 20000 in
theorem gX4_addKey_Jx4a65c_add_9ea2d : GoodIn wsX4_addKey (wsV RX4 78 RJx4a65c yJx4a65c_add_9ea2d wsJx4a65c_add_9ea2d) := goodIn_app (goodIn_of _ (by decide +kernel)) ggX4_addKey_Jx4a65c_add_9ea2d
theorem dX4_addKey_0 : decode cX4_addKey 0 = .ok (.aload_n 0, 1) := by decide +kernel
theorem dX4_addKey_1 : decode cX4_addKey 1 = .ok (.iload_n 1, 1) := by decide +kernel
theorem dX4_addKey_2 : decode cX4_addKey 2 = .ok (.invokevirtual 35, 3) := by decide +kernel
theorem dX4_addKey_5 : decode cX4_addKey 5 = .ok (.astore_n 2, 1) := by decide +kernel
theorem dX4_addKey_6 : decode cX4_addKey 6 = .ok (.aload_n 0, 1) := by decide +kernel
theorem dX4_addKey_7 : decode cX4_addKey 7 = .ok (.getfield 24, 3) := by decide +kernel
theorem dX4_addKey_10 : decode cX4_addKey 10 = .ok (.invokevirtual 63, 3) := by decide +kernel
theorem dX4_addKey_13 : decode cX4_addKey 13 = .ok (.bipush 8, 2) := by decide +kernel
theorem dX4_addKey_15 : decode cX4_addKey 15 = .ok (.if_icmp .lt 13, 3) := by decide +kernel
theorem dX4_addKey_18 : decode cX4_addKey 18 = .ok (.new 66, 3) := by decide +kernel
theorem dX4_addKey_21 : decode cX4_addKey 21 = .ok (.dup, 1) := by decide +kernel
theorem dX4_addKey_22 : decode cX4_addKey 22 = .ok (.ldc 68, 2) := by decide +kernel
theorem dX4_addKey_24 : decode cX4_addKey 24 = .ok (.invokespecial 70, 3) := by decide +kernel
theorem dX4_addKey_27 : decode cX4_addKey 27 = .ok (.athrow, 1) := by decide +kernel
theorem dX4_addKey_28 : decode cX4_addKey 28 = .ok (.aload_n 0, 1) := by decide +kernel
theorem dX4_addKey_29 : decode cX4_addKey 29 = .ok (.getfield 24, 3) := by decide +kernel
theorem dX4_addKey_32 : decode cX4_addKey 32 = .ok (.new 73, 3) := by decide +kernel
theorem dX4_addKey_35 : decode cX4_addKey 35 = .ok (.dup, 1) := by decide +kernel
theorem dX4_addKey_36 : decode cX4_addKey 36 = .ok (.aload_n 2, 1) := by decide +kernel
theorem dX4_addKey_37 : decode cX4_addKey 37 = .ok (.invokespecial 75, 3) := by decide +kernel
theorem dX4_addKey_40 : decode cX4_addKey 40 = .ok (.invokevirtual 78, 3) := by decide +kernel
theorem dX4_addKey_43 : decode cX4_addKey 43 = .ok (.pop, 1) := by decide +kernel
theorem dX4_addKey_44 : decode cX4_addKey 44 = .ok (.aload_n 0, 1) := by decide +kernel
theorem dX4_addKey_45 : decode cX4_addKey 45 = .ok (.getfield 24, 3) := by decide +kernel
theorem dX4_addKey_48 : decode cX4_addKey 48 = .ok (.invokevirtual 63, 3) := by decide +kernel
theorem dX4_addKey_51 : decode cX4_addKey 51 = .ok (.iconst 1, 1) := by decide +kernel
theorem dX4_addKey_52 : decode cX4_addKey 52 = .ok (.isub, 1) := by decide +kernel
theorem dX4_addKey_53 : decode cX4_addKey 53 = .ok (.ireturn, 1) := by decide +kernel
set_option maxRecDepth 20000 in
theorem ggX4_setKeyPlan_X4_keyAt : GoodIn wsX4_setKeyPlan wsX4_keyAt := goodIn_ca (goodIn_r _ [5, 6, 7, 8, 9, 10, 11, 12, 13, 14, 15, 16, 17, 18, 19, 20, 21, 22, 23, 24, 25, 26, 27, 28, 29, 30, 31, 32, 53, 54, 55, 56, 57, 58, 59, 60, 61] (by decide +kernel) (by decide +kernel)) (goodIn_sub (fun _ h => List.mem_cons_of_mem _ (List.mem_append_left _ (List.mem_append_right _ h))) (by decide +kernel))
set_option maxRecDepth 20000 in
theorem gX4_setKeyPlan_X4_keyAt : GoodIn wsX4_setKeyPlan (wsV RX4 82 RX4 yX4_keyAt wsX4_keyAt) := goodIn_app (goodIn_of _ (by decide +kernel)) ggX4_setKeyPlan_X4_keyAt
set_option maxRecDepth 20000 in
theorem ggX4_setKeyPlan_X4_planAt : GoodIn wsX4_setKeyPlan wsX4_planAt := goodIn_ca (goodIn_r _ [36, 37, 38, 39, 53, 54, 55, 56, 57, 58] (by decide +kernel) (by decide +kernel)) (goodIn_sub (fun _ h => List.mem_cons_of_mem _ (List.mem_append_right _ h)) (by decide +kernel))
set_option maxRecDepth 20000 in
theorem gX4_setKeyPlan_X4_planAt : GoodIn wsX4_setKeyPlan (wsV RX4 35 RX4 yX4_planAt wsX4_planAt) := goodIn_app (goodIn_of _ (by decide +kernel)) ggX4_setKeyPlan_X4_planAt
theorem dX4_setKeyPlan_0 : decode cX4_setKeyPlan 0 = .ok (.aload_n 0, 1) := by decide +kernel
theorem dX4_setKeyPlan_1 : decode cX4_setKeyPlan 1 = .ok (.iload_n 1, 1) := by decide +kernel
theorem dX4_setKeyPlan_2 : decode cX4_setKeyPlan 2 = .ok (.invokevirtual 82, 3) := by decide +kernel
theorem dX4_setKeyPlan_5 : decode cX4_setKeyPlan 5 = .ok (.astore_n 3, 1) := by decide +kernel
theorem dX4_setKeyPlan_6 : decode cX4_setKeyPlan 6 = .ok (.aload_n 0, 1) := by decide +kernel
theorem dX4_setKeyPlan_7 : decode cX4_setKeyPlan 7 = .ok (.iload_n 2, 1) := by decide +kernel
theorem dX4_setKeyPlan_8 : decode cX4_setKeyPlan 8 = .ok (.invokevirtual 35, 3) := by decide +kernel
theorem dX4_setKeyPlan_11 : decode cX4_setKeyPlan 11 = .ok (.astore 4, 2) := by decide +kernel
theorem dX4_setKeyPlan_13 : decode cX4_setKeyPlan 13 = .ok (.aload_n 3, 1) := by decide +kernel
theorem dX4_setKeyPlan_14 : decode cX4_setKeyPlan 14 = .ok (.getfield 86, 3) := by decide +kernel
theorem dX4_setKeyPlan_17 : decode cX4_setKeyPlan 17 = .ok (.getfield 90, 3) := by decide +kernel
theorem dX4_setKeyPlan_20 : decode cX4_setKeyPlan 20 = .ok (.istore 5, 2) := by decide +kernel
theorem dX4_setKeyPlan_22 : decode cX4_setKeyPlan 22 = .ok (.aload_n 3, 1) := by decide +kernel
theorem dX4_setKeyPlan_23 : decode cX4_setKeyPlan 23 = .ok (.aload 4, 2) := by decide +kernel
theorem dX4_setKeyPlan_25 : decode cX4_setKeyPlan 25 = .ok (.putfield 86, 3) := by decide +kernel
theorem dX4_setKeyPlan_28 : decode cX4_setKeyPlan 28 = .ok (.iload 5, 2) := by decide +kernel
theorem dX4_setKeyPlan_30 : decode cX4_setKeyPlan 30 = .ok (.ireturn, 1) := by decide +kernel
set_option maxRecDepth 20000 in
theorem ggX4_setTrust_X4_keyAt : GoodIn wsX4_setTrust wsX4_keyAt := goodIn_ca (goodIn_r _ [5, 6, 7, 8, 9, 10, 11, 12, 13, 14, 15, 16, 17, 18, 19, 20, 21, 22, 23, 24, 25, 26, 27, 28, 29, 30, 31, 32, 47, 48, 49, 50, 51, 52, 53, 54, 55] (by decide +kernel) (by decide +kernel)) (goodIn_sub (fun _ h => List.mem_cons_of_mem _ (List.mem_append_left _ (List.mem_append_right _ h))) (by decide +kernel))
set_option maxRecDepth 20000 in
theorem gX4_setTrust_X4_keyAt : GoodIn wsX4_setTrust (wsV RX4 82 RX4 yX4_keyAt wsX4_keyAt) := goodIn_app (goodIn_of _ (by decide +kernel)) ggX4_setTrust_X4_keyAt
set_option maxRecDepth 20000 in
theorem ggX4_setTrust_X4_refuseOutside : GoodIn wsX4_setTrust wsX4_refuseOutside := goodIn_ca (goodIn_r _ [35, 36, 37] (by decide +kernel) (by decide +kernel)) (goodIn_sub (fun _ h => List.mem_cons_of_mem _ (List.mem_append_right _ h)) (by decide +kernel))
set_option maxRecDepth 20000 in
theorem gX4_setTrust_X4_refuseOutside : GoodIn wsX4_setTrust (va_wsS RX4 39 yX4_refuseOutside wsX4_refuseOutside) := goodIn_app (goodIn_of _ (by decide +kernel)) ggX4_setTrust_X4_refuseOutside
theorem dX4_setTrust_0 : decode cX4_setTrust 0 = .ok (.aload_n 0, 1) := by decide +kernel
theorem dX4_setTrust_1 : decode cX4_setTrust 1 = .ok (.iload_n 1, 1) := by decide +kernel
theorem dX4_setTrust_2 : decode cX4_setTrust 2 = .ok (.invokevirtual 82, 3) := by decide +kernel
theorem dX4_setTrust_5 : decode cX4_setTrust 5 = .ok (.astore_n 3, 1) := by decide +kernel
theorem dX4_setTrust_6 : decode cX4_setTrust 6 = .ok (.iload_n 2, 1) := by decide +kernel
theorem dX4_setTrust_7 : decode cX4_setTrust 7 = .ok (.iconst 0, 1) := by decide +kernel
theorem dX4_setTrust_8 : decode cX4_setTrust 8 = .ok (.sipush 10000, 3) := by decide +kernel
theorem dX4_setTrust_11 : decode cX4_setTrust 11 = .ok (.invokestatic 39, 3) := by decide +kernel
theorem dX4_setTrust_14 : decode cX4_setTrust 14 = .ok (.aload_n 3, 1) := by decide +kernel
theorem dX4_setTrust_15 : decode cX4_setTrust 15 = .ok (.getfield 93, 3) := by decide +kernel
theorem dX4_setTrust_18 : decode cX4_setTrust 18 = .ok (.istore 4, 2) := by decide +kernel
theorem dX4_setTrust_20 : decode cX4_setTrust 20 = .ok (.aload_n 3, 1) := by decide +kernel
theorem dX4_setTrust_21 : decode cX4_setTrust 21 = .ok (.iload_n 2, 1) := by decide +kernel
theorem dX4_setTrust_22 : decode cX4_setTrust 22 = .ok (.putfield 93, 3) := by decide +kernel
theorem dX4_setTrust_25 : decode cX4_setTrust 25 = .ok (.iload 4, 2) := by decide +kernel
theorem dX4_setTrust_27 : decode cX4_setTrust 27 = .ok (.ireturn, 1) := by decide +kernel
set_option maxRecDepth 20000 in
theorem ggX4_pay_X4_keyAt : GoodIn wsX4_pay wsX4_keyAt := goodIn_ca (goodIn_r _ [6, 7, 8, 9, 10, 11, 12, 13, 14, 15, 16, 17, 18, 19, 20, 21, 22, 23, 24, 25, 26, 27, 28, 29, 30, 31, 32, 33, 58, 59, 60, 61, 62, 63, 64, 65, 66] (by decide +kernel) (by decide +kernel)) (goodIn_sub (fun _ h => List.mem_cons_of_mem _ (List.mem_append_left _ (List.mem_append_right _ h))) (by decide +kernel))
set_option maxRecDepth 20000 in
theorem gX4_pay_X4_keyAt : GoodIn wsX4_pay (wsV RX4 82 RX4 yX4_keyAt wsX4_keyAt) := goodIn_app (goodIn_of _ (by decide +kernel)) ggX4_pay_X4_keyAt
set_option maxRecDepth 20000 in
theorem ggX4_pay_X4_refuseOutside : GoodIn wsX4_pay wsX4_refuseOutside := goodIn_ca (goodIn_r _ [36, 37, 38] (by decide +kernel) (by decide +kernel)) (goodIn_sub (fun _ h => List.mem_cons_of_mem _ (List.mem_append_right _ h)) (by decide +kernel))
set_option maxRecDepth 20000 in
theorem gX4_pay_X4_refuseOutside : GoodIn wsX4_pay (va_wsS RX4 39 yX4_refuseOutside wsX4_refuseOutside) := goodIn_app (goodIn_of _ (by decide +kernel)) ggX4_pay_X4_refuseOutside
set_option maxRecDepth 20000 in
theorem ggX4_pay_X1_receive : GoodIn wsX4_pay wsX1_receive := goodIn_r _ [42, 43, 44, 45, 46, 47, 48, 49, 50, 51, 52, 53, 54, 55, 56, 57] (by decide +kernel) (by decide +kernel)
set_option maxRecDepth 20000 in
theorem gX4_pay_X1_receive_n100 : GoodIn wsX4_pay (wsX1_receive) := ggX4_pay_X1_receive
theorem dX4_pay_0 : decode cX4_pay 0 = .ok (.aload_n 0, 1) := by decide +kernel
theorem dX4_pay_1 : decode cX4_pay 1 = .ok (.iload_n 1, 1) := by decide +kernel
theorem dX4_pay_2 : decode cX4_pay 2 = .ok (.invokevirtual 82, 3) := by decide +kernel
theorem dX4_pay_5 : decode cX4_pay 5 = .ok (.astore_n 3, 1) := by decide +kernel
theorem dX4_pay_6 : decode cX4_pay 6 = .ok (.iload_n 2, 1) := by decide +kernel
theorem dX4_pay_7 : decode cX4_pay 7 = .ok (.iconst 1, 1) := by decide +kernel
theorem dX4_pay_8 : decode cX4_pay 8 = .ok (.ldc 96, 2) := by decide +kernel
theorem dX4_pay_10 : decode cX4_pay 10 = .ok (.invokestatic 39, 3) := by decide +kernel
theorem dX4_pay_13 : decode cX4_pay 13 = .ok (.aload_n 3, 1) := by decide +kernel
theorem dX4_pay_14 : decode cX4_pay 14 = .ok (.dup, 1) := by decide +kernel
theorem dX4_pay_15 : decode cX4_pay 15 = .ok (.getfield 97, 3) := by decide +kernel
theorem dX4_pay_18 : decode cX4_pay 18 = .ok (.iload_n 2, 1) := by decide +kernel
theorem dX4_pay_19 : decode cX4_pay 19 = .ok (.iadd, 1) := by decide +kernel
theorem dX4_pay_20 : decode cX4_pay 20 = .ok (.putfield 97, 3) := by decide +kernel
theorem dX4_pay_23 : decode cX4_pay 23 = .ok (.aload_n 3, 1) := by decide +kernel
theorem dX4_pay_24 : decode cX4_pay 24 = .ok (.iload_n 2, 1) := by decide +kernel
theorem dX4_pay_25 : decode cX4_pay 25 = .ok (.invokevirtual 100, 3) := by decide +kernel
theorem dX4_pay_28 : decode cX4_pay 28 = .ok (.aload_n 3, 1) := by decide +kernel
theorem dX4_pay_29 : decode cX4_pay 29 = .ok (.getfield 103, 3) := by decide +kernel
theorem dX4_pay_32 : decode cX4_pay 32 = .ok (.ireturn, 1) := by decide +kernel
set_option maxRecDepth 20000 in
theorem ggX4_call_X4_keyAt : GoodIn wsX4_call wsX4_keyAt := goodIn_ca (goodIn_r _ [12, 13, 14, 15, 16, 17, 18, 19, 20, 21, 22, 23, 24, 25, 26, 27, 28, 29, 30, 31, 32, 33, 34, 35, 36, 37, 38, 39, 127, 128, 129, 130, 131, 132, 151, 152, 153] (by decide +kernel) (by decide +kernel)) (goodIn_sub (fun _ h => List.mem_cons_of_mem _ (List.mem_append_left _ (List.mem_append_right _ h))) (by decide +kernel))
set_option maxRecDepth 20000 in
theorem gX4_call_X4_keyAt : GoodIn wsX4_call (wsV RX4 82 RX4 yX4_keyAt wsX4_keyAt) := goodIn_app (goodIn_of _ (by decide +kernel)) ggX4_call_X4_keyAt
set_option maxRecDepth 20000 in
theorem ggX4_call_X4_routeAt : GoodIn wsX4_call wsX4_routeAt := goodIn_ca (goodIn_r _ [43, 44, 45, 46, 127, 128, 129, 130, 131, 132] (by decide +kernel) (by decide +kernel)) (goodIn_sub (fun _ h => List.mem_cons_of_mem _ (List.mem_append_right _ h)) (by decide +kernel))
set_option maxRecDepth 20000 in
theorem gX4_call_X4_routeAt : GoodIn wsX4_call (wsV RX4 53 RX4 yX4_routeAt wsX4_routeAt) := goodIn_app (goodIn_of _ (by decide +kernel)) ggX4_call_X4_routeAt
set_option maxRecDepth 20000 in
theorem ggX4_call_X4_refuseOutside : GoodIn wsX4_call wsX4_refuseOutside := goodIn_ca (goodIn_r _ [49, 44, 45] (by decide +kernel) (by decide +kernel)) (goodIn_sub (fun _ h => List.mem_cons_of_mem _ (List.mem_append_right _ h)) (by decide +kernel))
set_option maxRecDepth 20000 in
theorem gX4_call_X4_refuseOutside : GoodIn wsX4_call (va_wsS RX4 39 yX4_refuseOutside wsX4_refuseOutside) := goodIn_app (goodIn_of _ (by decide +kernel)) ggX4_call_X4_refuseOutside
set_option maxRecDepth 20000 in
theorem ggX4_call_Jx4a65c_size_8abf5 : GoodIn wsX4_call wsJx4a65c_size_8abf5 := goodIn_r _ [21, 22, 151, 152, 153] (by decide +kernel) (by decide +kernel)
set_option maxRecDepth 20000 in
theorem gX4_call_Jx4a65c_size_8abf5 : GoodIn wsX4_call (wsV RX4 63 RJx4a65c yJx4a65c_size_8abf5 wsJx4a65c_size_8abf5) := goodIn_app (goodIn_of _ (by decide +kernel)) ggX4_call_Jx4a65c_size_8abf5
set_option maxRecDepth 20000 in
theorem ggX4_call_X1_canCover : GoodIn wsX4_call wsX1_canCover := goodIn_r _ [53, 54, 55, 56, 57, 58, 59, 60, 135, 136, 137, 138, 139, 140, 141, 142, 143] (by decide +kernel) (by decide +kernel)
set_option maxRecDepth 20000 in
theorem gX4_call_X1_canCover_n111 : GoodIn wsX4_call (wsX1_canCover) := ggX4_call_X1_canCover
set_option maxRecDepth 20000 in
theorem ggX4_call_X1_openHold : GoodIn wsX4_call wsX1_openHold := goodIn_r _ [63, 60, 64, 65, 58, 66, 55, 67, 68, 135, 136, 137, 138, 139, 140, 141, 142, 143] (by decide +kernel) (by decide +kernel)
set_option maxRecDepth 20000 in
theorem gX4_call_X1_openHold_n115 : GoodIn wsX4_call (wsX1_openHold) := ggX4_call_X1_openHold
set_option maxRecDepth 20000 in
theorem ggX4_call_X0_init : GoodIn wsX4_call wsX0_init := goodIn_r _ [70, 71, 72, 73, 74, 75, 76, 77, 78, 144, 145, 146, 147, 148, 149, 150] (by decide +kernel) (by decide +kernel)
set_option maxRecDepth 20000 in
theorem gX4_call_X0_init_n123 : GoodIn wsX4_call (wsX0_init) := ggX4_call_X0_init
set_option maxRecDepth 20000 in
theorem ggX4_call_Jx4a65c_add_9ea2d : GoodIn wsX4_call wsJx4a65c_add_9ea2d := goodIn_r _ [82, 83, 84, 39, 22, 85, 86, 87, 20, 88, 89, 90, 91, 92, 93, 94, 95, 96, 97, 98, 57, 58, 59, 99, 100, 101, 102, 103, 104, 105, 106, 107, 108, 109, 110, 111, 112, 113, 114, 115, 116, 117, 118, 119, 120, 121, 122, 65, 66, 123, 124, 125, 126, 151, 152, 153] (by decide +kernel) (by decide +kernel)
set_option maxRecDepth 20000 in
theorem gX4_call_Jx4a65c_add_9ea2d : GoodIn wsX4_call (wsV RX4 78 RJx4a65c yJx4a65c_add_9ea2d wsJx4a65c_add_9ea2d) := goodIn_app (goodIn_of _ (by decide +kernel)) ggX4_call_Jx4a65c_add_9ea2d
theorem dX4_call_0 : decode cX4_call 0 = .ok (.aload_n 0, 1) := by decide +kernel
theorem dX4_call_1 : decode cX4_call 1 = .ok (.iload_n 1, 1) := by decide +kernel
theorem dX4_call_2 : decode cX4_call 2 = .ok (.invokevirtual 82, 3) := by decide +kernel
theorem dX4_call_5 : decode cX4_call 5 = .ok (.astore 4, 2) := by decide +kernel
theorem dX4_call_7 : decode cX4_call 7 = .ok (.aload_n 0, 1) := by decide +kernel
theorem dX4_call_8 : decode cX4_call 8 = .ok (.iload_n 2, 1) := by decide +kernel
theorem dX4_call_9 : decode cX4_call 9 = .ok (.invokevirtual 53, 3) := by decide +kernel
theorem dX4_call_12 : decode cX4_call 12 = .ok (.astore 5, 2) := by decide +kernel
theorem dX4_call_14 : decode cX4_call 14 = .ok (.iload_n 3, 1) := by decide +kernel
theorem dX4_call_15 : decode cX4_call 15 = .ok (.iconst 1, 1) := by decide +kernel
theorem dX4_call_16 : decode cX4_call 16 = .ok (.bipush 9, 2) := by decide +kernel
theorem dX4_call_18 : decode cX4_call 18 = .ok (.invokestatic 39, 3) := by decide +kernel
theorem dX4_call_21 : decode cX4_call 21 = .ok (.aload_n 0, 1) := by decide +kernel
theorem dX4_call_22 : decode cX4_call 22 = .ok (.getfield 28, 3) := by decide +kernel
theorem dX4_call_25 : decode cX4_call 25 = .ok (.invokevirtual 63, 3) := by decide +kernel
theorem dX4_call_28 : decode cX4_call 28 = .ok (.bipush 80, 2) := by decide +kernel
theorem dX4_call_30 : decode cX4_call 30 = .ok (.if_icmp .lt 13, 3) := by decide +kernel
theorem dX4_call_33 : decode cX4_call 33 = .ok (.new 66, 3) := by decide +kernel
theorem dX4_call_36 : decode cX4_call 36 = .ok (.dup, 1) := by decide +kernel
theorem dX4_call_37 : decode cX4_call 37 = .ok (.ldc 106, 2) := by decide +kernel
theorem dX4_call_39 : decode cX4_call 39 = .ok (.invokespecial 70, 3) := by decide +kernel
theorem dX4_call_42 : decode cX4_call 42 = .ok (.athrow, 1) := by decide +kernel
theorem dX4_call_43 : decode cX4_call 43 = .ok (.aload 5, 2) := by decide +kernel
theorem dX4_call_45 : decode cX4_call 45 = .ok (.getfield 57, 3) := by decide +kernel
theorem dX4_call_48 : decode cX4_call 48 = .ok (.iload_n 3, 1) := by decide +kernel
theorem dX4_call_49 : decode cX4_call 49 = .ok (.imul, 1) := by decide +kernel
theorem dX4_call_50 : decode cX4_call 50 = .ok (.istore 6, 2) := by decide +kernel
theorem dX4_call_52 : decode cX4_call 52 = .ok (.aload 4, 2) := by decide +kernel
theorem dX4_call_54 : decode cX4_call 54 = .ok (.getfield 108, 3) := by decide +kernel
theorem dX4_call_57 : decode cX4_call 57 = .ok (.aload 5, 2) := by decide +kernel
theorem dX4_call_59 : decode cX4_call 59 = .ok (.getfield 60, 3) := by decide +kernel
theorem dX4_call_62 : decode cX4_call 62 = .ok (.if_icmp .ge 5, 3) := by decide +kernel
theorem dX4_call_65 : decode cX4_call 65 = .ok (.iconst 1, 1) := by decide +kernel
theorem dX4_call_66 : decode cX4_call 66 = .ok (.ireturn, 1) := by decide +kernel
theorem dX4_call_67 : decode cX4_call 67 = .ok (.aload 4, 2) := by decide +kernel
theorem dX4_call_69 : decode cX4_call 69 = .ok (.iload 6, 2) := by decide +kernel
theorem dX4_call_71 : decode cX4_call 71 = .ok (.invokevirtual 111, 3) := by decide +kernel
theorem dX4_call_74 : decode cX4_call 74 = .ok (.ifCond .ne 5, 3) := by decide +kernel
theorem dX4_call_77 : decode cX4_call 77 = .ok (.iconst 2, 1) := by decide +kernel
theorem dX4_call_78 : decode cX4_call 78 = .ok (.ireturn, 1) := by decide +kernel
theorem dX4_call_79 : decode cX4_call 79 = .ok (.aload 4, 2) := by decide +kernel
theorem dX4_call_81 : decode cX4_call 81 = .ok (.dup, 1) := by decide +kernel
theorem dX4_call_82 : decode cX4_call 82 = .ok (.getfield 108, 3) := by decide +kernel
theorem dX4_call_85 : decode cX4_call 85 = .ok (.aload 5, 2) := by decide +kernel
theorem dX4_call_87 : decode cX4_call 87 = .ok (.getfield 60, 3) := by decide +kernel
theorem dX4_call_90 : decode cX4_call 90 = .ok (.isub, 1) := by decide +kernel
theorem dX4_call_91 : decode cX4_call 91 = .ok (.putfield 108, 3) := by decide +kernel
theorem dX4_call_94 : decode cX4_call 94 = .ok (.aload 4, 2) := by decide +kernel
theorem dX4_call_96 : decode cX4_call 96 = .ok (.iload 6, 2) := by decide +kernel
theorem dX4_call_98 : decode cX4_call 98 = .ok (.invokevirtual 115, 3) := by decide +kernel
theorem dX4_call_101 : decode cX4_call 101 = .ok (.aload_n 0, 1) := by decide +kernel
theorem dX4_call_102 : decode cX4_call 102 = .ok (.getfield 28, 3) := by decide +kernel
theorem dX4_call_105 : decode cX4_call 105 = .ok (.new 118, 3) := by decide +kernel
theorem dX4_call_108 : decode cX4_call 108 = .ok (.dup, 1) := by decide +kernel
theorem dX4_call_109 : decode cX4_call 109 = .ok (.aload 4, 2) := by decide +kernel
theorem dX4_call_111 : decode cX4_call 111 = .ok (.iload 6, 2) := by decide +kernel
theorem dX4_call_113 : decode cX4_call 113 = .ok (.aload 5, 2) := by decide +kernel
theorem dX4_call_115 : decode cX4_call 115 = .ok (.getfield 60, 3) := by decide +kernel
theorem dX4_call_118 : decode cX4_call 118 = .ok (.aload_n 0, 1) := by decide +kernel
theorem dX4_call_119 : decode cX4_call 119 = .ok (.getfield 120, 3) := by decide +kernel
theorem dX4_call_122 : decode cX4_call 122 = .ok (.bipush 20, 2) := by decide +kernel
theorem dX4_call_124 : decode cX4_call 124 = .ok (.iadd, 1) := by decide +kernel
theorem dX4_call_125 : decode cX4_call 125 = .ok (.invokespecial 123, 3) := by decide +kernel
theorem dX4_call_128 : decode cX4_call 128 = .ok (.invokevirtual 78, 3) := by decide +kernel
theorem dX4_call_131 : decode cX4_call 131 = .ok (.pop, 1) := by decide +kernel
theorem dX4_call_132 : decode cX4_call 132 = .ok (.iconst 0, 1) := by decide +kernel
theorem dX4_call_133 : decode cX4_call 133 = .ok (.ireturn, 1) := by decide +kernel
set_option maxRecDepth 20000 in
theorem ggX4_end_X4_callAt : GoodIn wsX4_end wsX4_callAt := goodIn_ca (goodIn_r _ [8, 9, 10, 11, 12, 13, 14, 15, 16, 17, 18, 19, 20, 21, 22, 23, 24, 25, 26, 27, 28, 29, 30, 31, 32, 33, 34, 35, 73, 74, 75, 76, 77, 78, 86, 87, 88] (by decide +kernel) (by decide +kernel)) (goodIn_sub (fun _ h => List.mem_cons_of_mem _ (List.mem_append_left _ (List.mem_append_right _ h))) (by decide +kernel))
set_option maxRecDepth 20000 in
theorem gX4_end_X4_callAt : GoodIn wsX4_end (wsV RX4 126 RX4 yX4_callAt wsX4_callAt) := goodIn_app (goodIn_of _ (by decide +kernel)) ggX4_end_X4_callAt
set_option maxRecDepth 20000 in
theorem ggX4_end_X4_refuseOutside : GoodIn wsX4_end wsX4_refuseOutside := goodIn_ca (goodIn_r _ [38, 39, 40] (by decide +kernel) (by decide +kernel)) (goodIn_sub (fun _ h => List.mem_cons_of_mem _ (List.mem_append_right _ h)) (by decide +kernel))
set_option maxRecDepth 20000 in
theorem gX4_end_X4_refuseOutside : GoodIn wsX4_end (va_wsS RX4 39 yX4_refuseOutside wsX4_refuseOutside) := goodIn_app (goodIn_of _ (by decide +kernel)) ggX4_end_X4_refuseOutside
set_option maxRecDepth 20000 in
theorem ggX4_end_X0_hasEnded : GoodIn wsX4_end wsX0_hasEnded := goodIn_r _ [44, 45, 79, 80, 81, 82, 83, 84, 85] (by decide +kernel) (by decide +kernel)
set_option maxRecDepth 20000 in
theorem gX4_end_X0_hasEnded_n130 : GoodIn wsX4_end (wsX0_hasEnded) := ggX4_end_X0_hasEnded
set_option maxRecDepth 20000 in
theorem ggX4_end_X0_settle : GoodIn wsX4_end wsX0_settle := goodIn_r _ [48, 45, 49, 50, 51, 52, 53, 54, 42, 55, 56, 57, 58, 59, 60, 61, 62, 63, 64, 65, 66, 67, 68, 69, 70, 71, 72, 79, 80, 81, 82, 83, 84, 85, 89, 90, 91, 92, 93, 94, 95, 96, 97] (by decide +kernel) (by decide +kernel)
set_option maxRecDepth 20000 in
theorem gX4_end_X0_settle_n136 : GoodIn wsX4_end (wsX0_settle) := ggX4_end_X0_settle
theorem dX4_end_0 : decode cX4_end 0 = .ok (.aload_n 0, 1) := by decide +kernel
theorem dX4_end_1 : decode cX4_end 1 = .ok (.iload_n 1, 1) := by decide +kernel
theorem dX4_end_2 : decode cX4_end 2 = .ok (.invokevirtual 126, 3) := by decide +kernel
theorem dX4_end_5 : decode cX4_end 5 = .ok (.astore_n 3, 1) := by decide +kernel
theorem dX4_end_6 : decode cX4_end 6 = .ok (.iload_n 2, 1) := by decide +kernel
theorem dX4_end_7 : decode cX4_end 7 = .ok (.iconst 0, 1) := by decide +kernel
theorem dX4_end_8 : decode cX4_end 8 = .ok (.iconst 2, 1) := by decide +kernel
theorem dX4_end_9 : decode cX4_end 9 = .ok (.invokestatic 39, 3) := by decide +kernel
theorem dX4_end_12 : decode cX4_end 12 = .ok (.aload_n 3, 1) := by decide +kernel
theorem dX4_end_13 : decode cX4_end 13 = .ok (.invokevirtual 130, 3) := by decide +kernel
theorem dX4_end_16 : decode cX4_end 16 = .ok (.ifCond .eq 13, 3) := by decide +kernel
theorem dX4_end_19 : decode cX4_end 19 = .ok (.new 66, 3) := by decide +kernel
theorem dX4_end_22 : decode cX4_end 22 = .ok (.dup, 1) := by decide +kernel
theorem dX4_end_23 : decode cX4_end 23 = .ok (.ldc 134, 2) := by decide +kernel
theorem dX4_end_25 : decode cX4_end 25 = .ok (.invokespecial 70, 3) := by decide +kernel
theorem dX4_end_28 : decode cX4_end 28 = .ok (.athrow, 1) := by decide +kernel
theorem dX4_end_29 : decode cX4_end 29 = .ok (.aload_n 3, 1) := by decide +kernel
theorem dX4_end_30 : decode cX4_end 30 = .ok (.iload_n 2, 1) := by decide +kernel
theorem dX4_end_31 : decode cX4_end 31 = .ok (.aload_n 0, 1) := by decide +kernel
theorem dX4_end_32 : decode cX4_end 32 = .ok (.getfield 120, 3) := by decide +kernel
theorem dX4_end_35 : decode cX4_end 35 = .ok (.invokevirtual 136, 3) := by decide +kernel
theorem dX4_end_38 : decode cX4_end 38 = .ok (.aload_n 3, 1) := by decide +kernel
theorem dX4_end_39 : decode cX4_end 39 = .ok (.getfield 140, 3) := by decide +kernel
theorem dX4_end_42 : decode cX4_end 42 = .ok (.ireturn, 1) := by decide +kernel
set_option maxRecDepth 20000 in
theorem ggX4_dispute_X4_callAt : GoodIn wsX4_dispute wsX4_callAt := goodIn_ca (goodIn_r _ [8, 9, 10, 11, 12, 13, 14, 15, 16, 17, 18, 19, 20, 21, 22, 23, 24, 25, 26, 27, 28, 29, 30, 31, 32, 33, 34, 35, 64, 65, 66, 67, 68, 69, 70, 71, 72] (by decide +kernel) (by decide +kernel)) (goodIn_sub (fun _ h => List.mem_cons_of_mem _ (List.mem_append_right _ h)) (by decide +kernel))
set_option maxRecDepth 20000 in
theorem gX4_dispute_X4_callAt : GoodIn wsX4_dispute (wsV RX4 126 RX4 yX4_callAt wsX4_callAt) := goodIn_app (goodIn_of _ (by decide +kernel)) ggX4_dispute_X4_callAt
set_option maxRecDepth 20000 in
theorem ggX4_dispute_X0_hasEnded : GoodIn wsX4_dispute wsX0_hasEnded := goodIn_r _ [39, 40, 57, 58, 59, 60, 61, 62, 63] (by decide +kernel) (by decide +kernel)
set_option maxRecDepth 20000 in
theorem gX4_dispute_X0_hasEnded_n130 : GoodIn wsX4_dispute (wsX0_hasEnded) := ggX4_dispute_X0_hasEnded
set_option maxRecDepth 20000 in
theorem ggX4_dispute_X0_giveBack : GoodIn wsX4_dispute wsX0_giveBack := goodIn_r _ [43, 40, 44, 45, 46, 47, 48, 49, 50, 51, 52, 53, 54, 55, 56, 57, 58, 59, 60, 61, 62, 63, 73, 74, 75, 76, 77, 78, 79, 80, 81] (by decide +kernel) (by decide +kernel)
set_option maxRecDepth 20000 in
theorem gX4_dispute_X0_giveBack_n156 : GoodIn wsX4_dispute (wsX0_giveBack) := ggX4_dispute_X0_giveBack
theorem dX4_dispute_0 : decode cX4_dispute 0 = .ok (.aload_n 0, 1) := by decide +kernel
theorem dX4_dispute_1 : decode cX4_dispute 1 = .ok (.iload_n 1, 1) := by decide +kernel
theorem dX4_dispute_2 : decode cX4_dispute 2 = .ok (.invokevirtual 126, 3) := by decide +kernel
theorem dX4_dispute_5 : decode cX4_dispute 5 = .ok (.astore_n 2, 1) := by decide +kernel
theorem dX4_dispute_6 : decode cX4_dispute 6 = .ok (.aload_n 2, 1) := by decide +kernel
theorem dX4_dispute_7 : decode cX4_dispute 7 = .ok (.invokevirtual 130, 3) := by decide +kernel
theorem dX4_dispute_10 : decode cX4_dispute 10 = .ok (.ifCond .ne 13, 3) := by decide +kernel
theorem dX4_dispute_13 : decode cX4_dispute 13 = .ok (.new 66, 3) := by decide +kernel
theorem dX4_dispute_16 : decode cX4_dispute 16 = .ok (.dup, 1) := by decide +kernel
theorem dX4_dispute_17 : decode cX4_dispute 17 = .ok (.ldc 143, 2) := by decide +kernel
theorem dX4_dispute_19 : decode cX4_dispute 19 = .ok (.invokespecial 70, 3) := by decide +kernel
theorem dX4_dispute_22 : decode cX4_dispute 22 = .ok (.athrow, 1) := by decide +kernel
theorem dX4_dispute_23 : decode cX4_dispute 23 = .ok (.aload_n 2, 1) := by decide +kernel
theorem dX4_dispute_24 : decode cX4_dispute 24 = .ok (.getfield 145, 3) := by decide +kernel
theorem dX4_dispute_27 : decode cX4_dispute 27 = .ok (.ifCond .eq 13, 3) := by decide +kernel
theorem dX4_dispute_30 : decode cX4_dispute 30 = .ok (.new 66, 3) := by decide +kernel
theorem dX4_dispute_33 : decode cX4_dispute 33 = .ok (.dup, 1) := by decide +kernel
theorem dX4_dispute_34 : decode cX4_dispute 34 = .ok (.ldc 149, 2) := by decide +kernel
theorem dX4_dispute_36 : decode cX4_dispute 36 = .ok (.invokespecial 70, 3) := by decide +kernel
theorem dX4_dispute_39 : decode cX4_dispute 39 = .ok (.athrow, 1) := by decide +kernel
theorem dX4_dispute_40 : decode cX4_dispute 40 = .ok (.aload_n 0, 1) := by decide +kernel
theorem dX4_dispute_41 : decode cX4_dispute 41 = .ok (.getfield 120, 3) := by decide +kernel
theorem dX4_dispute_44 : decode cX4_dispute 44 = .ok (.aload_n 2, 1) := by decide +kernel
theorem dX4_dispute_45 : decode cX4_dispute 45 = .ok (.getfield 151, 3) := by decide +kernel
theorem dX4_dispute_48 : decode cX4_dispute 48 = .ok (.isub, 1) := by decide +kernel
theorem dX4_dispute_49 : decode cX4_dispute 49 = .ok (.bipush 50, 2) := by decide +kernel
theorem dX4_dispute_51 : decode cX4_dispute 51 = .ok (.if_icmp .le 13, 3) := by decide +kernel
theorem dX4_dispute_54 : decode cX4_dispute 54 = .ok (.new 66, 3) := by decide +kernel
theorem dX4_dispute_57 : decode cX4_dispute 57 = .ok (.dup, 1) := by decide +kernel
theorem dX4_dispute_58 : decode cX4_dispute 58 = .ok (.ldc 154, 2) := by decide +kernel
theorem dX4_dispute_60 : decode cX4_dispute 60 = .ok (.invokespecial 70, 3) := by decide +kernel
theorem dX4_dispute_63 : decode cX4_dispute 63 = .ok (.athrow, 1) := by decide +kernel
theorem dX4_dispute_64 : decode cX4_dispute 64 = .ok (.aload_n 2, 1) := by decide +kernel
theorem dX4_dispute_65 : decode cX4_dispute 65 = .ok (.invokevirtual 156, 3) := by decide +kernel
theorem dX4_dispute_68 : decode cX4_dispute 68 = .ok (.ireturn, 1) := by decide +kernel
set_option maxRecDepth 20000 in
theorem ggX4_pass_X4_refuseOutside : GoodIn wsX4_pass wsX4_refuseOutside := goodIn_ca (goodIn_r _ [5, 6, 7] (by decide +kernel) (by decide +kernel)) (goodIn_sub (fun _ h => List.mem_cons_of_mem _ (List.mem_append_right _ h)) (by decide +kernel))
set_option maxRecDepth 20000 in
theorem gX4_pass_X4_refuseOutside : GoodIn wsX4_pass (va_wsS RX4 39 yX4_refuseOutside wsX4_refuseOutside) := goodIn_app (goodIn_of _ (by decide +kernel)) ggX4_pass_X4_refuseOutside
set_option maxRecDepth 20000 in
theorem ggX4_pass_X4_runOutHolds : GoodIn wsX4_pass wsX4_runOutHolds := goodIn_r _ [11, 12, 13, 14, 1, 15, 16, 17, 18, 19, 20, 21, 22, 23, 24, 25, 26, 27, 28, 29, 30, 31, 32, 33, 34, 35, 36, 37, 38, 39, 40, 41, 42, 43, 44, 45, 46, 47, 48, 49, 50, 51, 52, 53, 54, 55, 56, 57, 58, 59, 60, 61, 62, 63, 64, 65, 66, 67, 68, 69, 85, 86, 87, 88, 89, 90, 91, 92, 93, 94, 95, 96, 97, 98, 99, 100, 101, 102, 103, 104, 105, 106, 107, 108, 109] (by decide +kernel) (by decide +kernel)
set_option maxRecDepth 20000 in
theorem gX4_pass_X4_runOutHolds : GoodIn wsX4_pass (wsV RX4 159 RX4 yX4_runOutHolds wsX4_runOutHolds) := goodIn_app (goodIn_of _ (by decide +kernel)) ggX4_pass_X4_runOutHolds
set_option maxRecDepth 20000 in
theorem ggX4_pass_X4_refillBuckets : GoodIn wsX4_pass wsX4_refillBuckets := goodIn_r _ [73, 74, 75, 15, 16, 17, 18, 19, 20, 21, 22, 23, 24, 25, 26, 27, 28, 29, 30, 31, 32, 33, 34, 35, 36, 37, 76, 54, 77, 78, 79, 80, 65, 66, 67, 68, 81, 82, 83, 84, 69, 58, 85, 86, 87, 88, 89, 90, 98, 99, 100, 101, 102, 103, 104, 105, 106, 107, 108, 109, 110, 111, 112, 113] (by decide +kernel) (by decide +kernel)
set_option maxRecDepth 20000 in
theorem gX4_pass_X4_refillBuckets : GoodIn wsX4_pass (wsV RX4 162 RX4 yX4_refillBuckets wsX4_refillBuckets) := goodIn_app (goodIn_of _ (by decide +kernel)) ggX4_pass_X4_refillBuckets
theorem dX4_pass_0 : decode cX4_pass 0 = .ok (.iload_n 1, 1) := by decide +kernel
theorem dX4_pass_1 : decode cX4_pass 1 = .ok (.iconst 1, 1) := by decide +kernel
theorem dX4_pass_2 : decode cX4_pass 2 = .ok (.bipush 100, 2) := by decide +kernel
theorem dX4_pass_4 : decode cX4_pass 4 = .ok (.invokestatic 39, 3) := by decide +kernel
theorem dX4_pass_7 : decode cX4_pass 7 = .ok (.iconst 0, 1) := by decide +kernel
theorem dX4_pass_8 : decode cX4_pass 8 = .ok (.istore_n 2, 1) := by decide +kernel
theorem dX4_pass_9 : decode cX4_pass 9 = .ok (.iconst 0, 1) := by decide +kernel
theorem dX4_pass_10 : decode cX4_pass 10 = .ok (.istore_n 3, 1) := by decide +kernel
theorem dX4_pass_11 : decode cX4_pass 11 = .ok (.iload_n 3, 1) := by decide +kernel
theorem dX4_pass_12 : decode cX4_pass 12 = .ok (.iload_n 1, 1) := by decide +kernel
theorem dX4_pass_13 : decode cX4_pass 13 = .ok (.if_icmp .ge 30, 3) := by decide +kernel
theorem dX4_pass_16 : decode cX4_pass 16 = .ok (.aload_n 0, 1) := by decide +kernel
theorem dX4_pass_17 : decode cX4_pass 17 = .ok (.dup, 1) := by decide +kernel
theorem dX4_pass_18 : decode cX4_pass 18 = .ok (.getfield 120, 3) := by decide +kernel
theorem dX4_pass_21 : decode cX4_pass 21 = .ok (.iconst 1, 1) := by decide +kernel
theorem dX4_pass_22 : decode cX4_pass 22 = .ok (.iadd, 1) := by decide +kernel
theorem dX4_pass_23 : decode cX4_pass 23 = .ok (.putfield 120, 3) := by decide +kernel
theorem dX4_pass_26 : decode cX4_pass 26 = .ok (.iload_n 2, 1) := by decide +kernel
theorem dX4_pass_27 : decode cX4_pass 27 = .ok (.aload_n 0, 1) := by decide +kernel
theorem dX4_pass_28 : decode cX4_pass 28 = .ok (.invokevirtual 159, 3) := by decide +kernel
theorem dX4_pass_31 : decode cX4_pass 31 = .ok (.iadd, 1) := by decide +kernel
theorem dX4_pass_32 : decode cX4_pass 32 = .ok (.istore_n 2, 1) := by decide +kernel
theorem dX4_pass_33 : decode cX4_pass 33 = .ok (.aload_n 0, 1) := by decide +kernel
theorem dX4_pass_34 : decode cX4_pass 34 = .ok (.invokevirtual 162, 3) := by decide +kernel
theorem dX4_pass_37 : decode cX4_pass 37 = .ok (.iinc 3 1, 3) := by decide +kernel
theorem dX4_pass_40 : decode cX4_pass 40 = .ok (.goto (-29), 3) := by decide +kernel
theorem dX4_pass_43 : decode cX4_pass 43 = .ok (.iload_n 2, 1) := by decide +kernel
theorem dX4_pass_44 : decode cX4_pass 44 = .ok (.ireturn, 1) := by decide +kernel
theorem dX4_now_0 : decode cX4_now 0 = .ok (.aload_n 0, 1) := by decide +kernel
theorem dX4_now_1 : decode cX4_now 1 = .ok (.getfield 120, 3) := by decide +kernel
theorem dX4_now_4 : decode cX4_now 4 = .ok (.ireturn, 1) := by decide +kernel
set_option maxRecDepth 20000 in
theorem ggX4_calls_Jx4a65c_size_8abf5 : GoodIn wsX4_calls wsJx4a65c_size_8abf5 := goodIn_r _ [6, 7, 14, 15, 16] (by decide +kernel) (by decide +kernel)
set_option maxRecDepth 20000 in
theorem gX4_calls_Jx4a65c_size_8abf5 : GoodIn wsX4_calls (wsV RX4 63 RJx4a65c yJx4a65c_size_8abf5 wsJx4a65c_size_8abf5) := goodIn_app (goodIn_of _ (by decide +kernel)) ggX4_calls_Jx4a65c_size_8abf5
theorem dX4_calls_0 : decode cX4_calls 0 = .ok (.aload_n 0, 1) := by decide +kernel
theorem dX4_calls_1 : decode cX4_calls 1 = .ok (.getfield 28, 3) := by decide +kernel
theorem dX4_calls_4 : decode cX4_calls 4 = .ok (.invokevirtual 63, 3) := by decide +kernel
theorem dX4_calls_7 : decode cX4_calls 7 = .ok (.ireturn, 1) := by decide +kernel
set_option maxRecDepth 20000 in
theorem ggX4_credit_X4_keyAt : GoodIn wsX4_credit wsX4_keyAt := goodIn_ca (goodIn_r _ [5, 6, 7, 8, 9, 10, 11, 12, 13, 14, 15, 16, 17, 18, 19, 20, 21, 22, 23, 24, 25, 26, 27, 28, 29, 30, 31, 32, 42, 43, 44, 45, 46, 47, 48, 49, 50] (by decide +kernel) (by decide +kernel)) (goodIn_sub (fun _ h => List.mem_cons_of_mem _ (List.mem_append_right _ h)) (by decide +kernel))
set_option maxRecDepth 20000 in
theorem gX4_credit_X4_keyAt : GoodIn wsX4_credit (wsV RX4 82 RX4 yX4_keyAt wsX4_keyAt) := goodIn_app (goodIn_of _ (by decide +kernel)) ggX4_credit_X4_keyAt
theorem dX4_credit_0 : decode cX4_credit 0 = .ok (.aload_n 0, 1) := by decide +kernel
theorem dX4_credit_1 : decode cX4_credit 1 = .ok (.iload_n 1, 1) := by decide +kernel
theorem dX4_credit_2 : decode cX4_credit 2 = .ok (.invokevirtual 82, 3) := by decide +kernel
theorem dX4_credit_5 : decode cX4_credit 5 = .ok (.getfield 103, 3) := by decide +kernel
theorem dX4_credit_8 : decode cX4_credit 8 = .ok (.ireturn, 1) := by decide +kernel
set_option maxRecDepth 20000 in
theorem ggX4_debt_X4_keyAt : GoodIn wsX4_debt wsX4_keyAt := goodIn_ca (goodIn_r _ [5, 6, 7, 8, 9, 10, 11, 12, 13, 14, 15, 16, 17, 18, 19, 20, 21, 22, 23, 24, 25, 26, 27, 28, 29, 30, 31, 32, 42, 43, 44, 45, 46, 47, 48, 49, 50] (by decide +kernel) (by decide +kernel)) (goodIn_sub (fun _ h => List.mem_cons_of_mem _ (List.mem_append_right _ h)) (by decide +kernel))
set_option maxRecDepth 20000 in
theorem gX4_debt_X4_keyAt : GoodIn wsX4_debt (wsV RX4 82 RX4 yX4_keyAt wsX4_keyAt) := goodIn_app (goodIn_of _ (by decide +kernel)) ggX4_debt_X4_keyAt
theorem dX4_debt_0 : decode cX4_debt 0 = .ok (.aload_n 0, 1) := by decide +kernel
theorem dX4_debt_1 : decode cX4_debt 1 = .ok (.iload_n 1, 1) := by decide +kernel
theorem dX4_debt_2 : decode cX4_debt 2 = .ok (.invokevirtual 82, 3) := by decide +kernel
theorem dX4_debt_5 : decode cX4_debt 5 = .ok (.getfield 165, 3) := by decide +kernel
theorem dX4_debt_8 : decode cX4_debt 8 = .ok (.ireturn, 1) := by decide +kernel
set_option maxRecDepth 20000 in
theorem ggX4_held_X4_keyAt : GoodIn wsX4_held wsX4_keyAt := goodIn_ca (goodIn_r _ [5, 6, 7, 8, 9, 10, 11, 12, 13, 14, 15, 16, 17, 18, 19, 20, 21, 22, 23, 24, 25, 26, 27, 28, 29, 30, 31, 32, 42, 43, 44, 45, 46, 47, 48, 49, 50] (by decide +kernel) (by decide +kernel)) (goodIn_sub (fun _ h => List.mem_cons_of_mem _ (List.mem_append_right _ h)) (by decide +kernel))
set_option maxRecDepth 20000 in
theorem gX4_held_X4_keyAt : GoodIn wsX4_held (wsV RX4 82 RX4 yX4_keyAt wsX4_keyAt) := goodIn_app (goodIn_of _ (by decide +kernel)) ggX4_held_X4_keyAt
theorem dX4_held_0 : decode cX4_held 0 = .ok (.aload_n 0, 1) := by decide +kernel
theorem dX4_held_1 : decode cX4_held 1 = .ok (.iload_n 1, 1) := by decide +kernel
theorem dX4_held_2 : decode cX4_held 2 = .ok (.invokevirtual 82, 3) := by decide +kernel
theorem dX4_held_5 : decode cX4_held 5 = .ok (.getfield 168, 3) := by decide +kernel
theorem dX4_held_8 : decode cX4_held 8 = .ok (.ireturn, 1) := by decide +kernel
set_option maxRecDepth 20000 in
theorem ggX4_tokens_X4_keyAt : GoodIn wsX4_tokens wsX4_keyAt := goodIn_ca (goodIn_r _ [5, 6, 7, 8, 9, 10, 11, 12, 13, 14, 15, 16, 17, 18, 19, 20, 21, 22, 23, 24, 25, 26, 27, 28, 29, 30, 31, 32, 42, 43, 44, 45, 46, 47, 48, 49, 50] (by decide +kernel) (by decide +kernel)) (goodIn_sub (fun _ h => List.mem_cons_of_mem _ (List.mem_append_right _ h)) (by decide +kernel))
set_option maxRecDepth 20000 in
theorem gX4_tokens_X4_keyAt : GoodIn wsX4_tokens (wsV RX4 82 RX4 yX4_keyAt wsX4_keyAt) := goodIn_app (goodIn_of _ (by decide +kernel)) ggX4_tokens_X4_keyAt
theorem dX4_tokens_0 : decode cX4_tokens 0 = .ok (.aload_n 0, 1) := by decide +kernel
theorem dX4_tokens_1 : decode cX4_tokens 1 = .ok (.iload_n 1, 1) := by decide +kernel
theorem dX4_tokens_2 : decode cX4_tokens 2 = .ok (.invokevirtual 82, 3) := by decide +kernel
theorem dX4_tokens_5 : decode cX4_tokens 5 = .ok (.getfield 108, 3) := by decide +kernel
theorem dX4_tokens_8 : decode cX4_tokens 8 = .ok (.ireturn, 1) := by decide +kernel
set_option maxRecDepth 20000 in
theorem ggX4_isSlowed_X4_keyAt : GoodIn wsX4_isSlowed wsX4_keyAt := goodIn_ca (goodIn_r _ [5, 6, 7, 8, 9, 10, 11, 12, 13, 14, 15, 16, 17, 18, 19, 20, 21, 22, 23, 24, 25, 26, 27, 28, 29, 30, 31, 32, 39, 40, 41, 42, 43, 44, 45, 46, 47] (by decide +kernel) (by decide +kernel)) (goodIn_sub (fun _ h => List.mem_cons_of_mem _ (List.mem_append_right _ h)) (by decide +kernel))
set_option maxRecDepth 20000 in
theorem gX4_isSlowed_X4_keyAt : GoodIn wsX4_isSlowed (wsV RX4 82 RX4 yX4_keyAt wsX4_keyAt) := goodIn_app (goodIn_of _ (by decide +kernel)) ggX4_isSlowed_X4_keyAt
set_option maxRecDepth 20000 in
theorem ggX4_isSlowed_X1_refillsSlowly : GoodIn wsX4_isSlowed wsX1_refillsSlowly := goodIn_r _ [36, 37, 38, 48, 49, 50, 51, 52, 53, 54, 55, 56] (by decide +kernel) (by decide +kernel)
set_option maxRecDepth 20000 in
theorem gX4_isSlowed_X1_refillsSlowly_n171 : GoodIn wsX4_isSlowed (wsX1_refillsSlowly) := ggX4_isSlowed_X1_refillsSlowly
theorem dX4_isSlowed_0 : decode cX4_isSlowed 0 = .ok (.aload_n 0, 1) := by decide +kernel
theorem dX4_isSlowed_1 : decode cX4_isSlowed 1 = .ok (.iload_n 1, 1) := by decide +kernel
theorem dX4_isSlowed_2 : decode cX4_isSlowed 2 = .ok (.invokevirtual 82, 3) := by decide +kernel
theorem dX4_isSlowed_5 : decode cX4_isSlowed 5 = .ok (.invokevirtual 171, 3) := by decide +kernel
theorem dX4_isSlowed_8 : decode cX4_isSlowed 8 = .ok (.ireturn, 1) := by decide +kernel
set_option maxRecDepth 20000 in
theorem ggX4_cost_X4_callAt : GoodIn wsX4_cost wsX4_callAt := goodIn_ca (goodIn_r _ [5, 6, 7, 8, 9, 10, 11, 12, 13, 14, 15, 16, 17, 18, 19, 20, 21, 22, 23, 24, 25, 26, 27, 28, 29, 30, 31, 32, 40, 41, 42, 43, 44, 45, 46, 47, 48] (by decide +kernel) (by decide +kernel)) (goodIn_sub (fun _ h => List.mem_cons_of_mem _ (List.mem_append_right _ h)) (by decide +kernel))
set_option maxRecDepth 20000 in
theorem gX4_cost_X4_callAt : GoodIn wsX4_cost (wsV RX4 126 RX4 yX4_callAt wsX4_callAt) := goodIn_app (goodIn_of _ (by decide +kernel)) ggX4_cost_X4_callAt
theorem dX4_cost_0 : decode cX4_cost 0 = .ok (.aload_n 0, 1) := by decide +kernel
theorem dX4_cost_1 : decode cX4_cost 1 = .ok (.iload_n 1, 1) := by decide +kernel
theorem dX4_cost_2 : decode cX4_cost 2 = .ok (.invokevirtual 126, 3) := by decide +kernel
theorem dX4_cost_5 : decode cX4_cost 5 = .ok (.getfield 140, 3) := by decide +kernel
theorem dX4_cost_8 : decode cX4_cost 8 = .ok (.ireturn, 1) := by decide +kernel
set_option maxRecDepth 20000 in
theorem ggX4_spent_X4_keyAt : GoodIn wsX4_spent wsX4_keyAt := goodIn_ca (goodIn_r _ [5, 6, 7, 8, 9, 10, 11, 12, 13, 14, 15, 16, 17, 18, 19, 20, 21, 22, 23, 24, 25, 26, 27, 28, 29, 30, 31, 32, 42, 43, 44, 45, 46, 47, 48, 49, 50] (by decide +kernel) (by decide +kernel)) (goodIn_sub (fun _ h => List.mem_cons_of_mem _ (List.mem_append_right _ h)) (by decide +kernel))
set_option maxRecDepth 20000 in
theorem gX4_spent_X4_keyAt : GoodIn wsX4_spent (wsV RX4 82 RX4 yX4_keyAt wsX4_keyAt) := goodIn_app (goodIn_of _ (by decide +kernel)) ggX4_spent_X4_keyAt
theorem dX4_spent_0 : decode cX4_spent 0 = .ok (.aload_n 0, 1) := by decide +kernel
theorem dX4_spent_1 : decode cX4_spent 1 = .ok (.iload_n 1, 1) := by decide +kernel
theorem dX4_spent_2 : decode cX4_spent 2 = .ok (.invokevirtual 82, 3) := by decide +kernel
theorem dX4_spent_5 : decode cX4_spent 5 = .ok (.getfield 174, 3) := by decide +kernel
theorem dX4_spent_8 : decode cX4_spent 8 = .ok (.ireturn, 1) := by decide +kernel
set_option maxRecDepth 20000 in
theorem ggX4_paid_X4_keyAt : GoodIn wsX4_paid wsX4_keyAt := goodIn_ca (goodIn_r _ [5, 6, 7, 8, 9, 10, 11, 12, 13, 14, 15, 16, 17, 18, 19, 20, 21, 22, 23, 24, 25, 26, 27, 28, 29, 30, 31, 32, 42, 43, 44, 45, 46, 47, 48, 49, 50] (by decide +kernel) (by decide +kernel)) (goodIn_sub (fun _ h => List.mem_cons_of_mem _ (List.mem_append_right _ h)) (by decide +kernel))
set_option maxRecDepth 20000 in
theorem gX4_paid_X4_keyAt : GoodIn wsX4_paid (wsV RX4 82 RX4 yX4_keyAt wsX4_keyAt) := goodIn_app (goodIn_of _ (by decide +kernel)) ggX4_paid_X4_keyAt
theorem dX4_paid_0 : decode cX4_paid 0 = .ok (.aload_n 0, 1) := by decide +kernel
theorem dX4_paid_1 : decode cX4_paid 1 = .ok (.iload_n 1, 1) := by decide +kernel
theorem dX4_paid_2 : decode cX4_paid 2 = .ok (.invokevirtual 82, 3) := by decide +kernel
theorem dX4_paid_5 : decode cX4_paid 5 = .ok (.getfield 97, 3) := by decide +kernel
theorem dX4_paid_8 : decode cX4_paid 8 = .ok (.ireturn, 1) := by decide +kernel
theorem dX4_planAt_0 : decode cX4_planAt 0 = .ok (.iload_n 1, 1) := by decide +kernel
theorem dX4_planAt_1 : decode cX4_planAt 1 = .ok (.ifCond .lt 12, 3) := by decide +kernel
theorem dX4_planAt_4 : decode cX4_planAt 4 = .ok (.iload_n 1, 1) := by decide +kernel
theorem dX4_planAt_5 : decode cX4_planAt 5 = .ok (.aload_n 0, 1) := by decide +kernel
theorem dX4_planAt_6 : decode cX4_planAt 6 = .ok (.getfield 11, 3) := by decide +kernel
theorem dX4_planAt_9 : decode cX4_planAt 9 = .ok (.arraylength, 1) := by decide +kernel
theorem dX4_planAt_10 : decode cX4_planAt 10 = .ok (.if_icmp .lt 13, 3) := by decide +kernel
theorem dX4_planAt_13 : decode cX4_planAt 13 = .ok (.new 177, 3) := by decide +kernel
theorem dX4_planAt_16 : decode cX4_planAt 16 = .ok (.dup, 1) := by decide +kernel
theorem dX4_planAt_17 : decode cX4_planAt 17 = .ok (.ldc 179, 2) := by decide +kernel
theorem dX4_planAt_19 : decode cX4_planAt 19 = .ok (.invokespecial 181, 3) := by decide +kernel
theorem dX4_planAt_22 : decode cX4_planAt 22 = .ok (.athrow, 1) := by decide +kernel
theorem dX4_planAt_23 : decode cX4_planAt 23 = .ok (.aload_n 0, 1) := by decide +kernel
theorem dX4_planAt_24 : decode cX4_planAt 24 = .ok (.getfield 11, 3) := by decide +kernel
theorem dX4_planAt_27 : decode cX4_planAt 27 = .ok (.iload_n 1, 1) := by decide +kernel
theorem dX4_planAt_28 : decode cX4_planAt 28 = .ok (.aaload, 1) := by decide +kernel
theorem dX4_planAt_29 : decode cX4_planAt 29 = .ok (.areturn, 1) := by decide +kernel
theorem dX4_routeAt_0 : decode cX4_routeAt 0 = .ok (.iload_n 1, 1) := by decide +kernel
theorem dX4_routeAt_1 : decode cX4_routeAt 1 = .ok (.ifCond .lt 12, 3) := by decide +kernel
theorem dX4_routeAt_4 : decode cX4_routeAt 4 = .ok (.iload_n 1, 1) := by decide +kernel
theorem dX4_routeAt_5 : decode cX4_routeAt 5 = .ok (.aload_n 0, 1) := by decide +kernel
theorem dX4_routeAt_6 : decode cX4_routeAt 6 = .ok (.getfield 17, 3) := by decide +kernel
theorem dX4_routeAt_9 : decode cX4_routeAt 9 = .ok (.arraylength, 1) := by decide +kernel
theorem dX4_routeAt_10 : decode cX4_routeAt 10 = .ok (.if_icmp .lt 13, 3) := by decide +kernel
theorem dX4_routeAt_13 : decode cX4_routeAt 13 = .ok (.new 177, 3) := by decide +kernel
theorem dX4_routeAt_16 : decode cX4_routeAt 16 = .ok (.dup, 1) := by decide +kernel
theorem dX4_routeAt_17 : decode cX4_routeAt 17 = .ok (.ldc 182, 2) := by decide +kernel
theorem dX4_routeAt_19 : decode cX4_routeAt 19 = .ok (.invokespecial 181, 3) := by decide +kernel
theorem dX4_routeAt_22 : decode cX4_routeAt 22 = .ok (.athrow, 1) := by decide +kernel
theorem dX4_routeAt_23 : decode cX4_routeAt 23 = .ok (.aload_n 0, 1) := by decide +kernel
theorem dX4_routeAt_24 : decode cX4_routeAt 24 = .ok (.getfield 17, 3) := by decide +kernel
theorem dX4_routeAt_27 : decode cX4_routeAt 27 = .ok (.iload_n 1, 1) := by decide +kernel
theorem dX4_routeAt_28 : decode cX4_routeAt 28 = .ok (.aaload, 1) := by decide +kernel
theorem dX4_routeAt_29 : decode cX4_routeAt 29 = .ok (.areturn, 1) := by decide +kernel
set_option maxRecDepth 20000 in
theorem ggX4_keyAt_Jx4a65c_size_8abf5 : GoodIn wsX4_keyAt wsJx4a65c_size_8abf5 := goodIn_r _ [9, 10, 34, 35, 36] (by decide +kernel) (by decide +kernel)
set_option maxRecDepth 20000 in
theorem gX4_keyAt_Jx4a65c_size_8abf5 : GoodIn wsX4_keyAt (wsV RX4 63 RJx4a65c yJx4a65c_size_8abf5 wsJx4a65c_size_8abf5) := goodIn_app (goodIn_of _ (by decide +kernel)) ggX4_keyAt_Jx4a65c_size_8abf5
set_option maxRecDepth 20000 in
theorem ggX4_keyAt_Jx4a65c_get_915e3 : GoodIn wsX4_keyAt wsJx4a65c_get_915e3 := goodIn_r _ [14, 10, 15, 16, 17, 18, 19, 20, 21, 22, 23, 24, 25, 8, 26, 27, 34, 35, 36] (by decide +kernel) (by decide +kernel)
set_option maxRecDepth 20000 in
theorem gX4_keyAt_Jx4a65c_get_915e3 : GoodIn wsX4_keyAt (wsV RX4 189 RJx4a65c yJx4a65c_get_915e3 wsJx4a65c_get_915e3) := goodIn_app (goodIn_of _ (by decide +kernel)) ggX4_keyAt_Jx4a65c_get_915e3
theorem dX4_keyAt_0 : decode cX4_keyAt 0 = .ok (.iload_n 1, 1) := by decide +kernel
theorem dX4_keyAt_1 : decode cX4_keyAt 1 = .ok (.ifCond .lt 14, 3) := by decide +kernel
theorem dX4_keyAt_4 : decode cX4_keyAt 4 = .ok (.iload_n 1, 1) := by decide +kernel
theorem dX4_keyAt_5 : decode cX4_keyAt 5 = .ok (.aload_n 0, 1) := by decide +kernel
theorem dX4_keyAt_6 : decode cX4_keyAt 6 = .ok (.getfield 24, 3) := by decide +kernel
theorem dX4_keyAt_9 : decode cX4_keyAt 9 = .ok (.invokevirtual 63, 3) := by decide +kernel
theorem dX4_keyAt_12 : decode cX4_keyAt 12 = .ok (.if_icmp .lt 13, 3) := by decide +kernel
theorem dX4_keyAt_15 : decode cX4_keyAt 15 = .ok (.new 184, 3) := by decide +kernel
theorem dX4_keyAt_18 : decode cX4_keyAt 18 = .ok (.dup, 1) := by decide +kernel
theorem dX4_keyAt_19 : decode cX4_keyAt 19 = .ok (.ldc 186, 2) := by decide +kernel
theorem dX4_keyAt_21 : decode cX4_keyAt 21 = .ok (.invokespecial 188, 3) := by decide +kernel
theorem dX4_keyAt_24 : decode cX4_keyAt 24 = .ok (.athrow, 1) := by decide +kernel
theorem dX4_keyAt_25 : decode cX4_keyAt 25 = .ok (.aload_n 0, 1) := by decide +kernel
theorem dX4_keyAt_26 : decode cX4_keyAt 26 = .ok (.getfield 24, 3) := by decide +kernel
theorem dX4_keyAt_29 : decode cX4_keyAt 29 = .ok (.iload_n 1, 1) := by decide +kernel
theorem dX4_keyAt_30 : decode cX4_keyAt 30 = .ok (.invokevirtual 189, 3) := by decide +kernel
theorem dX4_keyAt_33 : decode cX4_keyAt 33 = .ok (.checkcast 73, 3) := by decide +kernel
theorem dX4_keyAt_36 : decode cX4_keyAt 36 = .ok (.areturn, 1) := by decide +kernel
set_option maxRecDepth 20000 in
theorem ggX4_callAt_Jx4a65c_size_8abf5 : GoodIn wsX4_callAt wsJx4a65c_size_8abf5 := goodIn_r _ [9, 10, 34, 35, 36] (by decide +kernel) (by decide +kernel)
set_option maxRecDepth 20000 in
theorem gX4_callAt_Jx4a65c_size_8abf5 : GoodIn wsX4_callAt (wsV RX4 63 RJx4a65c yJx4a65c_size_8abf5 wsJx4a65c_size_8abf5) := goodIn_app (goodIn_of _ (by decide +kernel)) ggX4_callAt_Jx4a65c_size_8abf5
set_option maxRecDepth 20000 in
theorem ggX4_callAt_Jx4a65c_get_915e3 : GoodIn wsX4_callAt wsJx4a65c_get_915e3 := goodIn_r _ [14, 10, 15, 16, 17, 18, 19, 20, 21, 22, 23, 24, 25, 8, 26, 27, 34, 35, 36] (by decide +kernel) (by decide +kernel)
set_option maxRecDepth 20000 in
theorem gX4_callAt_Jx4a65c_get_915e3 : GoodIn wsX4_callAt (wsV RX4 189 RJx4a65c yJx4a65c_get_915e3 wsJx4a65c_get_915e3) := goodIn_app (goodIn_of _ (by decide +kernel)) ggX4_callAt_Jx4a65c_get_915e3
theorem dX4_callAt_0 : decode cX4_callAt 0 = .ok (.iload_n 1, 1) := by decide +kernel
theorem dX4_callAt_1 : decode cX4_callAt 1 = .ok (.ifCond .lt 14, 3) := by decide +kernel
theorem dX4_callAt_4 : decode cX4_callAt 4 = .ok (.iload_n 1, 1) := by decide +kernel
theorem dX4_callAt_5 : decode cX4_callAt 5 = .ok (.aload_n 0, 1) := by decide +kernel
theorem dX4_callAt_6 : decode cX4_callAt 6 = .ok (.getfield 28, 3) := by decide +kernel
theorem dX4_callAt_9 : decode cX4_callAt 9 = .ok (.invokevirtual 63, 3) := by decide +kernel
theorem dX4_callAt_12 : decode cX4_callAt 12 = .ok (.if_icmp .lt 13, 3) := by decide +kernel
theorem dX4_callAt_15 : decode cX4_callAt 15 = .ok (.new 184, 3) := by decide +kernel
theorem dX4_callAt_18 : decode cX4_callAt 18 = .ok (.dup, 1) := by decide +kernel
theorem dX4_callAt_19 : decode cX4_callAt 19 = .ok (.ldc 193, 2) := by decide +kernel
theorem dX4_callAt_21 : decode cX4_callAt 21 = .ok (.invokespecial 188, 3) := by decide +kernel
theorem dX4_callAt_24 : decode cX4_callAt 24 = .ok (.athrow, 1) := by decide +kernel
theorem dX4_callAt_25 : decode cX4_callAt 25 = .ok (.aload_n 0, 1) := by decide +kernel
theorem dX4_callAt_26 : decode cX4_callAt 26 = .ok (.getfield 28, 3) := by decide +kernel
theorem dX4_callAt_29 : decode cX4_callAt 29 = .ok (.iload_n 1, 1) := by decide +kernel
theorem dX4_callAt_30 : decode cX4_callAt 30 = .ok (.invokevirtual 189, 3) := by decide +kernel
theorem dX4_callAt_33 : decode cX4_callAt 33 = .ok (.checkcast 118, 3) := by decide +kernel
theorem dX4_callAt_36 : decode cX4_callAt 36 = .ok (.areturn, 1) := by decide +kernel
theorem dX4_refuseOutside_0 : decode cX4_refuseOutside 0 = .ok (.iload_n 0, 1) := by decide +kernel
theorem dX4_refuseOutside_1 : decode cX4_refuseOutside 1 = .ok (.iload_n 1, 1) := by decide +kernel
theorem dX4_refuseOutside_2 : decode cX4_refuseOutside 2 = .ok (.if_icmp .lt 8, 3) := by decide +kernel
theorem dX4_refuseOutside_5 : decode cX4_refuseOutside 5 = .ok (.iload_n 0, 1) := by decide +kernel
theorem dX4_refuseOutside_6 : decode cX4_refuseOutside 6 = .ok (.iload_n 2, 1) := by decide +kernel
theorem dX4_refuseOutside_7 : decode cX4_refuseOutside 7 = .ok (.if_icmp .le 13, 3) := by decide +kernel
theorem dX4_refuseOutside_10 : decode cX4_refuseOutside 10 = .ok (.new 177, 3) := by decide +kernel
theorem dX4_refuseOutside_13 : decode cX4_refuseOutside 13 = .ok (.dup, 1) := by decide +kernel
theorem dX4_refuseOutside_14 : decode cX4_refuseOutside 14 = .ok (.ldc 195, 2) := by decide +kernel
theorem dX4_refuseOutside_16 : decode cX4_refuseOutside 16 = .ok (.invokespecial 181, 3) := by decide +kernel
theorem dX4_refuseOutside_19 : decode cX4_refuseOutside 19 = .ok (.athrow, 1) := by decide +kernel
theorem dX4_refuseOutside_20 : decode cX4_refuseOutside 20 = .ok (.return_, 1) := by decide +kernel
set_option maxRecDepth 20000 in
theorem ggX4_runOutHolds_Jx4a65c_size_8abf5 : GoodIn wsX4_runOutHolds wsJx4a65c_size_8abf5 := goodIn_r _ [9, 10, 73, 74, 75] (by decide +kernel) (by decide +kernel)
set_option maxRecDepth 20000 in
theorem gX4_runOutHolds_Jx4a65c_size_8abf5 : GoodIn wsX4_runOutHolds (wsV RX4 63 RJx4a65c yJx4a65c_size_8abf5 wsJx4a65c_size_8abf5) := goodIn_app (goodIn_of _ (by decide +kernel)) ggX4_runOutHolds_Jx4a65c_size_8abf5
set_option maxRecDepth 20000 in
theorem ggX4_runOutHolds_Jx4a65c_get_915e3 : GoodIn wsX4_runOutHolds wsJx4a65c_get_915e3 := goodIn_r _ [14, 10, 15, 16, 17, 18, 19, 20, 21, 22, 23, 24, 25, 8, 26, 27, 73, 74, 75] (by decide +kernel) (by decide +kernel)
set_option maxRecDepth 20000 in
theorem gX4_runOutHolds_Jx4a65c_get_915e3 : GoodIn wsX4_runOutHolds (wsV RX4 189 RJx4a65c yJx4a65c_get_915e3 wsJx4a65c_get_915e3) := goodIn_app (goodIn_of _ (by decide +kernel)) ggX4_runOutHolds_Jx4a65c_get_915e3
set_option maxRecDepth 20000 in
theorem ggX4_runOutHolds_X0_hasEnded : GoodIn wsX4_runOutHolds wsX0_hasEnded := goodIn_r _ [31, 32, 66, 67, 68, 69, 70, 71, 72] (by decide +kernel) (by decide +kernel)
set_option maxRecDepth 20000 in
theorem gX4_runOutHolds_X0_hasEnded_n130 : GoodIn wsX4_runOutHolds (wsX0_hasEnded) := ggX4_runOutHolds_X0_hasEnded
set_option maxRecDepth 20000 in
theorem ggX4_runOutHolds_X0_settle : GoodIn wsX4_runOutHolds wsX0_settle := goodIn_r _ [35, 32, 36, 37, 38, 39, 40, 41, 29, 42, 43, 44, 45, 46, 47, 48, 49, 50, 51, 52, 53, 54, 55, 56, 57, 58, 59, 66, 67, 68, 69, 70, 71, 72, 76, 77, 78, 79, 80, 81, 82, 83, 84] (by decide +kernel) (by decide +kernel)
set_option maxRecDepth 20000 in
theorem gX4_runOutHolds_X0_settle_n136 : GoodIn wsX4_runOutHolds (wsX0_settle) := ggX4_runOutHolds_X0_settle
theorem dX4_runOutHolds_0 : decode cX4_runOutHolds 0 = .ok (.iconst 0, 1) := by decide +kernel
theorem dX4_runOutHolds_1 : decode cX4_runOutHolds 1 = .ok (.istore_n 1, 1) := by decide +kernel
theorem dX4_runOutHolds_2 : decode cX4_runOutHolds 2 = .ok (.aload_n 0, 1) := by decide +kernel
theorem dX4_runOutHolds_3 : decode cX4_runOutHolds 3 = .ok (.getfield 197, 3) := by decide +kernel
theorem dX4_runOutHolds_6 : decode cX4_runOutHolds 6 = .ok (.aload_n 0, 1) := by decide +kernel
theorem dX4_runOutHolds_7 : decode cX4_runOutHolds 7 = .ok (.getfield 28, 3) := by decide +kernel
theorem dX4_runOutHolds_10 : decode cX4_runOutHolds 10 = .ok (.invokevirtual 63, 3) := by decide +kernel
theorem dX4_runOutHolds_13 : decode cX4_runOutHolds 13 = .ok (.if_icmp .ge 74, 3) := by decide +kernel
theorem dX4_runOutHolds_16 : decode cX4_runOutHolds 16 = .ok (.aload_n 0, 1) := by decide +kernel
theorem dX4_runOutHolds_17 : decode cX4_runOutHolds 17 = .ok (.getfield 28, 3) := by decide +kernel
theorem dX4_runOutHolds_20 : decode cX4_runOutHolds 20 = .ok (.aload_n 0, 1) := by decide +kernel
theorem dX4_runOutHolds_21 : decode cX4_runOutHolds 21 = .ok (.getfield 197, 3) := by decide +kernel
theorem dX4_runOutHolds_24 : decode cX4_runOutHolds 24 = .ok (.invokevirtual 189, 3) := by decide +kernel
theorem dX4_runOutHolds_27 : decode cX4_runOutHolds 27 = .ok (.checkcast 118, 3) := by decide +kernel
theorem dX4_runOutHolds_30 : decode cX4_runOutHolds 30 = .ok (.getfield 200, 3) := by decide +kernel
theorem dX4_runOutHolds_33 : decode cX4_runOutHolds 33 = .ok (.aload_n 0, 1) := by decide +kernel
theorem dX4_runOutHolds_34 : decode cX4_runOutHolds 34 = .ok (.getfield 120, 3) := by decide +kernel
theorem dX4_runOutHolds_37 : decode cX4_runOutHolds 37 = .ok (.if_icmp .gt 50, 3) := by decide +kernel
theorem dX4_runOutHolds_40 : decode cX4_runOutHolds 40 = .ok (.aload_n 0, 1) := by decide +kernel
theorem dX4_runOutHolds_41 : decode cX4_runOutHolds 41 = .ok (.getfield 28, 3) := by decide +kernel
theorem dX4_runOutHolds_44 : decode cX4_runOutHolds 44 = .ok (.aload_n 0, 1) := by decide +kernel
theorem dX4_runOutHolds_45 : decode cX4_runOutHolds 45 = .ok (.getfield 197, 3) := by decide +kernel
theorem dX4_runOutHolds_48 : decode cX4_runOutHolds 48 = .ok (.invokevirtual 189, 3) := by decide +kernel
theorem dX4_runOutHolds_51 : decode cX4_runOutHolds 51 = .ok (.checkcast 118, 3) := by decide +kernel
theorem dX4_runOutHolds_54 : decode cX4_runOutHolds 54 = .ok (.astore_n 2, 1) := by decide +kernel
theorem dX4_runOutHolds_55 : decode cX4_runOutHolds 55 = .ok (.aload_n 2, 1) := by decide +kernel
theorem dX4_runOutHolds_56 : decode cX4_runOutHolds 56 = .ok (.invokevirtual 130, 3) := by decide +kernel
theorem dX4_runOutHolds_59 : decode cX4_runOutHolds 59 = .ok (.ifCond .ne 15, 3) := by decide +kernel
theorem dX4_runOutHolds_62 : decode cX4_runOutHolds 62 = .ok (.aload_n 2, 1) := by decide +kernel
theorem dX4_runOutHolds_63 : decode cX4_runOutHolds 63 = .ok (.iconst 0, 1) := by decide +kernel
theorem dX4_runOutHolds_64 : decode cX4_runOutHolds 64 = .ok (.aload_n 0, 1) := by decide +kernel
theorem dX4_runOutHolds_65 : decode cX4_runOutHolds 65 = .ok (.getfield 120, 3) := by decide +kernel
theorem dX4_runOutHolds_68 : decode cX4_runOutHolds 68 = .ok (.invokevirtual 136, 3) := by decide +kernel
theorem dX4_runOutHolds_71 : decode cX4_runOutHolds 71 = .ok (.iinc 1 1, 3) := by decide +kernel
theorem dX4_runOutHolds_74 : decode cX4_runOutHolds 74 = .ok (.aload_n 0, 1) := by decide +kernel
theorem dX4_runOutHolds_75 : decode cX4_runOutHolds 75 = .ok (.dup, 1) := by decide +kernel
theorem dX4_runOutHolds_76 : decode cX4_runOutHolds 76 = .ok (.getfield 197, 3) := by decide +kernel
theorem dX4_runOutHolds_79 : decode cX4_runOutHolds 79 = .ok (.iconst 1, 1) := by decide +kernel
theorem dX4_runOutHolds_80 : decode cX4_runOutHolds 80 = .ok (.iadd, 1) := by decide +kernel
theorem dX4_runOutHolds_81 : decode cX4_runOutHolds 81 = .ok (.putfield 197, 3) := by decide +kernel
theorem dX4_runOutHolds_84 : decode cX4_runOutHolds 84 = .ok (.goto (-82), 3) := by decide +kernel
theorem dX4_runOutHolds_87 : decode cX4_runOutHolds 87 = .ok (.iload_n 1, 1) := by decide +kernel
theorem dX4_runOutHolds_88 : decode cX4_runOutHolds 88 = .ok (.ireturn, 1) := by decide +kernel
set_option maxRecDepth 20000 in
theorem ggX4_refillBuckets_Jx4a65c_size_8abf5 : GoodIn wsX4_refillBuckets wsJx4a65c_size_8abf5 := goodIn_r _ [7, 8, 48, 49, 50] (by decide +kernel) (by decide +kernel)
set_option maxRecDepth 20000 in
theorem gX4_refillBuckets_Jx4a65c_size_8abf5 : GoodIn wsX4_refillBuckets (wsV RX4 63 RJx4a65c yJx4a65c_size_8abf5 wsJx4a65c_size_8abf5) := goodIn_app (goodIn_of _ (by decide +kernel)) ggX4_refillBuckets_Jx4a65c_size_8abf5
set_option maxRecDepth 20000 in
theorem ggX4_refillBuckets_Jx4a65c_get_915e3 : GoodIn wsX4_refillBuckets wsJx4a65c_get_915e3 := goodIn_r _ [12, 8, 13, 14, 15, 16, 17, 18, 19, 20, 21, 22, 23, 6, 24, 25, 48, 49, 50] (by decide +kernel) (by decide +kernel)
set_option maxRecDepth 20000 in
theorem gX4_refillBuckets_Jx4a65c_get_915e3 : GoodIn wsX4_refillBuckets (wsV RX4 189 RJx4a65c yJx4a65c_get_915e3 wsJx4a65c_get_915e3) := goodIn_app (goodIn_of _ (by decide +kernel)) ggX4_refillBuckets_Jx4a65c_get_915e3
set_option maxRecDepth 20000 in
theorem ggX4_refillBuckets_X1_refillBucket : GoodIn wsX4_refillBuckets wsX1_refillBucket := goodIn_r _ [29, 30, 31, 32, 33, 34, 35, 36, 37, 38, 27, 39, 40, 41, 51, 52, 53, 54, 55, 56, 57, 58, 59, 60, 61, 62, 63] (by decide +kernel) (by decide +kernel)
set_option maxRecDepth 20000 in
theorem gX4_refillBuckets_X1_refillBucket_n203 : GoodIn wsX4_refillBuckets (wsX1_refillBucket) := ggX4_refillBuckets_X1_refillBucket
end
section
theorem dX4_refillBuckets_0 : decode cX4_refillBuckets 0 = .ok (.iconst 0, 1) := by decide +kernel
theorem dX4_refillBuckets_1 : decode cX4_refillBuckets 1 = .ok (.istore_n 1, 1) := by decide +kernel
theorem dX4_refillBuckets_2 : decode cX4_refillBuckets 2 = .ok (.iload_n 1, 1) := by decide +kernel
theorem dX4_refillBuckets_3 : decode cX4_refillBuckets 3 = .ok (.aload_n 0, 1) := by decide +kernel
theorem dX4_refillBuckets_4 : decode cX4_refillBuckets 4 = .ok (.getfield 24, 3) := by decide +kernel
theorem dX4_refillBuckets_7 : decode cX4_refillBuckets 7 = .ok (.invokevirtual 63, 3) := by decide +kernel
theorem dX4_refillBuckets_10 : decode cX4_refillBuckets 10 = .ok (.if_icmp .ge 23, 3) := by decide +kernel
theorem dX4_refillBuckets_13 : decode cX4_refillBuckets 13 = .ok (.aload_n 0, 1) := by decide +kernel
theorem dX4_refillBuckets_14 : decode cX4_refillBuckets 14 = .ok (.getfield 24, 3) := by decide +kernel
theorem dX4_refillBuckets_17 : decode cX4_refillBuckets 17 = .ok (.iload_n 1, 1) := by decide +kernel
theorem dX4_refillBuckets_18 : decode cX4_refillBuckets 18 = .ok (.invokevirtual 189, 3) := by decide +kernel
theorem dX4_refillBuckets_21 : decode cX4_refillBuckets 21 = .ok (.checkcast 73, 3) := by decide +kernel
theorem dX4_refillBuckets_24 : decode cX4_refillBuckets 24 = .ok (.invokevirtual 203, 3) := by decide +kernel
theorem dX4_refillBuckets_27 : decode cX4_refillBuckets 27 = .ok (.iinc 1 1, 3) := by decide +kernel
theorem dX4_refillBuckets_30 : decode cX4_refillBuckets 30 = .ok (.goto (-28), 3) := by decide +kernel
theorem dX4_refillBuckets_33 : decode cX4_refillBuckets 33 = .ok (.return_, 1) := by decide +kernel
theorem dJ9_max_7cf53_0 : decode cJ9_max_7cf53 0 = .ok (.iload_n 0, 1) := by decide +kernel
theorem dJ9_max_7cf53_1 : decode cJ9_max_7cf53 1 = .ok (.iload_n 1, 1) := by decide +kernel
theorem dJ9_max_7cf53_2 : decode cJ9_max_7cf53 2 = .ok (.if_icmp .lt 7, 3) := by decide +kernel
theorem dJ9_max_7cf53_5 : decode cJ9_max_7cf53 5 = .ok (.iload_n 0, 1) := by decide +kernel
theorem dJ9_max_7cf53_6 : decode cJ9_max_7cf53 6 = .ok (.goto 4, 3) := by decide +kernel
theorem dJ9_max_7cf53_9 : decode cJ9_max_7cf53 9 = .ok (.iload_n 1, 1) := by decide +kernel
theorem dJ9_max_7cf53_10 : decode cJ9_max_7cf53 10 = .ok (.ireturn, 1) := by decide +kernel
theorem dJ9_min_7cf53_0 : decode cJ9_min_7cf53 0 = .ok (.iload_n 0, 1) := by decide +kernel
theorem dJ9_min_7cf53_1 : decode cJ9_min_7cf53 1 = .ok (.iload_n 1, 1) := by decide +kernel
theorem dJ9_min_7cf53_2 : decode cJ9_min_7cf53 2 = .ok (.if_icmp .gt 7, 3) := by decide +kernel
theorem dJ9_min_7cf53_5 : decode cJ9_min_7cf53 5 = .ok (.iload_n 0, 1) := by decide +kernel
theorem dJ9_min_7cf53_6 : decode cJ9_min_7cf53 6 = .ok (.goto 4, 3) := by decide +kernel
theorem dJ9_min_7cf53_9 : decode cJ9_min_7cf53 9 = .ok (.iload_n 1, 1) := by decide +kernel
theorem dJ9_min_7cf53_10 : decode cJ9_min_7cf53 10 = .ok (.ireturn, 1) := by decide +kernel
theorem dJxa1e45_init_da8c8_0 : decode cJxa1e45_init_da8c8 0 = .ok (.aload_n 0, 1) := by decide +kernel
theorem dJxa1e45_init_da8c8_1 : decode cJxa1e45_init_da8c8 1 = .ok (.invokespecial 1, 3) := by decide +kernel
theorem dJxa1e45_init_da8c8_4 : decode cJxa1e45_init_da8c8 4 = .ok (.return_, 1) := by decide +kernel
set_option maxRecDepth 20000 in
theorem ggJxc12de_init_da8c8_Jxa1e45_init_da8c8 : GoodIn wsJxc12de_init_da8c8 wsJxa1e45_init_da8c8 := goodIn_r _ [5, 6, 7, 8] (by decide +kernel) (by decide +kernel)
set_option maxRecDepth 20000 in
theorem gJxc12de_init_da8c8_Jxa1e45_init_da8c8 : GoodIn wsJxc12de_init_da8c8 (wsJxa1e45_init_da8c8) := ggJxc12de_init_da8c8_Jxa1e45_init_da8c8
theorem dJxc12de_init_da8c8_0 : decode cJxc12de_init_da8c8 0 = .ok (.aload_n 0, 1) := by decide +kernel
theorem dJxc12de_init_da8c8_1 : decode cJxc12de_init_da8c8 1 = .ok (.invokespecial 1, 3) := by decide +kernel
theorem dJxc12de_init_da8c8_4 : decode cJxc12de_init_da8c8 4 = .ok (.aload_n 0, 1) := by decide +kernel
theorem dJxc12de_init_da8c8_5 : decode cJxc12de_init_da8c8 5 = .ok (.iconst 0, 1) := by decide +kernel
theorem dJxc12de_init_da8c8_6 : decode cJxc12de_init_da8c8 6 = .ok (.putfield 7, 3) := by decide +kernel
theorem dJxc12de_init_da8c8_9 : decode cJxc12de_init_da8c8 9 = .ok (.return_, 1) := by decide +kernel
set_option maxRecDepth 20000 in
theorem ggJx4a65c_init_da8c8_Jxc12de_init_da8c8 : GoodIn wsJx4a65c_init_da8c8 wsJxc12de_init_da8c8 := goodIn_r _ [6, 7, 8, 9, 10, 11, 12, 13, 14, 15, 16, 17] (by decide +kernel) (by decide +kernel)
set_option maxRecDepth 20000 in
theorem gJx4a65c_init_da8c8_Jxc12de_init_da8c8 : GoodIn wsJx4a65c_init_da8c8 (wsJxc12de_init_da8c8) := ggJx4a65c_init_da8c8_Jxc12de_init_da8c8
theorem dJx4a65c_init_da8c8_0 : decode cJx4a65c_init_da8c8 0 = .ok (.aload_n 0, 1) := by decide +kernel
theorem dJx4a65c_init_da8c8_1 : decode cJx4a65c_init_da8c8 1 = .ok (.invokespecial 1, 3) := by decide +kernel
theorem dJx4a65c_init_da8c8_4 : decode cJx4a65c_init_da8c8 4 = .ok (.aload_n 0, 1) := by decide +kernel
theorem dJx4a65c_init_da8c8_5 : decode cJx4a65c_init_da8c8 5 = .ok (.getstatic 39, 3) := by decide +kernel
theorem dJx4a65c_init_da8c8_8 : decode cJx4a65c_init_da8c8 8 = .ok (.putfield 9, 3) := by decide +kernel
theorem dJx4a65c_init_da8c8_11 : decode cJx4a65c_init_da8c8 11 = .ok (.return_, 1) := by decide +kernel
set_option maxRecDepth 20000 in
theorem ggJx4a65c_grow_92f84_J8_newLength_cabcc : GoodIn wsJx4a65c_grow_92f84 wsJ8_newLength_cabcc := goodIn_r _ [11, 12, 4, 5, 6, 13, 14, 15, 10, 16] (by decide +kernel) (by decide +kernel)
set_option maxRecDepth 20000 in
theorem gJx4a65c_grow_92f84_J8_newLength_cabcc : GoodIn wsJx4a65c_grow_92f84 (va_wsS RJx4a65c 73 yJ8_newLength_cabcc wsJ8_newLength_cabcc) := goodIn_app (goodIn_of _ (by decide +kernel)) ggJx4a65c_grow_92f84_J8_newLength_cabcc
set_option maxRecDepth 20000 in
theorem ggJx4a65c_grow_92f84_J7_copyOf_1904c : GoodIn wsJx4a65c_grow_92f84 wsJ7_copyOf_1904c := goodIn_r _ [20, 21, 22, 23, 24, 25, 26, 19, 27, 28, 29, 30, 31, 5, 32, 33, 34, 35, 36] (by decide +kernel) (by decide +kernel)
set_option maxRecDepth 20000 in
theorem gJx4a65c_grow_92f84_J7_copyOf_1904c : GoodIn wsJx4a65c_grow_92f84 (va_wsS RJx4a65c 66 yJ7_copyOf_1904c wsJ7_copyOf_1904c) := goodIn_app (goodIn_of _ (by decide +kernel)) ggJx4a65c_grow_92f84_J7_copyOf_1904c
theorem dJx4a65c_grow_92f84_0 : decode cJx4a65c_grow_92f84 0 = .ok (.aload_n 0, 1) := by decide +kernel
theorem dJx4a65c_grow_92f84_1 : decode cJx4a65c_grow_92f84 1 = .ok (.getfield 9, 3) := by decide +kernel
theorem dJx4a65c_grow_92f84_4 : decode cJx4a65c_grow_92f84 4 = .ok (.arraylength, 1) := by decide +kernel
theorem dJx4a65c_grow_92f84_5 : decode cJx4a65c_grow_92f84 5 = .ok (.istore_n 2, 1) := by decide +kernel
theorem dJx4a65c_grow_92f84_6 : decode cJx4a65c_grow_92f84 6 = .ok (.iload_n 2, 1) := by decide +kernel
theorem dJx4a65c_grow_92f84_7 : decode cJx4a65c_grow_92f84 7 = .ok (.ifCond .gt 13, 3) := by decide +kernel
theorem dJx4a65c_grow_92f84_10 : decode cJx4a65c_grow_92f84 10 = .ok (.aload_n 0, 1) := by decide +kernel
theorem dJx4a65c_grow_92f84_11 : decode cJx4a65c_grow_92f84 11 = .ok (.getfield 9, 3) := by decide +kernel
theorem dJx4a65c_grow_92f84_14 : decode cJx4a65c_grow_92f84 14 = .ok (.getstatic 39, 3) := by decide +kernel
theorem dJx4a65c_grow_92f84_17 : decode cJx4a65c_grow_92f84 17 = .ok (.if_acmp .eq 28, 3) := by decide +kernel
theorem dJx4a65c_grow_92f84_20 : decode cJx4a65c_grow_92f84 20 = .ok (.iload_n 2, 1) := by decide +kernel
theorem dJx4a65c_grow_92f84_21 : decode cJx4a65c_grow_92f84 21 = .ok (.iload_n 1, 1) := by decide +kernel
theorem dJx4a65c_grow_92f84_22 : decode cJx4a65c_grow_92f84 22 = .ok (.iload_n 2, 1) := by decide +kernel
theorem dJx4a65c_grow_92f84_23 : decode cJx4a65c_grow_92f84 23 = .ok (.isub, 1) := by decide +kernel
theorem dJx4a65c_grow_92f84_24 : decode cJx4a65c_grow_92f84 24 = .ok (.iload_n 2, 1) := by decide +kernel
theorem dJx4a65c_grow_92f84_25 : decode cJx4a65c_grow_92f84 25 = .ok (.iconst 1, 1) := by decide +kernel
theorem dJx4a65c_grow_92f84_26 : decode cJx4a65c_grow_92f84 26 = .ok (.ishr, 1) := by decide +kernel
theorem dJx4a65c_grow_92f84_27 : decode cJx4a65c_grow_92f84 27 = .ok (.invokestatic 73, 3) := by decide +kernel
theorem dJx4a65c_grow_92f84_30 : decode cJx4a65c_grow_92f84 30 = .ok (.istore_n 3, 1) := by decide +kernel
theorem dJx4a65c_grow_92f84_31 : decode cJx4a65c_grow_92f84 31 = .ok (.aload_n 0, 1) := by decide +kernel
theorem dJx4a65c_grow_92f84_32 : decode cJx4a65c_grow_92f84 32 = .ok (.aload_n 0, 1) := by decide +kernel
theorem dJx4a65c_grow_92f84_33 : decode cJx4a65c_grow_92f84 33 = .ok (.getfield 9, 3) := by decide +kernel
theorem dJx4a65c_grow_92f84_36 : decode cJx4a65c_grow_92f84 36 = .ok (.iload_n 3, 1) := by decide +kernel
theorem dJx4a65c_grow_92f84_37 : decode cJx4a65c_grow_92f84 37 = .ok (.invokestatic 66, 3) := by decide +kernel
theorem dJx4a65c_grow_92f84_40 : decode cJx4a65c_grow_92f84 40 = .ok (.dup_x1, 1) := by decide +kernel
theorem dJx4a65c_grow_92f84_41 : decode cJx4a65c_grow_92f84 41 = .ok (.putfield 9, 3) := by decide +kernel
theorem dJx4a65c_grow_92f84_44 : decode cJx4a65c_grow_92f84 44 = .ok (.areturn, 1) := by decide +kernel
theorem dJx4a65c_grow_92f84_45 : decode cJx4a65c_grow_92f84 45 = .ok (.aload_n 0, 1) := by decide +kernel
theorem dJx4a65c_grow_92f84_46 : decode cJx4a65c_grow_92f84 46 = .ok (.bipush 10, 2) := by decide +kernel
theorem dJx4a65c_grow_92f84_48 : decode cJx4a65c_grow_92f84 48 = .ok (.iload_n 1, 1) := by decide +kernel
theorem dJx4a65c_grow_92f84_49 : decode cJx4a65c_grow_92f84 49 = .ok (.invokestatic 79, 3) := by decide +kernel
theorem dJx4a65c_grow_92f84_52 : decode cJx4a65c_grow_92f84 52 = .ok (.anewarray 7, 3) := by decide +kernel
theorem dJx4a65c_grow_92f84_55 : decode cJx4a65c_grow_92f84 55 = .ok (.dup_x1, 1) := by decide +kernel
theorem dJx4a65c_grow_92f84_56 : decode cJx4a65c_grow_92f84 56 = .ok (.putfield 9, 3) := by decide +kernel
theorem dJx4a65c_grow_92f84_59 : decode cJx4a65c_grow_92f84 59 = .ok (.areturn, 1) := by decide +kernel
set_option maxRecDepth 20000 in
theorem ggJx4a65c_grow_d5877_Jx4a65c_grow_92f84 : GoodIn wsJx4a65c_grow_d5877 wsJx4a65c_grow_92f84 := goodIn_r _ [6, 7, 8, 9, 10, 11, 12, 13, 14, 15, 16, 17, 18, 19, 20, 21, 22, 23, 24, 25, 26, 27, 28, 29, 30, 31, 32, 33, 34, 35, 36, 37, 38, 39, 40, 41, 42, 43, 44, 45] (by decide +kernel) (by decide +kernel)
set_option maxRecDepth 20000 in
theorem gJx4a65c_grow_d5877_Jx4a65c_grow_92f84 : GoodIn wsJx4a65c_grow_d5877 (wsV RJx4a65c 69 RJx4a65c yJx4a65c_grow_92f84 wsJx4a65c_grow_92f84) := goodIn_app (goodIn_of _ (by decide +kernel)) ggJx4a65c_grow_d5877_Jx4a65c_grow_92f84
theorem dJx4a65c_grow_d5877_0 : decode cJx4a65c_grow_d5877 0 = .ok (.aload_n 0, 1) := by decide +kernel
theorem dJx4a65c_grow_d5877_1 : decode cJx4a65c_grow_d5877 1 = .ok (.aload_n 0, 1) := by decide +kernel
theorem dJx4a65c_grow_d5877_2 : decode cJx4a65c_grow_d5877 2 = .ok (.getfield 48, 3) := by decide +kernel
theorem dJx4a65c_grow_d5877_5 : decode cJx4a65c_grow_d5877 5 = .ok (.iconst 1, 1) := by decide +kernel
theorem dJx4a65c_grow_d5877_6 : decode cJx4a65c_grow_d5877 6 = .ok (.iadd, 1) := by decide +kernel
theorem dJx4a65c_grow_d5877_7 : decode cJx4a65c_grow_d5877 7 = .ok (.invokevirtual 69, 3) := by decide +kernel
theorem dJx4a65c_grow_d5877_10 : decode cJx4a65c_grow_d5877 10 = .ok (.areturn, 1) := by decide +kernel
theorem dJx4a65c_size_8abf5_0 : decode cJx4a65c_size_8abf5 0 = .ok (.aload_n 0, 1) := by decide +kernel
theorem dJx4a65c_size_8abf5_1 : decode cJx4a65c_size_8abf5 1 = .ok (.getfield 48, 3) := by decide +kernel
theorem dJx4a65c_size_8abf5_4 : decode cJx4a65c_size_8abf5 4 = .ok (.ireturn, 1) := by decide +kernel
theorem dJx4a65c_elementData_915e3_0 : decode cJx4a65c_elementData_915e3 0 = .ok (.aload_n 0, 1) := by decide +kernel
theorem dJx4a65c_elementData_915e3_1 : decode cJx4a65c_elementData_915e3 1 = .ok (.getfield 9, 3) := by decide +kernel
theorem dJx4a65c_elementData_915e3_4 : decode cJx4a65c_elementData_915e3 4 = .ok (.iload_n 1, 1) := by decide +kernel
theorem dJx4a65c_elementData_915e3_5 : decode cJx4a65c_elementData_915e3 5 = .ok (.aaload, 1) := by decide +kernel
theorem dJx4a65c_elementData_915e3_6 : decode cJx4a65c_elementData_915e3 6 = .ok (.areturn, 1) := by decide +kernel
set_option maxRecDepth 20000 in
theorem ggJx4a65c_get_915e3_J15_checkIndex_7cf53 : GoodIn wsJx4a65c_get_915e3 wsJ15_checkIndex_7cf53 := goodIn_r _ [5, 6, 7, 8, 9] (by decide +kernel) (by decide +kernel)
set_option maxRecDepth 20000 in
theorem gJx4a65c_get_915e3_J15_checkIndex_7cf53 : GoodIn wsJx4a65c_get_915e3 (va_wsS RJx4a65c 118 yJ15_checkIndex_7cf53 wsJ15_checkIndex_7cf53) := goodIn_app (goodIn_of _ (by decide +kernel)) ggJx4a65c_get_915e3_J15_checkIndex_7cf53
set_option maxRecDepth 20000 in
theorem ggJx4a65c_get_915e3_Jx4a65c_elementData_915e3 : GoodIn wsJx4a65c_get_915e3 wsJx4a65c_elementData_915e3 := goodIn_r _ [14, 15, 16, 17, 18] (by decide +kernel) (by decide +kernel)
set_option maxRecDepth 20000 in
theorem gJx4a65c_get_915e3_Jx4a65c_elementData_915e3 : GoodIn wsJx4a65c_get_915e3 (wsV RJx4a65c 123 RJx4a65c yJx4a65c_elementData_915e3 wsJx4a65c_elementData_915e3) := goodIn_app (goodIn_of _ (by decide +kernel)) ggJx4a65c_get_915e3_Jx4a65c_elementData_915e3
theorem dJx4a65c_get_915e3_0 : decode cJx4a65c_get_915e3 0 = .ok (.iload_n 1, 1) := by decide +kernel
theorem dJx4a65c_get_915e3_1 : decode cJx4a65c_get_915e3 1 = .ok (.aload_n 0, 1) := by decide +kernel
theorem dJx4a65c_get_915e3_2 : decode cJx4a65c_get_915e3 2 = .ok (.getfield 48, 3) := by decide +kernel
theorem dJx4a65c_get_915e3_5 : decode cJx4a65c_get_915e3 5 = .ok (.invokestatic 118, 3) := by decide +kernel
theorem dJx4a65c_get_915e3_8 : decode cJx4a65c_get_915e3 8 = .ok (.pop, 1) := by decide +kernel
theorem dJx4a65c_get_915e3_9 : decode cJx4a65c_get_915e3 9 = .ok (.aload_n 0, 1) := by decide +kernel
theorem dJx4a65c_get_915e3_10 : decode cJx4a65c_get_915e3 10 = .ok (.iload_n 1, 1) := by decide +kernel
theorem dJx4a65c_get_915e3_11 : decode cJx4a65c_get_915e3 11 = .ok (.invokevirtual 123, 3) := by decide +kernel
theorem dJx4a65c_get_915e3_14 : decode cJx4a65c_get_915e3 14 = .ok (.areturn, 1) := by decide +kernel
set_option maxRecDepth 20000 in
theorem ggJx4a65c_add_72be8_Jx4a65c_grow_d5877 : GoodIn wsJx4a65c_add_72be8 wsJx4a65c_grow_d5877 := goodIn_r _ [6, 1, 7, 8, 9, 5, 10, 11, 12, 13, 14, 15, 16, 17, 18, 19, 20, 21, 22, 23, 24, 25, 26, 27, 28, 29, 30, 31, 32, 33, 34, 35, 36, 37, 38, 39, 40, 41, 42, 43, 44, 45, 46, 47, 48, 49] (by decide +kernel) (by decide +kernel)
set_option maxRecDepth 20000 in
theorem gJx4a65c_add_72be8_Jx4a65c_grow_d5877 : GoodIn wsJx4a65c_add_72be8 (wsV RJx4a65c 129 RJx4a65c yJx4a65c_grow_d5877 wsJx4a65c_grow_d5877) := goodIn_app (goodIn_of _ (by decide +kernel)) ggJx4a65c_add_72be8_Jx4a65c_grow_d5877
theorem dJx4a65c_add_72be8_0 : decode cJx4a65c_add_72be8 0 = .ok (.iload_n 3, 1) := by decide +kernel
theorem dJx4a65c_add_72be8_1 : decode cJx4a65c_add_72be8 1 = .ok (.aload_n 2, 1) := by decide +kernel
theorem dJx4a65c_add_72be8_2 : decode cJx4a65c_add_72be8 2 = .ok (.arraylength, 1) := by decide +kernel
theorem dJx4a65c_add_72be8_3 : decode cJx4a65c_add_72be8 3 = .ok (.if_icmp .ne 8, 3) := by decide +kernel
theorem dJx4a65c_add_72be8_6 : decode cJx4a65c_add_72be8 6 = .ok (.aload_n 0, 1) := by decide +kernel
theorem dJx4a65c_add_72be8_7 : decode cJx4a65c_add_72be8 7 = .ok (.invokevirtual 129, 3) := by decide +kernel
theorem dJx4a65c_add_72be8_10 : decode cJx4a65c_add_72be8 10 = .ok (.astore_n 2, 1) := by decide +kernel
theorem dJx4a65c_add_72be8_11 : decode cJx4a65c_add_72be8 11 = .ok (.aload_n 2, 1) := by decide +kernel
theorem dJx4a65c_add_72be8_12 : decode cJx4a65c_add_72be8 12 = .ok (.iload_n 3, 1) := by decide +kernel
theorem dJx4a65c_add_72be8_13 : decode cJx4a65c_add_72be8 13 = .ok (.aload_n 1, 1) := by decide +kernel
theorem dJx4a65c_add_72be8_14 : decode cJx4a65c_add_72be8 14 = .ok (.aastore, 1) := by decide +kernel
theorem dJx4a65c_add_72be8_15 : decode cJx4a65c_add_72be8 15 = .ok (.aload_n 0, 1) := by decide +kernel
theorem dJx4a65c_add_72be8_16 : decode cJx4a65c_add_72be8 16 = .ok (.iload_n 3, 1) := by decide +kernel
theorem dJx4a65c_add_72be8_17 : decode cJx4a65c_add_72be8 17 = .ok (.iconst 1, 1) := by decide +kernel
theorem dJx4a65c_add_72be8_18 : decode cJx4a65c_add_72be8 18 = .ok (.iadd, 1) := by decide +kernel
theorem dJx4a65c_add_72be8_19 : decode cJx4a65c_add_72be8 19 = .ok (.putfield 48, 3) := by decide +kernel
theorem dJx4a65c_add_72be8_22 : decode cJx4a65c_add_72be8 22 = .ok (.return_, 1) := by decide +kernel
set_option maxRecDepth 20000 in
theorem ggJx4a65c_add_9ea2d_Jx4a65c_add_72be8 : GoodIn wsJx4a65c_add_9ea2d wsJx4a65c_add_72be8 := goodIn_r _ [9, 4, 10, 11, 12, 8, 13, 14, 15, 16, 17, 3, 18, 19, 20, 21, 22, 23, 24, 25, 26, 27, 28, 29, 30, 31, 32, 33, 34, 35, 36, 37, 38, 39, 40, 41, 42, 43, 44, 45, 46, 47, 48, 49, 50, 51, 52, 53, 54, 55] (by decide +kernel) (by decide +kernel)
set_option maxRecDepth 20000 in
theorem gJx4a65c_add_9ea2d_Jx4a65c_add_72be8 : GoodIn wsJx4a65c_add_9ea2d (wsV RJx4a65c 131 RJx4a65c yJx4a65c_add_72be8 wsJx4a65c_add_72be8) := goodIn_app (goodIn_of _ (by decide +kernel)) ggJx4a65c_add_9ea2d_Jx4a65c_add_72be8
theorem dJx4a65c_add_9ea2d_0 : decode cJx4a65c_add_9ea2d 0 = .ok (.aload_n 0, 1) := by decide +kernel
theorem dJx4a65c_add_9ea2d_1 : decode cJx4a65c_add_9ea2d 1 = .ok (.dup, 1) := by decide +kernel
theorem dJx4a65c_add_9ea2d_2 : decode cJx4a65c_add_9ea2d 2 = .ok (.getfield 63, 3) := by decide +kernel
theorem dJx4a65c_add_9ea2d_5 : decode cJx4a65c_add_9ea2d 5 = .ok (.iconst 1, 1) := by decide +kernel
theorem dJx4a65c_add_9ea2d_6 : decode cJx4a65c_add_9ea2d 6 = .ok (.iadd, 1) := by decide +kernel
theorem dJx4a65c_add_9ea2d_7 : decode cJx4a65c_add_9ea2d 7 = .ok (.putfield 63, 3) := by decide +kernel
theorem dJx4a65c_add_9ea2d_10 : decode cJx4a65c_add_9ea2d 10 = .ok (.aload_n 0, 1) := by decide +kernel
theorem dJx4a65c_add_9ea2d_11 : decode cJx4a65c_add_9ea2d 11 = .ok (.aload_n 1, 1) := by decide +kernel
theorem dJx4a65c_add_9ea2d_12 : decode cJx4a65c_add_9ea2d 12 = .ok (.aload_n 0, 1) := by decide +kernel
theorem dJx4a65c_add_9ea2d_13 : decode cJx4a65c_add_9ea2d 13 = .ok (.getfield 9, 3) := by decide +kernel
theorem dJx4a65c_add_9ea2d_16 : decode cJx4a65c_add_9ea2d 16 = .ok (.aload_n 0, 1) := by decide +kernel
theorem dJx4a65c_add_9ea2d_17 : decode cJx4a65c_add_9ea2d 17 = .ok (.getfield 48, 3) := by decide +kernel
theorem dJx4a65c_add_9ea2d_20 : decode cJx4a65c_add_9ea2d 20 = .ok (.invokevirtual 131, 3) := by decide +kernel
theorem dJx4a65c_add_9ea2d_23 : decode cJx4a65c_add_9ea2d 23 = .ok (.iconst 1, 1) := by decide +kernel
theorem dJx4a65c_add_9ea2d_24 : decode cJx4a65c_add_9ea2d 24 = .ok (.ireturn, 1) := by decide +kernel
set_option maxRecDepth 20000 in
theorem ggJ7_copyOf_1904c_J7_copyOf_6403c : GoodIn wsJ7_copyOf_1904c wsJ7_copyOf_6403c := goodIn_r _ [8, 9, 10, 11, 12, 13, 14, 15, 16, 17, 18] (by decide +kernel) (by decide +kernel)
set_option maxRecDepth 20000 in
theorem gJ7_copyOf_1904c_J7_copyOf_6403c : GoodIn wsJ7_copyOf_1904c (va_wsS RJ7 300 yJ7_copyOf_6403c wsJ7_copyOf_6403c) := goodIn_app (goodIn_of _ (by decide +kernel)) ggJ7_copyOf_1904c_J7_copyOf_6403c
theorem dJ7_copyOf_1904c_0 : decode cJ7_copyOf_1904c 0 = .ok (.aload_n 0, 1) := by decide +kernel
theorem dJ7_copyOf_1904c_1 : decode cJ7_copyOf_1904c 1 = .ok (.iload_n 1, 1) := by decide +kernel
theorem dJ7_copyOf_1904c_2 : decode cJ7_copyOf_1904c 2 = .ok (.aload_n 0, 1) := by decide +kernel
theorem dJ7_copyOf_1904c_3 : decode cJ7_copyOf_1904c 3 = .ok (.invokevirtual 86, 3) := by decide +kernel
theorem dJ7_copyOf_1904c_6 : decode cJ7_copyOf_1904c 6 = .ok (.invokestatic 300, 3) := by decide +kernel
theorem dJ7_copyOf_1904c_9 : decode cJ7_copyOf_1904c 9 = .ok (.areturn, 1) := by decide +kernel
theorem dJ7_copyOf_6403c_0 : decode cJ7_copyOf_6403c 0 = .ok (.aload_n 2, 1) := by decide +kernel
theorem dJ7_copyOf_6403c_1 : decode cJ7_copyOf_6403c 1 = .ok (.ldc 110, 2) := by decide +kernel
theorem dJ7_copyOf_6403c_3 : decode cJ7_copyOf_6403c 3 = .ok (.if_acmp .ne 10, 3) := by decide +kernel
theorem dJ7_copyOf_6403c_6 : decode cJ7_copyOf_6403c 6 = .ok (.iload_n 1, 1) := by decide +kernel
theorem dJ7_copyOf_6403c_7 : decode cJ7_copyOf_6403c 7 = .ok (.anewarray 2, 3) := by decide +kernel
theorem dJ7_copyOf_6403c_10 : decode cJ7_copyOf_6403c 10 = .ok (.goto 14, 3) := by decide +kernel
theorem dJ7_copyOf_6403c_13 : decode cJ7_copyOf_6403c 13 = .ok (.aload_n 2, 1) := by decide +kernel
theorem dJ7_copyOf_6403c_14 : decode cJ7_copyOf_6403c 14 = .ok (.invokevirtual 90, 3) := by decide +kernel
theorem dJ7_copyOf_6403c_17 : decode cJ7_copyOf_6403c 17 = .ok (.iload_n 1, 1) := by decide +kernel
theorem dJ7_copyOf_6403c_18 : decode cJ7_copyOf_6403c 18 = .ok (.invokestatic 95, 3) := by decide +kernel
theorem dJ7_copyOf_6403c_21 : decode cJ7_copyOf_6403c 21 = .ok (.checkcast 110, 3) := by decide +kernel
theorem dJ7_copyOf_6403c_24 : decode cJ7_copyOf_6403c 24 = .ok (.astore_n 3, 1) := by decide +kernel
theorem dJ7_copyOf_6403c_25 : decode cJ7_copyOf_6403c 25 = .ok (.aload_n 0, 1) := by decide +kernel
theorem dJ7_copyOf_6403c_26 : decode cJ7_copyOf_6403c 26 = .ok (.iconst 0, 1) := by decide +kernel
theorem dJ7_copyOf_6403c_27 : decode cJ7_copyOf_6403c 27 = .ok (.aload_n 3, 1) := by decide +kernel
theorem dJ7_copyOf_6403c_28 : decode cJ7_copyOf_6403c 28 = .ok (.iconst 0, 1) := by decide +kernel
theorem dJ7_copyOf_6403c_29 : decode cJ7_copyOf_6403c 29 = .ok (.aload_n 0, 1) := by decide +kernel
theorem dJ7_copyOf_6403c_30 : decode cJ7_copyOf_6403c 30 = .ok (.arraylength, 1) := by decide +kernel
theorem dJ7_copyOf_6403c_31 : decode cJ7_copyOf_6403c 31 = .ok (.iload_n 1, 1) := by decide +kernel
theorem dJ7_copyOf_6403c_32 : decode cJ7_copyOf_6403c 32 = .ok (.invokestatic 304, 3) := by decide +kernel
theorem dJ7_copyOf_6403c_35 : decode cJ7_copyOf_6403c 35 = .ok (.invokestatic 150, 3) := by decide +kernel
theorem dJ7_copyOf_6403c_38 : decode cJ7_copyOf_6403c 38 = .ok (.aload_n 3, 1) := by decide +kernel
theorem dJ7_copyOf_6403c_39 : decode cJ7_copyOf_6403c 39 = .ok (.areturn, 1) := by decide +kernel
set_option maxRecDepth 20000 in
theorem ggJ15_checkIndex_7cf53_J3_checkIndex_8e157 : GoodIn wsJ15_checkIndex_7cf53 wsJ3_checkIndex_8e157 := goodIn_r _ [4] (by decide +kernel) (by decide +kernel)
set_option maxRecDepth 20000 in
theorem gJ15_checkIndex_7cf53_J3_checkIndex_8e157 : GoodIn wsJ15_checkIndex_7cf53 (va_wsS RJ15 105 yJ3_checkIndex_8e157 wsJ3_checkIndex_8e157) := goodIn_app (goodIn_of _ (by decide +kernel)) ggJ15_checkIndex_7cf53_J3_checkIndex_8e157
theorem dJ15_checkIndex_7cf53_0 : decode cJ15_checkIndex_7cf53 0 = .ok (.iload_n 0, 1) := by decide +kernel
theorem dJ15_checkIndex_7cf53_1 : decode cJ15_checkIndex_7cf53 1 = .ok (.iload_n 1, 1) := by decide +kernel
theorem dJ15_checkIndex_7cf53_2 : decode cJ15_checkIndex_7cf53 2 = .ok (.aconst_null, 1) := by decide +kernel
theorem dJ15_checkIndex_7cf53_3 : decode cJ15_checkIndex_7cf53 3 = .ok (.invokestatic 105, 3) := by decide +kernel
theorem dJ15_checkIndex_7cf53_6 : decode cJ15_checkIndex_7cf53 6 = .ok (.ireturn, 1) := by decide +kernel
set_option maxRecDepth 20000 in
theorem ggJ8_newLength_cabcc_J8_hugeLength_7cf53 : GoodIn wsJ8_newLength_cabcc wsJ8_hugeLength_7cf53 := goodIn_r _ [9, 5] (by decide +kernel) (by decide +kernel)
set_option maxRecDepth 20000 in
theorem gJ8_newLength_cabcc_J8_hugeLength_7cf53 : GoodIn wsJ8_newLength_cabcc (va_wsS RJ8 201 yJ8_hugeLength_7cf53 wsJ8_hugeLength_7cf53) := goodIn_app (goodIn_of _ (by decide +kernel)) ggJ8_newLength_cabcc_J8_hugeLength_7cf53
theorem dJ8_newLength_cabcc_0 : decode cJ8_newLength_cabcc 0 = .ok (.iload_n 0, 1) := by decide +kernel
theorem dJ8_newLength_cabcc_1 : decode cJ8_newLength_cabcc 1 = .ok (.iload_n 1, 1) := by decide +kernel
theorem dJ8_newLength_cabcc_2 : decode cJ8_newLength_cabcc 2 = .ok (.iload_n 2, 1) := by decide +kernel
theorem dJ8_newLength_cabcc_3 : decode cJ8_newLength_cabcc 3 = .ok (.invokestatic 194, 3) := by decide +kernel
theorem dJ8_newLength_cabcc_6 : decode cJ8_newLength_cabcc 6 = .ok (.iadd, 1) := by decide +kernel
theorem dJ8_newLength_cabcc_7 : decode cJ8_newLength_cabcc 7 = .ok (.istore_n 3, 1) := by decide +kernel
theorem dJ8_newLength_cabcc_8 : decode cJ8_newLength_cabcc 8 = .ok (.iconst 0, 1) := by decide +kernel
theorem dJ8_newLength_cabcc_9 : decode cJ8_newLength_cabcc 9 = .ok (.iload_n 3, 1) := by decide +kernel
theorem dJ8_newLength_cabcc_10 : decode cJ8_newLength_cabcc 10 = .ok (.if_icmp .ge 11, 3) := by decide +kernel
theorem dJ8_newLength_cabcc_13 : decode cJ8_newLength_cabcc 13 = .ok (.iload_n 3, 1) := by decide +kernel
theorem dJ8_newLength_cabcc_14 : decode cJ8_newLength_cabcc 14 = .ok (.ldc 200, 2) := by decide +kernel
theorem dJ8_newLength_cabcc_16 : decode cJ8_newLength_cabcc 16 = .ok (.if_icmp .gt 5, 3) := by decide +kernel
theorem dJ8_newLength_cabcc_19 : decode cJ8_newLength_cabcc 19 = .ok (.iload_n 3, 1) := by decide +kernel
theorem dJ8_newLength_cabcc_20 : decode cJ8_newLength_cabcc 20 = .ok (.ireturn, 1) := by decide +kernel
theorem dJ8_newLength_cabcc_21 : decode cJ8_newLength_cabcc 21 = .ok (.iload_n 0, 1) := by decide +kernel
theorem dJ8_newLength_cabcc_22 : decode cJ8_newLength_cabcc 22 = .ok (.iload_n 1, 1) := by decide +kernel
theorem dJ8_newLength_cabcc_23 : decode cJ8_newLength_cabcc 23 = .ok (.invokestatic 201, 3) := by decide +kernel
theorem dJ8_newLength_cabcc_26 : decode cJ8_newLength_cabcc 26 = .ok (.ireturn, 1) := by decide +kernel
theorem dJ8_hugeLength_7cf53_0 : decode cJ8_hugeLength_7cf53 0 = .ok (.iload_n 0, 1) := by decide +kernel
theorem dJ8_hugeLength_7cf53_1 : decode cJ8_hugeLength_7cf53 1 = .ok (.iload_n 1, 1) := by decide +kernel
theorem dJ8_hugeLength_7cf53_2 : decode cJ8_hugeLength_7cf53 2 = .ok (.iadd, 1) := by decide +kernel
theorem dJ8_hugeLength_7cf53_3 : decode cJ8_hugeLength_7cf53 3 = .ok (.istore_n 2, 1) := by decide +kernel
theorem dJ8_hugeLength_7cf53_4 : decode cJ8_hugeLength_7cf53 4 = .ok (.iload_n 2, 1) := by decide +kernel
theorem dJ8_hugeLength_7cf53_5 : decode cJ8_hugeLength_7cf53 5 = .ok (.ifCond .ge 44, 3) := by decide +kernel
theorem dJ8_hugeLength_7cf53_8 : decode cJ8_hugeLength_7cf53 8 = .ok (.new 204, 3) := by decide +kernel
theorem dJ8_hugeLength_7cf53_11 : decode cJ8_hugeLength_7cf53 11 = .ok (.dup, 1) := by decide +kernel
theorem dJ8_hugeLength_7cf53_12 : decode cJ8_hugeLength_7cf53 12 = .ok (.new 89, 3) := by decide +kernel
theorem dJ8_hugeLength_7cf53_15 : decode cJ8_hugeLength_7cf53 15 = .ok (.dup, 1) := by decide +kernel
theorem dJ8_hugeLength_7cf53_16 : decode cJ8_hugeLength_7cf53 16 = .ok (.invokespecial 91, 3) := by decide +kernel
theorem dJ8_hugeLength_7cf53_19 : decode cJ8_hugeLength_7cf53 19 = .ok (.ldc 206, 2) := by decide +kernel
theorem dJ8_hugeLength_7cf53_21 : decode cJ8_hugeLength_7cf53 21 = .ok (.invokevirtual 94, 3) := by decide +kernel
theorem dJ8_hugeLength_7cf53_24 : decode cJ8_hugeLength_7cf53 24 = .ok (.iload_n 0, 1) := by decide +kernel
theorem dJ8_hugeLength_7cf53_25 : decode cJ8_hugeLength_7cf53 25 = .ok (.invokevirtual 98, 3) := by decide +kernel
theorem dJ8_hugeLength_7cf53_28 : decode cJ8_hugeLength_7cf53 28 = .ok (.ldc 208, 2) := by decide +kernel
theorem dJ8_hugeLength_7cf53_30 : decode cJ8_hugeLength_7cf53 30 = .ok (.invokevirtual 94, 3) := by decide +kernel
theorem dJ8_hugeLength_7cf53_33 : decode cJ8_hugeLength_7cf53 33 = .ok (.iload_n 1, 1) := by decide +kernel
theorem dJ8_hugeLength_7cf53_34 : decode cJ8_hugeLength_7cf53 34 = .ok (.invokevirtual 98, 3) := by decide +kernel
theorem dJ8_hugeLength_7cf53_37 : decode cJ8_hugeLength_7cf53 37 = .ok (.ldc 210, 2) := by decide +kernel
theorem dJ8_hugeLength_7cf53_39 : decode cJ8_hugeLength_7cf53 39 = .ok (.invokevirtual 94, 3) := by decide +kernel
theorem dJ8_hugeLength_7cf53_42 : decode cJ8_hugeLength_7cf53 42 = .ok (.invokevirtual 101, 3) := by decide +kernel
theorem dJ8_hugeLength_7cf53_45 : decode cJ8_hugeLength_7cf53 45 = .ok (.invokespecial 212, 3) := by decide +kernel
theorem dJ8_hugeLength_7cf53_48 : decode cJ8_hugeLength_7cf53 48 = .ok (.athrow, 1) := by decide +kernel
theorem dJ8_hugeLength_7cf53_49 : decode cJ8_hugeLength_7cf53 49 = .ok (.iload_n 2, 1) := by decide +kernel
theorem dJ8_hugeLength_7cf53_50 : decode cJ8_hugeLength_7cf53 50 = .ok (.ldc 200, 2) := by decide +kernel
theorem dJ8_hugeLength_7cf53_52 : decode cJ8_hugeLength_7cf53 52 = .ok (.if_icmp .gt 6, 3) := by decide +kernel
theorem dJ8_hugeLength_7cf53_55 : decode cJ8_hugeLength_7cf53 55 = .ok (.ldc 200, 2) := by decide +kernel
theorem dJ8_hugeLength_7cf53_57 : decode cJ8_hugeLength_7cf53 57 = .ok (.ireturn, 1) := by decide +kernel
theorem dJ8_hugeLength_7cf53_58 : decode cJ8_hugeLength_7cf53 58 = .ok (.iload_n 2, 1) := by decide +kernel
theorem dJ8_hugeLength_7cf53_59 : decode cJ8_hugeLength_7cf53 59 = .ok (.ireturn, 1) := by decide +kernel
theorem dJ3_checkIndex_8e157_0 : decode cJ3_checkIndex_8e157 0 = .ok (.iload_n 0, 1) := by decide +kernel
theorem dJ3_checkIndex_8e157_1 : decode cJ3_checkIndex_8e157 1 = .ok (.ifCond .lt 8, 3) := by decide +kernel
theorem dJ3_checkIndex_8e157_4 : decode cJ3_checkIndex_8e157 4 = .ok (.iload_n 0, 1) := by decide +kernel
theorem dJ3_checkIndex_8e157_5 : decode cJ3_checkIndex_8e157 5 = .ok (.iload_n 1, 1) := by decide +kernel
theorem dJ3_checkIndex_8e157_6 : decode cJ3_checkIndex_8e157 6 = .ok (.if_icmp .lt 10, 3) := by decide +kernel
theorem dJ3_checkIndex_8e157_9 : decode cJ3_checkIndex_8e157 9 = .ok (.aload_n 2, 1) := by decide +kernel
theorem dJ3_checkIndex_8e157_10 : decode cJ3_checkIndex_8e157 10 = .ok (.iload_n 0, 1) := by decide +kernel
theorem dJ3_checkIndex_8e157_11 : decode cJ3_checkIndex_8e157 11 = .ok (.iload_n 1, 1) := by decide +kernel
theorem dJ3_checkIndex_8e157_12 : decode cJ3_checkIndex_8e157 12 = .ok (.invokestatic 95, 3) := by decide +kernel
theorem dJ3_checkIndex_8e157_15 : decode cJ3_checkIndex_8e157 15 = .ok (.athrow, 1) := by decide +kernel
theorem dJ3_checkIndex_8e157_16 : decode cJ3_checkIndex_8e157 16 = .ok (.iload_n 0, 1) := by decide +kernel
theorem dJ3_checkIndex_8e157_17 : decode cJ3_checkIndex_8e157 17 = .ok (.ireturn, 1) := by decide +kernel
theorem dL_cell_0 : decode cL_cell 0 = .ok (.iload_n 1, 1) := by decide +kernel
theorem dL_cell_1 : decode cL_cell 1 = .ok (.aload_n 0, 1) := by decide +kernel
theorem dL_cell_2 : decode cL_cell 2 = .ok (.arraylength, 1) := by decide +kernel
theorem dL_cell_3 : decode cL_cell 3 = .ok (.if_icmp .ge 9, 3) := by decide +kernel
theorem dL_cell_6 : decode cL_cell 6 = .ok (.aload_n 0, 1) := by decide +kernel
theorem dL_cell_7 : decode cL_cell 7 = .ok (.iload_n 1, 1) := by decide +kernel
theorem dL_cell_8 : decode cL_cell 8 = .ok (.iaload, 1) := by decide +kernel
theorem dL_cell_9 : decode cL_cell 9 = .ok (.goto 18, 3) := by decide +kernel
theorem dL_cell_12 : decode cL_cell 12 = .ok (.sipush 7919, 3) := by decide +kernel
theorem dL_cell_15 : decode cL_cell 15 = .ok (.iload_n 1, 1) := by decide +kernel
theorem dL_cell_16 : decode cL_cell 16 = .ok (.sipush 1021, 3) := by decide +kernel
theorem dL_cell_19 : decode cL_cell 19 = .ok (.iadd, 1) := by decide +kernel
theorem dL_cell_20 : decode cL_cell 20 = .ok (.imul, 1) := by decide +kernel
theorem dL_cell_21 : decode cL_cell 21 = .ok (.iload_n 1, 1) := by decide +kernel
theorem dL_cell_22 : decode cL_cell 22 = .ok (.sipush 839, 3) := by decide +kernel
theorem dL_cell_25 : decode cL_cell 25 = .ok (.iadd, 1) := by decide +kernel
theorem dL_cell_26 : decode cL_cell 26 = .ok (.imul, 1) := by decide +kernel
theorem dL_cell_27 : decode cL_cell 27 = .ok (.ireturn, 1) := by decide +kernel
theorem dL_low_0 : decode cL_low 0 = .ok (.iload_n 0, 1) := by decide +kernel
theorem dL_low_1 : decode cL_low 1 = .ok (.ldc 7, 2) := by decide +kernel
theorem dL_low_3 : decode cL_low 3 = .ok (.iand, 1) := by decide +kernel
theorem dL_low_4 : decode cL_low 4 = .ok (.iload_n 1, 1) := by decide +kernel
theorem dL_low_5 : decode cL_low 5 = .ok (.irem, 1) := by decide +kernel
theorem dL_low_6 : decode cL_low 6 = .ok (.ireturn, 1) := by decide +kernel
set_option maxRecDepth 20000 in
theorem ggL_setPlan_X4_setPlan : GoodIn wsL_setPlan wsX4_setPlan := goodIn_ca (goodIn_r _ [7, 8, 9, 10, 6, 11, 12, 13, 14, 15, 16, 17, 18, 19, 20, 21, 22, 23, 24, 25, 26, 27] (by decide +kernel) (by decide +kernel)) (goodIn_sub (fun _ h => List.mem_cons_of_mem _ (List.mem_append_right _ h)) (by decide +kernel))
set_option maxRecDepth 20000 in
theorem gL_setPlan_X4_setPlan : GoodIn wsL_setPlan (wsV RL 8 RX4 yX4_setPlan wsX4_setPlan) := goodIn_app (goodIn_of _ (by decide +kernel)) ggL_setPlan_X4_setPlan
theorem dL_setPlan_0 : decode cL_setPlan 0 = .ok (.aload_n 0, 1) := by decide +kernel
theorem dL_setPlan_1 : decode cL_setPlan 1 = .ok (.iload_n 1, 1) := by decide +kernel
theorem dL_setPlan_2 : decode cL_setPlan 2 = .ok (.iload_n 2, 1) := by decide +kernel
theorem dL_setPlan_3 : decode cL_setPlan 3 = .ok (.iload_n 3, 1) := by decide +kernel
theorem dL_setPlan_4 : decode cL_setPlan 4 = .ok (.iload 4, 2) := by decide +kernel
theorem dL_setPlan_6 : decode cL_setPlan 6 = .ok (.invokevirtual 8, 3) := by decide +kernel
theorem dL_setPlan_9 : decode cL_setPlan 9 = .ok (.iconst 0, 1) := by decide +kernel
theorem dL_setPlan_10 : decode cL_setPlan 10 = .ok (.ireturn, 1) := by decide +kernel
theorem dL_setPlan_11 : decode cL_setPlan 11 = .ok (.astore 5, 2) := by decide +kernel
theorem dL_setPlan_13 : decode cL_setPlan 13 = .ok (.ldc 16, 2) := by decide +kernel
theorem dL_setPlan_15 : decode cL_setPlan 15 = .ok (.ireturn, 1) := by decide +kernel
set_option maxRecDepth 20000 in
theorem ggL_setRoute_X4_setRoute : GoodIn wsL_setRoute wsX4_setRoute := goodIn_ca (goodIn_r _ [7, 8, 9, 10, 6, 11, 12, 13, 14, 15, 16, 17, 18, 19, 20, 21, 22, 23, 24, 25] (by decide +kernel) (by decide +kernel)) (goodIn_sub (fun _ h => List.mem_cons_of_mem _ (List.mem_append_right _ h)) (by decide +kernel))
set_option maxRecDepth 20000 in
theorem gL_setRoute_X4_setRoute : GoodIn wsL_setRoute (wsV RL 17 RX4 yX4_setRoute wsX4_setRoute) := goodIn_app (goodIn_of _ (by decide +kernel)) ggL_setRoute_X4_setRoute
theorem dL_setRoute_0 : decode cL_setRoute 0 = .ok (.aload_n 0, 1) := by decide +kernel
theorem dL_setRoute_1 : decode cL_setRoute 1 = .ok (.iload_n 1, 1) := by decide +kernel
theorem dL_setRoute_2 : decode cL_setRoute 2 = .ok (.iload_n 2, 1) := by decide +kernel
theorem dL_setRoute_3 : decode cL_setRoute 3 = .ok (.iload_n 3, 1) := by decide +kernel
theorem dL_setRoute_4 : decode cL_setRoute 4 = .ok (.invokevirtual 17, 3) := by decide +kernel
theorem dL_setRoute_7 : decode cL_setRoute 7 = .ok (.iconst 0, 1) := by decide +kernel
theorem dL_setRoute_8 : decode cL_setRoute 8 = .ok (.ireturn, 1) := by decide +kernel
theorem dL_setRoute_9 : decode cL_setRoute 9 = .ok (.astore 4, 2) := by decide +kernel
theorem dL_setRoute_11 : decode cL_setRoute 11 = .ok (.ldc 16, 2) := by decide +kernel
theorem dL_setRoute_13 : decode cL_setRoute 13 = .ok (.ireturn, 1) := by decide +kernel
set_option maxRecDepth 20000 in
theorem ggL_addKey_X4_addKey : GoodIn wsL_addKey wsX4_addKey := goodIn_ca (goodIn_ca (goodIn_r _ [8, 9, 10, 11, 12, 13, 14, 15, 16, 17, 7, 18, 19, 20, 21, 22, 23, 24, 25, 26, 27, 28, 29, 30, 31, 32, 33, 34, 35, 36, 37, 38, 39, 40, 41, 42, 43, 44, 45, 46, 47, 48, 49, 50, 51, 52, 53, 54, 55, 56, 57, 58, 59, 60, 61, 62, 63, 64, 65, 66, 67, 68, 69, 70, 71, 72, 73, 74, 75, 76, 77, 78, 79, 80, 81, 82, 83, 84, 85, 86, 87, 88, 89, 90, 91, 92, 93, 94, 95, 96, 97, 98, 99, 100, 101, 102, 103, 104, 105, 106, 107, 108, 109, 110] (by decide +kernel) (by decide +kernel)) (goodIn_sub (fun _ h => List.mem_cons_of_mem _ (List.mem_append_left _ (List.mem_append_right _ h))) (by decide +kernel))) (goodIn_sub (fun _ h => List.mem_cons_of_mem _ (List.mem_append_right _ h)) (by decide +kernel))
set_option maxRecDepth 20000 in
theorem gL_addKey_X4_addKey : GoodIn wsL_addKey (wsV RL 21 RX4 yX4_addKey wsX4_addKey) := goodIn_app (goodIn_of _ (by decide +kernel)) ggL_addKey_X4_addKey
theorem dL_addKey_0 : decode cL_addKey 0 = .ok (.aload_n 0, 1) := by decide +kernel
theorem dL_addKey_1 : decode cL_addKey 1 = .ok (.iload_n 1, 1) := by decide +kernel
theorem dL_addKey_2 : decode cL_addKey 2 = .ok (.invokevirtual 21, 3) := by decide +kernel
theorem dL_addKey_5 : decode cL_addKey 5 = .ok (.ireturn, 1) := by decide +kernel
theorem dL_addKey_6 : decode cL_addKey 6 = .ok (.astore_n 2, 1) := by decide +kernel
theorem dL_addKey_7 : decode cL_addKey 7 = .ok (.ldc 16, 2) := by decide +kernel
theorem dL_addKey_9 : decode cL_addKey 9 = .ok (.ireturn, 1) := by decide +kernel
theorem dL_addKey_10 : decode cL_addKey 10 = .ok (.astore_n 2, 1) := by decide +kernel
theorem dL_addKey_11 : decode cL_addKey 11 = .ok (.ldc 16, 2) := by decide +kernel
theorem dL_addKey_13 : decode cL_addKey 13 = .ok (.ireturn, 1) := by decide +kernel
set_option maxRecDepth 20000 in
theorem ggL_setKeyPlan_X4_setKeyPlan : GoodIn wsL_setKeyPlan wsX4_setKeyPlan := goodIn_ca (goodIn_ca (goodIn_r _ [8, 9, 10, 11, 7, 12, 13, 14, 15, 16, 17, 18, 19, 20, 21, 22, 23, 24, 25, 26, 27, 28, 29, 30, 31, 32, 33, 34, 35, 36, 37, 38, 39, 40, 41, 42, 43, 44, 45, 46, 47, 48, 49, 50, 51, 52, 53, 54, 55, 56, 57, 58, 59, 60, 61, 62, 63, 64, 65, 66, 67, 68] (by decide +kernel) (by decide +kernel)) (goodIn_sub (fun _ h => List.mem_cons_of_mem _ (List.mem_append_left _ (List.mem_append_right _ h))) (by decide +kernel))) (goodIn_sub (fun _ h => List.mem_cons_of_mem _ (List.mem_append_right _ h)) (by decide +kernel))
set_option maxRecDepth 20000 in
theorem gL_setKeyPlan_X4_setKeyPlan : GoodIn wsL_setKeyPlan (wsV RL 27 RX4 yX4_setKeyPlan wsX4_setKeyPlan) := goodIn_app (goodIn_of _ (by decide +kernel)) ggL_setKeyPlan_X4_setKeyPlan
theorem dL_setKeyPlan_0 : decode cL_setKeyPlan 0 = .ok (.aload_n 0, 1) := by decide +kernel
theorem dL_setKeyPlan_1 : decode cL_setKeyPlan 1 = .ok (.iload_n 1, 1) := by decide +kernel
theorem dL_setKeyPlan_2 : decode cL_setKeyPlan 2 = .ok (.iload_n 2, 1) := by decide +kernel
theorem dL_setKeyPlan_3 : decode cL_setKeyPlan 3 = .ok (.invokevirtual 27, 3) := by decide +kernel
theorem dL_setKeyPlan_6 : decode cL_setKeyPlan 6 = .ok (.ireturn, 1) := by decide +kernel
theorem dL_setKeyPlan_7 : decode cL_setKeyPlan 7 = .ok (.astore_n 3, 1) := by decide +kernel
theorem dL_setKeyPlan_8 : decode cL_setKeyPlan 8 = .ok (.ldc 16, 2) := by decide +kernel
theorem dL_setKeyPlan_10 : decode cL_setKeyPlan 10 = .ok (.ireturn, 1) := by decide +kernel
theorem dL_setKeyPlan_11 : decode cL_setKeyPlan 11 = .ok (.astore_n 3, 1) := by decide +kernel
theorem dL_setKeyPlan_12 : decode cL_setKeyPlan 12 = .ok (.ldc 16, 2) := by decide +kernel
theorem dL_setKeyPlan_14 : decode cL_setKeyPlan 14 = .ok (.ireturn, 1) := by decide +kernel
set_option maxRecDepth 20000 in
theorem ggL_setTrust_X4_setTrust : GoodIn wsL_setTrust wsX4_setTrust := goodIn_ca (goodIn_ca (goodIn_r _ [8, 9, 10, 11, 7, 12, 13, 14, 15, 16, 17, 18, 19, 20, 21, 22, 23, 24, 25, 26, 27, 28, 29, 30, 31, 32, 33, 34, 35, 36, 37, 38, 39, 40, 41, 42, 43, 44, 45, 46, 47, 48, 49, 50, 51, 52, 53, 54, 55, 56, 57, 58, 59, 60, 61, 62] (by decide +kernel) (by decide +kernel)) (goodIn_sub (fun _ h => List.mem_cons_of_mem _ (List.mem_append_left _ (List.mem_append_right _ h))) (by decide +kernel))) (goodIn_sub (fun _ h => List.mem_cons_of_mem _ (List.mem_append_right _ h)) (by decide +kernel))
set_option maxRecDepth 20000 in
theorem gL_setTrust_X4_setTrust : GoodIn wsL_setTrust (wsV RL 33 RX4 yX4_setTrust wsX4_setTrust) := goodIn_app (goodIn_of _ (by decide +kernel)) ggL_setTrust_X4_setTrust
theorem dL_setTrust_0 : decode cL_setTrust 0 = .ok (.aload_n 0, 1) := by decide +kernel
theorem dL_setTrust_1 : decode cL_setTrust 1 = .ok (.iload_n 1, 1) := by decide +kernel
theorem dL_setTrust_2 : decode cL_setTrust 2 = .ok (.iload_n 2, 1) := by decide +kernel
theorem dL_setTrust_3 : decode cL_setTrust 3 = .ok (.invokevirtual 33, 3) := by decide +kernel
theorem dL_setTrust_6 : decode cL_setTrust 6 = .ok (.ireturn, 1) := by decide +kernel
theorem dL_setTrust_7 : decode cL_setTrust 7 = .ok (.astore_n 3, 1) := by decide +kernel
theorem dL_setTrust_8 : decode cL_setTrust 8 = .ok (.ldc 16, 2) := by decide +kernel
theorem dL_setTrust_10 : decode cL_setTrust 10 = .ok (.ireturn, 1) := by decide +kernel
theorem dL_setTrust_11 : decode cL_setTrust 11 = .ok (.astore_n 3, 1) := by decide +kernel
theorem dL_setTrust_12 : decode cL_setTrust 12 = .ok (.ldc 16, 2) := by decide +kernel
theorem dL_setTrust_14 : decode cL_setTrust 14 = .ok (.ireturn, 1) := by decide +kernel
set_option maxRecDepth 20000 in
theorem ggL_pay_X4_pay : GoodIn wsL_pay wsX4_pay := goodIn_ca (goodIn_ca (goodIn_r _ [8, 9, 10, 11, 12, 7, 13, 14, 15, 16, 17, 18, 19, 20, 21, 22, 23, 24, 25, 26, 27, 28, 29, 30, 31, 32, 33, 34, 35, 36, 37, 38, 39, 40, 41, 42, 43, 44, 45, 46, 47, 48, 49, 50, 51, 52, 53, 54, 55, 56, 57, 58, 59, 60, 61, 62, 63, 64, 65, 66, 67, 68, 69, 70, 71, 72, 73] (by decide +kernel) (by decide +kernel)) (goodIn_sub (fun _ h => List.mem_cons_of_mem _ (List.mem_append_left _ (List.mem_append_right _ h))) (by decide +kernel))) (goodIn_sub (fun _ h => List.mem_cons_of_mem _ (List.mem_append_right _ h)) (by decide +kernel))
set_option maxRecDepth 20000 in
theorem gL_pay_X4_pay : GoodIn wsL_pay (wsV RL 36 RX4 yX4_pay wsX4_pay) := goodIn_app (goodIn_of _ (by decide +kernel)) ggL_pay_X4_pay
theorem dL_pay_0 : decode cL_pay 0 = .ok (.aload_n 0, 1) := by decide +kernel
theorem dL_pay_1 : decode cL_pay 1 = .ok (.iload_n 1, 1) := by decide +kernel
theorem dL_pay_2 : decode cL_pay 2 = .ok (.iload_n 2, 1) := by decide +kernel
theorem dL_pay_3 : decode cL_pay 3 = .ok (.invokevirtual 36, 3) := by decide +kernel
theorem dL_pay_6 : decode cL_pay 6 = .ok (.ireturn, 1) := by decide +kernel
theorem dL_pay_7 : decode cL_pay 7 = .ok (.astore_n 3, 1) := by decide +kernel
theorem dL_pay_8 : decode cL_pay 8 = .ok (.ldc 16, 2) := by decide +kernel
theorem dL_pay_10 : decode cL_pay 10 = .ok (.ireturn, 1) := by decide +kernel
theorem dL_pay_11 : decode cL_pay 11 = .ok (.astore_n 3, 1) := by decide +kernel
theorem dL_pay_12 : decode cL_pay 12 = .ok (.ldc 16, 2) := by decide +kernel
theorem dL_pay_14 : decode cL_pay 14 = .ok (.ireturn, 1) := by decide +kernel
set_option maxRecDepth 20000 in
theorem ggL_call_X4_call : GoodIn wsL_call wsX4_call := goodIn_ca (goodIn_ca (goodIn_ca (goodIn_r _ [9, 10, 11, 12, 13, 14, 15, 16, 17, 18, 19, 8, 20, 21, 22, 23, 24, 25, 26, 27, 28, 29, 30, 31, 32, 33, 34, 35, 36, 37, 38, 39, 40, 41, 42, 43, 44, 45, 46, 47, 48, 49, 50, 51, 52, 53, 54, 55, 56, 57, 58, 59, 60, 61, 62, 63, 64, 65, 66, 67, 68, 69, 70, 71, 72, 73, 74, 75, 76, 77, 78, 79, 80, 81, 82, 83, 84, 85, 86, 87, 88, 89, 90, 91, 92, 93, 94, 95, 96, 97, 98, 99, 100, 101, 102, 103, 104, 105, 106, 107, 108, 109, 110, 111, 112, 113, 114, 115, 116, 117, 118, 119, 120, 121, 122, 123, 124, 125, 126, 127, 128, 129, 130, 131, 132, 133, 134, 135, 136, 137, 138, 139, 140, 141, 142, 143, 144, 145, 146, 147, 148, 149, 150, 151, 152, 153, 154, 155, 156, 157, 158, 159, 160, 161] (by decide +kernel) (by decide +kernel)) (goodIn_sub (fun _ h => List.mem_cons_of_mem _ (List.mem_append_left _ (List.mem_append_left _ (List.mem_append_right _ h)))) (by decide +kernel))) (goodIn_sub (fun _ h => List.mem_cons_of_mem _ (List.mem_append_left _ (List.mem_append_right _ h))) (by decide +kernel))) (goodIn_sub (fun _ h => List.mem_cons_of_mem _ (List.mem_append_right _ h)) (by decide +kernel))
set_option maxRecDepth 20000 in
theorem gL_call_X4_call : GoodIn wsL_call (wsV RL 39 RX4 yX4_call wsX4_call) := goodIn_app (goodIn_of _ (by decide +kernel)) ggL_call_X4_call
theorem dL_call_0 : decode cL_call 0 = .ok (.aload_n 0, 1) := by decide +kernel
theorem dL_call_1 : decode cL_call 1 = .ok (.iload_n 1, 1) := by decide +kernel
theorem dL_call_2 : decode cL_call 2 = .ok (.iload_n 2, 1) := by decide +kernel
theorem dL_call_3 : decode cL_call 3 = .ok (.iload_n 3, 1) := by decide +kernel
theorem dL_call_4 : decode cL_call 4 = .ok (.invokevirtual 39, 3) := by decide +kernel
theorem dL_call_7 : decode cL_call 7 = .ok (.ireturn, 1) := by decide +kernel
theorem dL_call_8 : decode cL_call 8 = .ok (.astore 4, 2) := by decide +kernel
theorem dL_call_10 : decode cL_call 10 = .ok (.ldc 16, 2) := by decide +kernel
theorem dL_call_12 : decode cL_call 12 = .ok (.ireturn, 1) := by decide +kernel
theorem dL_call_13 : decode cL_call 13 = .ok (.astore 4, 2) := by decide +kernel
theorem dL_call_15 : decode cL_call 15 = .ok (.ldc 16, 2) := by decide +kernel
theorem dL_call_17 : decode cL_call 17 = .ok (.ireturn, 1) := by decide +kernel
theorem dL_call_18 : decode cL_call 18 = .ok (.astore 4, 2) := by decide +kernel
theorem dL_call_20 : decode cL_call 20 = .ok (.ldc 16, 2) := by decide +kernel
theorem dL_call_22 : decode cL_call 22 = .ok (.ireturn, 1) := by decide +kernel
set_option maxRecDepth 20000 in
theorem ggL_end_X4_end : GoodIn wsL_end wsX4_end := goodIn_ca (goodIn_ca (goodIn_ca (goodIn_r _ [9, 10, 11, 12, 13, 14, 15, 8, 16, 17, 18, 19, 20, 21, 22, 23, 24, 25, 26, 27, 28, 29, 30, 31, 32, 33, 34, 35, 36, 37, 38, 39, 40, 41, 42, 43, 44, 45, 46, 47, 48, 49, 50, 51, 52, 53, 54, 55, 56, 57, 58, 59, 60, 61, 62, 63, 64, 65, 66, 67, 68, 69, 70, 71, 72, 73, 74, 75, 76, 77, 78, 79, 80, 81, 82, 83, 84, 85, 86, 87, 88, 89, 90, 91, 92, 93, 94, 95, 96, 97, 98, 99, 100, 101, 102, 103, 104, 105] (by decide +kernel) (by decide +kernel)) (goodIn_sub (fun _ h => List.mem_cons_of_mem _ (List.mem_append_left _ (List.mem_append_left _ (List.mem_append_right _ h)))) (by decide +kernel))) (goodIn_sub (fun _ h => List.mem_cons_of_mem _ (List.mem_append_left _ (List.mem_append_right _ h))) (by decide +kernel))) (goodIn_sub (fun _ h => List.mem_cons_of_mem _ (List.mem_append_right _ h)) (by decide +kernel))
set_option maxRecDepth 20000 in
theorem gL_end_X4_end : GoodIn wsL_end (wsV RL 43 RX4 yX4_end wsX4_end) := goodIn_app (goodIn_of _ (by decide +kernel)) ggL_end_X4_end
theorem dL_end_0 : decode cL_end 0 = .ok (.aload_n 0, 1) := by decide +kernel
theorem dL_end_1 : decode cL_end 1 = .ok (.iload_n 1, 1) := by decide +kernel
theorem dL_end_2 : decode cL_end 2 = .ok (.iload_n 2, 1) := by decide +kernel
theorem dL_end_3 : decode cL_end 3 = .ok (.invokevirtual 43, 3) := by decide +kernel
theorem dL_end_6 : decode cL_end 6 = .ok (.ireturn, 1) := by decide +kernel
theorem dL_end_7 : decode cL_end 7 = .ok (.astore_n 3, 1) := by decide +kernel
theorem dL_end_8 : decode cL_end 8 = .ok (.ldc 16, 2) := by decide +kernel
theorem dL_end_10 : decode cL_end 10 = .ok (.ireturn, 1) := by decide +kernel
theorem dL_end_11 : decode cL_end 11 = .ok (.astore_n 3, 1) := by decide +kernel
theorem dL_end_12 : decode cL_end 12 = .ok (.ldc 16, 2) := by decide +kernel
theorem dL_end_14 : decode cL_end 14 = .ok (.ireturn, 1) := by decide +kernel
theorem dL_end_15 : decode cL_end 15 = .ok (.astore_n 3, 1) := by decide +kernel
theorem dL_end_16 : decode cL_end 16 = .ok (.ldc 16, 2) := by decide +kernel
theorem dL_end_18 : decode cL_end 18 = .ok (.ireturn, 1) := by decide +kernel
set_option maxRecDepth 20000 in
theorem ggL_dispute_X4_dispute : GoodIn wsL_dispute wsX4_dispute := goodIn_ca (goodIn_ca (goodIn_r _ [8, 9, 10, 11, 12, 13, 14, 7, 15, 16, 17, 18, 19, 20, 21, 22, 23, 24, 25, 26, 27, 28, 29, 30, 31, 32, 33, 34, 35, 36, 37, 38, 39, 40, 41, 42, 43, 44, 45, 46, 47, 48, 49, 50, 51, 52, 53, 54, 55, 56, 57, 58, 59, 60, 61, 62, 63, 64, 65, 66, 67, 68, 69, 70, 71, 72, 73, 74, 75, 76, 77, 78, 79, 80, 81, 82, 83, 84, 85, 86, 87, 88] (by decide +kernel) (by decide +kernel)) (goodIn_sub (fun _ h => List.mem_cons_of_mem _ (List.mem_append_left _ (List.mem_append_right _ h))) (by decide +kernel))) (goodIn_sub (fun _ h => List.mem_cons_of_mem _ (List.mem_append_right _ h)) (by decide +kernel))
set_option maxRecDepth 20000 in
theorem gL_dispute_X4_dispute : GoodIn wsL_dispute (wsV RL 46 RX4 yX4_dispute wsX4_dispute) := goodIn_app (goodIn_of _ (by decide +kernel)) ggL_dispute_X4_dispute
theorem dL_dispute_0 : decode cL_dispute 0 = .ok (.aload_n 0, 1) := by decide +kernel
theorem dL_dispute_1 : decode cL_dispute 1 = .ok (.iload_n 1, 1) := by decide +kernel
theorem dL_dispute_2 : decode cL_dispute 2 = .ok (.invokevirtual 46, 3) := by decide +kernel
theorem dL_dispute_5 : decode cL_dispute 5 = .ok (.ireturn, 1) := by decide +kernel
theorem dL_dispute_6 : decode cL_dispute 6 = .ok (.astore_n 2, 1) := by decide +kernel
theorem dL_dispute_7 : decode cL_dispute 7 = .ok (.ldc 16, 2) := by decide +kernel
theorem dL_dispute_9 : decode cL_dispute 9 = .ok (.ireturn, 1) := by decide +kernel
theorem dL_dispute_10 : decode cL_dispute 10 = .ok (.astore_n 2, 1) := by decide +kernel
theorem dL_dispute_11 : decode cL_dispute 11 = .ok (.ldc 16, 2) := by decide +kernel
theorem dL_dispute_13 : decode cL_dispute 13 = .ok (.ireturn, 1) := by decide +kernel
set_option maxRecDepth 20000 in
theorem ggL_pass_X4_pass : GoodIn wsL_pass wsX4_pass := goodIn_ca (goodIn_r _ [7, 8, 9, 10, 6, 11, 12, 13, 14, 15, 16, 17, 18, 19, 20, 21, 22, 23, 24, 25, 26, 27, 28, 29, 30, 31, 32, 33, 34, 35, 36, 37, 38, 39, 40, 41, 42, 43, 44, 45, 46, 47, 48, 49, 50, 51, 52, 53, 54, 55, 56, 57, 58, 59, 60, 61, 62, 63, 64, 65, 66, 67, 68, 69, 70, 71, 72, 73, 74, 75, 76, 77, 78, 79, 80, 81, 82, 83, 84, 85, 86, 87, 88, 89, 90, 91, 92, 93, 94, 95, 96, 97, 98, 99, 100, 101, 102, 103, 104, 105, 106, 107, 108, 109, 110, 111, 112, 113, 114, 115, 116, 117, 118, 119] (by decide +kernel) (by decide +kernel)) (goodIn_sub (fun _ h => List.mem_cons_of_mem _ (List.mem_append_right _ h)) (by decide +kernel))
set_option maxRecDepth 20000 in
theorem gL_pass_X4_pass : GoodIn wsL_pass (wsV RL 49 RX4 yX4_pass wsX4_pass) := goodIn_app (goodIn_of _ (by decide +kernel)) ggL_pass_X4_pass
theorem dL_pass_0 : decode cL_pass 0 = .ok (.aload_n 0, 1) := by decide +kernel
theorem dL_pass_1 : decode cL_pass 1 = .ok (.iload_n 1, 1) := by decide +kernel
theorem dL_pass_2 : decode cL_pass 2 = .ok (.invokevirtual 49, 3) := by decide +kernel
theorem dL_pass_5 : decode cL_pass 5 = .ok (.ireturn, 1) := by decide +kernel
theorem dL_pass_6 : decode cL_pass 6 = .ok (.astore_n 2, 1) := by decide +kernel
theorem dL_pass_7 : decode cL_pass 7 = .ok (.ldc 16, 2) := by decide +kernel
theorem dL_pass_9 : decode cL_pass 9 = .ok (.ireturn, 1) := by decide +kernel
set_option maxRecDepth 20000 in
theorem ggL_credit_X4_credit : GoodIn wsL_credit wsX4_credit := goodIn_ca (goodIn_r _ [6, 7, 8, 9, 5, 10, 11, 12, 13, 14, 15, 16, 17, 18, 19, 20, 21, 22, 23, 24, 25, 26, 27, 28, 29, 30, 31, 32, 33, 34, 35, 36, 37, 38, 39, 40, 41, 42, 43, 44, 45, 46, 47, 48, 49, 50, 51, 52, 53, 54, 55] (by decide +kernel) (by decide +kernel)) (goodIn_sub (fun _ h => List.mem_cons_of_mem _ (List.mem_append_right _ h)) (by decide +kernel))
set_option maxRecDepth 20000 in
theorem gL_credit_X4_credit : GoodIn wsL_credit (wsV RL 52 RX4 yX4_credit wsX4_credit) := goodIn_app (goodIn_of _ (by decide +kernel)) ggL_credit_X4_credit
theorem dL_credit_0 : decode cL_credit 0 = .ok (.aload_n 0, 1) := by decide +kernel
theorem dL_credit_1 : decode cL_credit 1 = .ok (.iload_n 1, 1) := by decide +kernel
theorem dL_credit_2 : decode cL_credit 2 = .ok (.invokevirtual 52, 3) := by decide +kernel
theorem dL_credit_5 : decode cL_credit 5 = .ok (.ireturn, 1) := by decide +kernel
theorem dL_credit_6 : decode cL_credit 6 = .ok (.astore_n 2, 1) := by decide +kernel
theorem dL_credit_7 : decode cL_credit 7 = .ok (.iconst (-1), 1) := by decide +kernel
theorem dL_credit_8 : decode cL_credit 8 = .ok (.ireturn, 1) := by decide +kernel
set_option maxRecDepth 20000 in
theorem ggL_act_L_low : GoodIn wsL_act wsL_low := goodIn_r _ [5, 6] (by decide +kernel) (by decide +kernel)
set_option maxRecDepth 20000 in
theorem gL_act_L_low : GoodIn wsL_act (va_wsS RL 55 yL_low wsL_low) := goodIn_app (goodIn_of _ (by decide +kernel)) ggL_act_L_low
set_option maxRecDepth 20000 in
theorem ggL_act_X4_calls : GoodIn wsL_act wsX4_calls := goodIn_r _ [11, 12, 13, 14, 15, 16, 17, 18, 268, 269, 270, 271, 272, 273, 274, 275, 276] (by decide +kernel) (by decide +kernel)
set_option maxRecDepth 20000 in
theorem gL_act_X4_calls : GoodIn wsL_act (wsV RL 60 RX4 yX4_calls wsX4_calls) := goodIn_app (goodIn_of _ (by decide +kernel)) ggL_act_X4_calls
set_option maxRecDepth 20000 in
theorem ggL_act_L_setPlan : GoodIn wsL_act wsL_setPlan := goodIn_ca (goodIn_r _ [21, 22, 23, 24, 25, 26, 10, 27, 28, 29, 30, 31, 32, 33, 34, 35, 36, 37, 277, 278, 279, 280, 268, 269, 270, 271, 272, 273] (by decide +kernel) (by decide +kernel)) (goodIn_sub (fun _ h => List.mem_cons_of_mem _ (List.mem_append_left _ (List.mem_append_left _ (List.mem_append_right _ h)))) (by decide +kernel))
set_option maxRecDepth 20000 in
theorem gL_act_L_setPlan : GoodIn wsL_act (va_wsS RL 64 yL_setPlan wsL_setPlan) := goodIn_app (goodIn_of _ (by decide +kernel)) ggL_act_L_setPlan
set_option maxRecDepth 20000 in
theorem ggL_act_L_setRoute : GoodIn wsL_act wsL_setRoute := goodIn_ca (goodIn_r _ [40, 22, 23, 41, 42, 43, 10, 44, 45, 46, 47, 48, 32, 33, 49, 35, 36, 37, 281, 282, 268, 269, 270, 271, 272, 273] (by decide +kernel) (by decide +kernel)) (goodIn_sub (fun _ h => List.mem_cons_of_mem _ (List.mem_append_left _ (List.mem_append_left _ (List.mem_append_right _ h)))) (by decide +kernel))
set_option maxRecDepth 20000 in
theorem gL_act_L_setRoute : GoodIn wsL_act (va_wsS RL 67 yL_setRoute wsL_setRoute) := goodIn_app (goodIn_of _ (by decide +kernel)) ggL_act_L_setRoute
set_option maxRecDepth 20000 in
theorem ggL_act_L_addKey : GoodIn wsL_act wsL_addKey := goodIn_ca (goodIn_ca (goodIn_r _ [52, 22, 53, 23, 54, 55, 56, 10, 57, 58, 59, 60, 61, 62, 63, 28, 29, 30, 31, 32, 33, 34, 13, 14, 15, 16, 17, 18, 64, 65, 66, 67, 68, 69, 70, 71, 72, 73, 74, 75, 76, 77, 78, 79, 80, 81, 82, 83, 84, 85, 86, 87, 88, 89, 90, 91, 92, 93, 94, 95, 96, 97, 98, 99, 100, 101, 102, 103, 104, 105, 106, 107, 108, 109, 110, 111, 112, 113, 114, 115, 116, 117, 118, 119, 120, 121, 122, 123, 124, 268, 269, 270, 271, 272, 273, 283, 284, 285, 286, 287, 288, 289, 290, 291, 274, 275, 276, 277, 278, 279, 280] (by decide +kernel) (by decide +kernel)) (goodIn_sub (fun _ h => List.mem_cons_of_mem _ (List.mem_append_left _ (List.mem_append_right _ h))) (by decide +kernel))) (goodIn_sub (fun _ h => List.mem_cons_of_mem _ (List.mem_append_left _ (List.mem_append_left _ (List.mem_append_right _ h)))) (by decide +kernel))
set_option maxRecDepth 20000 in
theorem gL_act_L_addKey : GoodIn wsL_act (va_wsS RL 70 yL_addKey wsL_addKey) := goodIn_app (goodIn_of _ (by decide +kernel)) ggL_act_L_addKey
set_option maxRecDepth 20000 in
theorem ggL_act_L_setKeyPlan : GoodIn wsL_act wsL_setKeyPlan := goodIn_ca (goodIn_ca (goodIn_r _ [127, 128, 22, 23, 129, 130, 131, 10, 132, 133, 134, 135, 136, 137, 138, 60, 139, 13, 14, 15, 16, 17, 18, 140, 141, 142, 143, 144, 145, 146, 147, 148, 149, 150, 151, 152, 153, 154, 155, 77, 28, 29, 30, 31, 32, 33, 34, 283, 284, 285, 286, 287, 288, 289, 290, 291, 277, 278, 279, 280, 268, 269, 270, 271, 272, 273, 274, 275, 276] (by decide +kernel) (by decide +kernel)) (goodIn_sub (fun _ h => List.mem_cons_of_mem _ (List.mem_append_right _ h)) (by decide +kernel))) (goodIn_sub (fun _ h => List.mem_cons_of_mem _ (List.mem_append_left _ (List.mem_append_left _ (List.mem_append_right _ h)))) (by decide +kernel))
set_option maxRecDepth 20000 in
theorem gL_act_L_setKeyPlan : GoodIn wsL_act (va_wsS RL 73 yL_setKeyPlan wsL_setKeyPlan) := goodIn_app (goodIn_of _ (by decide +kernel)) ggL_act_L_setKeyPlan
set_option maxRecDepth 20000 in
theorem ggL_act_L_setTrust : GoodIn wsL_act wsL_setTrust := goodIn_ca (goodIn_ca (goodIn_r _ [158, 128, 22, 23, 159, 160, 161, 10, 162, 133, 134, 135, 136, 137, 138, 60, 139, 13, 14, 15, 16, 17, 18, 140, 141, 142, 143, 144, 145, 146, 147, 148, 149, 150, 151, 152, 153, 154, 155, 77, 35, 36, 37, 32, 33, 283, 284, 285, 286, 287, 288, 289, 290, 291, 268, 269, 270, 271, 272, 273, 274, 275, 276] (by decide +kernel) (by decide +kernel)) (goodIn_sub (fun _ h => List.mem_cons_of_mem _ (List.mem_append_right _ h)) (by decide +kernel))) (goodIn_sub (fun _ h => List.mem_cons_of_mem _ (List.mem_append_left _ (List.mem_append_left _ (List.mem_append_right _ h)))) (by decide +kernel))
set_option maxRecDepth 20000 in
theorem gL_act_L_setTrust : GoodIn wsL_act (va_wsS RL 76 yL_setTrust wsL_setTrust) := goodIn_app (goodIn_of _ (by decide +kernel)) ggL_act_L_setTrust
set_option maxRecDepth 20000 in
theorem ggL_act_L_pay : GoodIn wsL_act wsL_pay := goodIn_ca (goodIn_ca (goodIn_r _ [165, 128, 22, 23, 166, 167, 168, 10, 169, 170, 133, 134, 135, 136, 137, 138, 60, 139, 13, 14, 15, 16, 17, 18, 140, 141, 142, 143, 144, 145, 146, 147, 148, 149, 150, 151, 152, 153, 154, 155, 77, 35, 36, 37, 32, 33, 171, 63, 172, 173, 174, 175, 119, 93, 120, 176, 283, 284, 285, 286, 287, 288, 289, 290, 291, 268, 269, 270, 271, 272, 273, 274, 275, 276] (by decide +kernel) (by decide +kernel)) (goodIn_sub (fun _ h => List.mem_cons_of_mem _ (List.mem_append_right _ h)) (by decide +kernel))) (goodIn_sub (fun _ h => List.mem_cons_of_mem _ (List.mem_append_left _ (List.mem_append_left _ (List.mem_append_right _ h)))) (by decide +kernel))
set_option maxRecDepth 20000 in
theorem gL_act_L_pay : GoodIn wsL_act (va_wsS RL 79 yL_pay wsL_pay) := goodIn_app (goodIn_of _ (by decide +kernel)) ggL_act_L_pay
set_option maxRecDepth 20000 in
theorem ggL_act_L_end : GoodIn wsL_act wsL_end := goodIn_ca (goodIn_ca (goodIn_ca (goodIn_r _ [179, 128, 22, 53, 23, 180, 181, 182, 10, 183, 58, 59, 184, 185, 186, 187, 188, 137, 138, 12, 189, 13, 14, 15, 16, 17, 18, 140, 141, 142, 143, 144, 145, 146, 147, 148, 149, 150, 151, 152, 153, 154, 155, 77, 35, 36, 37, 32, 33, 190, 191, 192, 193, 194, 195, 196, 197, 198, 199, 200, 201, 202, 203, 204, 205, 63, 206, 207, 208, 209, 210, 211, 171, 172, 173, 174, 175, 119, 93, 120, 176, 268, 269, 270, 271, 272, 273, 292, 293, 294, 295, 296, 297, 298, 274, 275, 276, 283, 284, 285, 286, 287, 288, 289, 290, 291] (by decide +kernel) (by decide +kernel)) (goodIn_sub (fun _ h => List.mem_cons_of_mem _ (List.mem_append_left _ (List.mem_append_right _ h))) (by decide +kernel))) (goodIn_sub (fun _ h => List.mem_cons_of_mem _ (List.mem_append_right _ h)) (by decide +kernel))) (goodIn_sub (fun _ h => List.mem_cons_of_mem _ (List.mem_append_left _ (List.mem_append_left _ (List.mem_append_right _ h)))) (by decide +kernel))
set_option maxRecDepth 20000 in
theorem gL_act_L_end : GoodIn wsL_act (va_wsS RL 81 yL_end wsL_end) := goodIn_app (goodIn_of _ (by decide +kernel)) ggL_act_L_end
set_option maxRecDepth 20000 in
theorem ggL_act_L_dispute : GoodIn wsL_act wsL_dispute := goodIn_ca (goodIn_ca (goodIn_r _ [214, 128, 53, 23, 215, 216, 217, 10, 218, 58, 59, 184, 185, 186, 187, 188, 137, 138, 12, 189, 13, 14, 15, 16, 17, 18, 140, 141, 142, 143, 144, 145, 146, 147, 148, 149, 150, 151, 152, 153, 154, 155, 77, 190, 191, 192, 193, 194, 219, 220, 221, 222, 199, 223, 171, 63, 172, 173, 174, 175, 119, 93, 120, 176, 292, 293, 294, 295, 296, 297, 298, 268, 269, 270, 271, 272, 273, 274, 275, 276, 283, 284, 285, 286, 287, 288, 289, 290, 291] (by decide +kernel) (by decide +kernel)) (goodIn_sub (fun _ h => List.mem_cons_of_mem _ (List.mem_append_left _ (List.mem_append_right _ h))) (by decide +kernel))) (goodIn_sub (fun _ h => List.mem_cons_of_mem _ (List.mem_append_right _ h)) (by decide +kernel))
set_option maxRecDepth 20000 in
theorem gL_act_L_dispute : GoodIn wsL_act (va_wsS RL 83 yL_dispute wsL_dispute) := goodIn_app (goodIn_of _ (by decide +kernel)) ggL_act_L_dispute
set_option maxRecDepth 20000 in
theorem ggL_act_L_pass : GoodIn wsL_act wsL_pass := goodIn_ca (goodIn_r _ [226, 22, 23, 227, 228, 229, 10, 230, 184, 35, 36, 37, 32, 33, 231, 232, 233, 234, 235, 12, 189, 13, 14, 15, 16, 17, 18, 140, 141, 142, 143, 144, 145, 146, 147, 148, 149, 150, 151, 152, 153, 154, 155, 77, 190, 191, 192, 193, 194, 195, 196, 197, 198, 199, 200, 201, 202, 203, 204, 205, 63, 206, 207, 208, 209, 210, 211, 171, 172, 173, 174, 175, 119, 93, 120, 176, 236, 237, 238, 239, 60, 139, 240, 241, 242, 70, 69, 243, 244, 245, 246, 268, 269, 270, 271, 272, 273, 292, 293, 294, 295, 296, 297, 298, 274, 275, 276, 283, 284, 285, 286, 287, 288, 289, 290, 291, 277, 278, 279, 280] (by decide +kernel) (by decide +kernel)) (goodIn_sub (fun _ h => List.mem_cons_of_mem _ (List.mem_append_left _ (List.mem_append_left _ (List.mem_append_right _ h)))) (by decide +kernel))
set_option maxRecDepth 20000 in
theorem gL_act_L_pass : GoodIn wsL_act (va_wsS RL 85 yL_pass wsL_pass) := goodIn_app (goodIn_of _ (by decide +kernel)) ggL_act_L_pass
set_option maxRecDepth 20000 in
theorem ggL_act_L_call : GoodIn wsL_act wsL_call := goodIn_ca (goodIn_ca (goodIn_ca (goodIn_r _ [249, 128, 22, 53, 23, 250, 251, 252, 10, 253, 58, 59, 12, 254, 255, 191, 184, 133, 134, 135, 136, 137, 138, 60, 139, 13, 14, 15, 16, 17, 18, 140, 141, 142, 143, 144, 145, 146, 147, 148, 149, 150, 151, 152, 153, 154, 155, 77, 45, 46, 47, 48, 32, 33, 49, 35, 36, 37, 256, 63, 257, 258, 259, 174, 260, 92, 93, 94, 176, 261, 262, 263, 175, 119, 120, 208, 209, 264, 265, 266, 67, 68, 194, 199, 200, 223, 267, 71, 72, 73, 74, 75, 76, 78, 79, 80, 81, 82, 83, 84, 85, 86, 87, 88, 89, 90, 91, 95, 96, 97, 98, 99, 100, 101, 102, 103, 104, 105, 106, 107, 108, 109, 110, 111, 112, 113, 114, 115, 116, 117, 118, 121, 122, 123, 124, 268, 269, 270, 271, 272, 273, 281, 282, 283, 284, 285, 286, 287, 288, 289, 290, 291, 292, 293, 294, 295, 296, 297, 298, 274, 275, 276] (by decide +kernel) (by decide +kernel)) (goodIn_sub (fun _ h => List.mem_cons_of_mem _ (List.mem_append_left _ (List.mem_append_right _ h))) (by decide +kernel))) (goodIn_sub (fun _ h => List.mem_cons_of_mem _ (List.mem_append_right _ h)) (by decide +kernel))) (goodIn_sub (fun _ h => List.mem_cons_of_mem _ (List.mem_append_left _ (List.mem_append_left _ (List.mem_append_right _ h)))) (by decide +kernel))
set_option maxRecDepth 20000 in
theorem gL_act_L_call : GoodIn wsL_act (va_wsS RL 87 yL_call wsL_call) := goodIn_app (goodIn_of _ (by decide +kernel)) ggL_act_L_call
theorem dL_act_0 : decode cL_act 0 = .ok (.iload_n 1, 1) := by decide +kernel
theorem dL_act_1 : decode cL_act 1 = .ok (.bipush 24, 2) := by decide +kernel
theorem dL_act_3 : decode cL_act 3 = .ok (.ishr, 1) := by decide +kernel
theorem dL_act_4 : decode cL_act 4 = .ok (.bipush 9, 2) := by decide +kernel
theorem dL_act_6 : decode cL_act 6 = .ok (.invokestatic 55, 3) := by decide +kernel
theorem dL_act_9 : decode cL_act 9 = .ok (.ifCond .ne 7, 3) := by decide +kernel
theorem dL_act_12 : decode cL_act 12 = .ok (.iconst 1, 1) := by decide +kernel
theorem dL_act_13 : decode cL_act 13 = .ok (.goto 4, 3) := by decide +kernel
theorem dL_act_16 : decode cL_act 16 = .ok (.iconst 0, 1) := by decide +kernel
theorem dL_act_17 : decode cL_act 17 = .ok (.istore_n 2, 1) := by decide +kernel
theorem dL_act_18 : decode cL_act 18 = .ok (.iload_n 2, 1) := by decide +kernel
theorem dL_act_19 : decode cL_act 19 = .ok (.ifCond .eq 16, 3) := by decide +kernel
theorem dL_act_22 : decode cL_act 22 = .ok (.iload_n 1, 1) := by decide +kernel
theorem dL_act_23 : decode cL_act 23 = .ok (.iconst 4, 1) := by decide +kernel
theorem dL_act_24 : decode cL_act 24 = .ok (.ishr, 1) := by decide +kernel
theorem dL_act_25 : decode cL_act 25 = .ok (.bipush 10, 2) := by decide +kernel
theorem dL_act_27 : decode cL_act 27 = .ok (.invokestatic 55, 3) := by decide +kernel
theorem dL_act_30 : decode cL_act 30 = .ok (.iconst 1, 1) := by decide +kernel
theorem dL_act_31 : decode cL_act 31 = .ok (.isub, 1) := by decide +kernel
theorem dL_act_32 : decode cL_act 32 = .ok (.goto 10, 3) := by decide +kernel
theorem dL_act_35 : decode cL_act 35 = .ok (.iload_n 1, 1) := by decide +kernel
theorem dL_act_36 : decode cL_act 36 = .ok (.iconst 4, 1) := by decide +kernel
theorem dL_act_37 : decode cL_act 37 = .ok (.ishr, 1) := by decide +kernel
theorem dL_act_38 : decode cL_act 38 = .ok (.iconst 3, 1) := by decide +kernel
theorem dL_act_39 : decode cL_act 39 = .ok (.invokestatic 55, 3) := by decide +kernel
theorem dL_act_42 : decode cL_act 42 = .ok (.istore_n 3, 1) := by decide +kernel
theorem dL_act_43 : decode cL_act 43 = .ok (.iload_n 2, 1) := by decide +kernel
theorem dL_act_44 : decode cL_act 44 = .ok (.ifCond .eq 17, 3) := by decide +kernel
theorem dL_act_47 : decode cL_act 47 = .ok (.iload_n 1, 1) := by decide +kernel
theorem dL_act_48 : decode cL_act 48 = .ok (.bipush 7, 2) := by decide +kernel
theorem dL_act_50 : decode cL_act 50 = .ok (.ishr, 1) := by decide +kernel
theorem dL_act_51 : decode cL_act 51 = .ok (.bipush 6, 2) := by decide +kernel
theorem dL_act_53 : decode cL_act 53 = .ok (.invokestatic 55, 3) := by decide +kernel
theorem dL_act_56 : decode cL_act 56 = .ok (.iconst 1, 1) := by decide +kernel
theorem dL_act_57 : decode cL_act 57 = .ok (.isub, 1) := by decide +kernel
theorem dL_act_58 : decode cL_act 58 = .ok (.goto 11, 3) := by decide +kernel
theorem dL_act_61 : decode cL_act 61 = .ok (.iload_n 1, 1) := by decide +kernel
theorem dL_act_62 : decode cL_act 62 = .ok (.bipush 7, 2) := by decide +kernel
theorem dL_act_64 : decode cL_act 64 = .ok (.ishr, 1) := by decide +kernel
theorem dL_act_65 : decode cL_act 65 = .ok (.iconst 2, 1) := by decide +kernel
theorem dL_act_66 : decode cL_act 66 = .ok (.invokestatic 55, 3) := by decide +kernel
theorem dL_act_69 : decode cL_act 69 = .ok (.istore 4, 2) := by decide +kernel
theorem dL_act_71 : decode cL_act 71 = .ok (.iload_n 2, 1) := by decide +kernel
theorem dL_act_72 : decode cL_act 72 = .ok (.ifCond .eq 17, 3) := by decide +kernel
theorem dL_act_75 : decode cL_act 75 = .ok (.iload_n 1, 1) := by decide +kernel
theorem dL_act_76 : decode cL_act 76 = .ok (.bipush 7, 2) := by decide +kernel
theorem dL_act_78 : decode cL_act 78 = .ok (.ishr, 1) := by decide +kernel
theorem dL_act_79 : decode cL_act 79 = .ok (.bipush 8, 2) := by decide +kernel
theorem dL_act_81 : decode cL_act 81 = .ok (.invokestatic 55, 3) := by decide +kernel
theorem dL_act_84 : decode cL_act 84 = .ok (.iconst 1, 1) := by decide +kernel
theorem dL_act_85 : decode cL_act 85 = .ok (.isub, 1) := by decide +kernel
theorem dL_act_86 : decode cL_act 86 = .ok (.goto 11, 3) := by decide +kernel
theorem dL_act_89 : decode cL_act 89 = .ok (.iload_n 1, 1) := by decide +kernel
theorem dL_act_90 : decode cL_act 90 = .ok (.bipush 7, 2) := by decide +kernel
theorem dL_act_92 : decode cL_act 92 = .ok (.ishr, 1) := by decide +kernel
theorem dL_act_93 : decode cL_act 93 = .ok (.iconst 3, 1) := by decide +kernel
theorem dL_act_94 : decode cL_act 94 = .ok (.invokestatic 55, 3) := by decide +kernel
theorem dL_act_97 : decode cL_act 97 = .ok (.istore 5, 2) := by decide +kernel
theorem dL_act_99 : decode cL_act 99 = .ok (.iload_n 2, 1) := by decide +kernel
theorem dL_act_100 : decode cL_act 100 = .ok (.ifCond .eq 16, 3) := by decide +kernel
theorem dL_act_103 : decode cL_act 103 = .ok (.iload_n 1, 1) := by decide +kernel
theorem dL_act_104 : decode cL_act 104 = .ok (.iconst 4, 1) := by decide +kernel
theorem dL_act_105 : decode cL_act 105 = .ok (.ishr, 1) := by decide +kernel
theorem dL_act_106 : decode cL_act 106 = .ok (.bipush 82, 2) := by decide +kernel
theorem dL_act_108 : decode cL_act 108 = .ok (.invokestatic 55, 3) := by decide +kernel
theorem dL_act_111 : decode cL_act 111 = .ok (.iconst 1, 1) := by decide +kernel
theorem dL_act_112 : decode cL_act 112 = .ok (.isub, 1) := by decide +kernel
theorem dL_act_113 : decode cL_act 113 = .ok (.goto 43, 3) := by decide +kernel
theorem dL_act_116 : decode cL_act 116 = .ok (.aload_n 0, 1) := by decide +kernel
theorem dL_act_117 : decode cL_act 117 = .ok (.invokevirtual 60, 3) := by decide +kernel
theorem dL_act_120 : decode cL_act 120 = .ok (.ifCond .ne 7, 3) := by decide +kernel
theorem dL_act_123 : decode cL_act 123 = .ok (.iconst 0, 1) := by decide +kernel
theorem dL_act_124 : decode cL_act 124 = .ok (.goto 32, 3) := by decide +kernel
theorem dL_act_127 : decode cL_act 127 = .ok (.aload_n 0, 1) := by decide +kernel
theorem dL_act_128 : decode cL_act 128 = .ok (.invokevirtual 60, 3) := by decide +kernel
theorem dL_act_131 : decode cL_act 131 = .ok (.iconst 1, 1) := by decide +kernel
theorem dL_act_132 : decode cL_act 132 = .ok (.isub, 1) := by decide +kernel
theorem dL_act_133 : decode cL_act 133 = .ok (.iload_n 1, 1) := by decide +kernel
theorem dL_act_134 : decode cL_act 134 = .ok (.iconst 4, 1) := by decide +kernel
theorem dL_act_135 : decode cL_act 135 = .ok (.ishr, 1) := by decide +kernel
theorem dL_act_136 : decode cL_act 136 = .ok (.aload_n 0, 1) := by decide +kernel
theorem dL_act_137 : decode cL_act 137 = .ok (.invokevirtual 60, 3) := by decide +kernel
theorem dL_act_140 : decode cL_act 140 = .ok (.iconst 5, 1) := by decide +kernel
theorem dL_act_141 : decode cL_act 141 = .ok (.if_icmp .ge 10, 3) := by decide +kernel
theorem dL_act_144 : decode cL_act 144 = .ok (.aload_n 0, 1) := by decide +kernel
theorem dL_act_145 : decode cL_act 145 = .ok (.invokevirtual 60, 3) := by decide +kernel
theorem dL_act_148 : decode cL_act 148 = .ok (.goto 4, 3) := by decide +kernel
theorem dL_act_151 : decode cL_act 151 = .ok (.iconst 5, 1) := by decide +kernel
theorem dL_act_152 : decode cL_act 152 = .ok (.invokestatic 55, 3) := by decide +kernel
theorem dL_act_155 : decode cL_act 155 = .ok (.isub, 1) := by decide +kernel
theorem dL_act_156 : decode cL_act 156 = .ok (.istore 6, 2) := by decide +kernel
theorem dL_act_158 : decode cL_act 158 = .ok (.iload_n 1, 1) := by decide +kernel
theorem dL_act_159 : decode cL_act 159 = .ok (.bipush 20, 2) := by decide +kernel
theorem dL_act_161 : decode cL_act 161 = .ok (.invokestatic 55, 3) := by decide +kernel
theorem dL_act_164 : decode cL_act 164 = .ok (.tableswitch 371 0 11 #[64, 142, 203, 210, 266, 266, 302, 302, 302, 334, 341, 341], 64) := by decide +kernel
theorem dL_act_228 : decode cL_act 228 = .ok (.aload_n 0, 1) := by decide +kernel
theorem dL_act_229 : decode cL_act 229 = .ok (.iload 4, 2) := by decide +kernel
theorem dL_act_231 : decode cL_act 231 = .ok (.iload_n 2, 1) := by decide +kernel
theorem dL_act_232 : decode cL_act 232 = .ok (.ifCond .eq 15, 3) := by decide +kernel
theorem dL_act_235 : decode cL_act 235 = .ok (.iload_n 1, 1) := by decide +kernel
theorem dL_act_236 : decode cL_act 236 = .ok (.bipush 9, 2) := by decide +kernel
theorem dL_act_238 : decode cL_act 238 = .ok (.ishr, 1) := by decide +kernel
theorem dL_act_239 : decode cL_act 239 = .ok (.bipush 103, 2) := by decide +kernel
theorem dL_act_241 : decode cL_act 241 = .ok (.invokestatic 55, 3) := by decide +kernel
theorem dL_act_244 : decode cL_act 244 = .ok (.goto 14, 3) := by decide +kernel
theorem dL_act_247 : decode cL_act 247 = .ok (.iconst 1, 1) := by decide +kernel
theorem dL_act_248 : decode cL_act 248 = .ok (.iload_n 1, 1) := by decide +kernel
theorem dL_act_249 : decode cL_act 249 = .ok (.bipush 9, 2) := by decide +kernel
theorem dL_act_251 : decode cL_act 251 = .ok (.ishr, 1) := by decide +kernel
theorem dL_act_252 : decode cL_act 252 = .ok (.bipush 20, 2) := by decide +kernel
theorem dL_act_254 : decode cL_act 254 = .ok (.invokestatic 55, 3) := by decide +kernel
theorem dL_act_257 : decode cL_act 257 = .ok (.iadd, 1) := by decide +kernel
theorem dL_act_258 : decode cL_act 258 = .ok (.iload_n 2, 1) := by decide +kernel
theorem dL_act_259 : decode cL_act 259 = .ok (.ifCond .eq 17, 3) := by decide +kernel
theorem dL_act_262 : decode cL_act 262 = .ok (.iload_n 1, 1) := by decide +kernel
theorem dL_act_263 : decode cL_act 263 = .ok (.bipush 13, 2) := by decide +kernel
theorem dL_act_265 : decode cL_act 265 = .ok (.ishr, 1) := by decide +kernel
theorem dL_act_266 : decode cL_act 266 = .ok (.bipush 103, 2) := by decide +kernel
theorem dL_act_268 : decode cL_act 268 = .ok (.invokestatic 55, 3) := by decide +kernel
theorem dL_act_271 : decode cL_act 271 = .ok (.iconst 1, 1) := by decide +kernel
theorem dL_act_272 : decode cL_act 272 = .ok (.isub, 1) := by decide +kernel
theorem dL_act_273 : decode cL_act 273 = .ok (.goto 13, 3) := by decide +kernel
theorem dL_act_276 : decode cL_act 276 = .ok (.iconst 2, 1) := by decide +kernel
theorem dL_act_277 : decode cL_act 277 = .ok (.iload_n 1, 1) := by decide +kernel
theorem dL_act_278 : decode cL_act 278 = .ok (.bipush 13, 2) := by decide +kernel
theorem dL_act_280 : decode cL_act 280 = .ok (.ishr, 1) := by decide +kernel
theorem dL_act_281 : decode cL_act 281 = .ok (.iconst 3, 1) := by decide +kernel
theorem dL_act_282 : decode cL_act 282 = .ok (.invokestatic 55, 3) := by decide +kernel
theorem dL_act_285 : decode cL_act 285 = .ok (.iadd, 1) := by decide +kernel
theorem dL_act_286 : decode cL_act 286 = .ok (.iload_n 1, 1) := by decide +kernel
theorem dL_act_287 : decode cL_act 287 = .ok (.bipush 16, 2) := by decide +kernel
theorem dL_act_289 : decode cL_act 289 = .ok (.ishr, 1) := by decide +kernel
theorem dL_act_290 : decode cL_act 290 = .ok (.iload_n 2, 1) := by decide +kernel
theorem dL_act_291 : decode cL_act 291 = .ok (.ifCond .eq 7, 3) := by decide +kernel
theorem dL_act_294 : decode cL_act 294 = .ok (.iconst 5, 1) := by decide +kernel
theorem dL_act_295 : decode cL_act 295 = .ok (.goto 4, 3) := by decide +kernel
theorem dL_act_298 : decode cL_act 298 = .ok (.iconst 3, 1) := by decide +kernel
theorem dL_act_299 : decode cL_act 299 = .ok (.invokestatic 55, 3) := by decide +kernel
theorem dL_act_302 : decode cL_act 302 = .ok (.invokestatic 64, 3) := by decide +kernel
theorem dL_act_305 : decode cL_act 305 = .ok (.ireturn, 1) := by decide +kernel
theorem dL_act_306 : decode cL_act 306 = .ok (.aload_n 0, 1) := by decide +kernel
theorem dL_act_307 : decode cL_act 307 = .ok (.iload 5, 2) := by decide +kernel
theorem dL_act_309 : decode cL_act 309 = .ok (.iload_n 2, 1) := by decide +kernel
theorem dL_act_310 : decode cL_act 310 = .ok (.ifCond .eq 18, 3) := by decide +kernel
theorem dL_act_313 : decode cL_act 313 = .ok (.iload_n 1, 1) := by decide +kernel
theorem dL_act_314 : decode cL_act 314 = .ok (.bipush 9, 2) := by decide +kernel
theorem dL_act_316 : decode cL_act 316 = .ok (.ishr, 1) := by decide +kernel
theorem dL_act_317 : decode cL_act 317 = .ok (.sipush 1005, 3) := by decide +kernel
theorem dL_act_320 : decode cL_act 320 = .ok (.invokestatic 55, 3) := by decide +kernel
theorem dL_act_323 : decode cL_act 323 = .ok (.iconst 2, 1) := by decide +kernel
theorem dL_act_324 : decode cL_act 324 = .ok (.isub, 1) := by decide +kernel
theorem dL_act_325 : decode cL_act 325 = .ok (.goto 12, 3) := by decide +kernel
theorem dL_act_328 : decode cL_act 328 = .ok (.iload_n 1, 1) := by decide +kernel
theorem dL_act_329 : decode cL_act 329 = .ok (.bipush 9, 2) := by decide +kernel
theorem dL_act_331 : decode cL_act 331 = .ok (.ishr, 1) := by decide +kernel
theorem dL_act_332 : decode cL_act 332 = .ok (.bipush 60, 2) := by decide +kernel
theorem dL_act_334 : decode cL_act 334 = .ok (.invokestatic 55, 3) := by decide +kernel
theorem dL_act_337 : decode cL_act 337 = .ok (.iload_n 2, 1) := by decide +kernel
theorem dL_act_338 : decode cL_act 338 = .ok (.ifCond .eq 15, 3) := by decide +kernel
theorem dL_act_341 : decode cL_act 341 = .ok (.iload_n 1, 1) := by decide +kernel
theorem dL_act_342 : decode cL_act 342 = .ok (.bipush 14, 2) := by decide +kernel
theorem dL_act_344 : decode cL_act 344 = .ok (.ishr, 1) := by decide +kernel
theorem dL_act_345 : decode cL_act 345 = .ok (.bipush 23, 2) := by decide +kernel
theorem dL_act_347 : decode cL_act 347 = .ok (.invokestatic 55, 3) := by decide +kernel
theorem dL_act_350 : decode cL_act 350 = .ok (.goto 13, 3) := by decide +kernel
theorem dL_act_353 : decode cL_act 353 = .ok (.iconst 1, 1) := by decide +kernel
theorem dL_act_354 : decode cL_act 354 = .ok (.iload_n 1, 1) := by decide +kernel
theorem dL_act_355 : decode cL_act 355 = .ok (.bipush 14, 2) := by decide +kernel
theorem dL_act_357 : decode cL_act 357 = .ok (.ishr, 1) := by decide +kernel
theorem dL_act_358 : decode cL_act 358 = .ok (.iconst 4, 1) := by decide +kernel
theorem dL_act_359 : decode cL_act 359 = .ok (.invokestatic 55, 3) := by decide +kernel
theorem dL_act_362 : decode cL_act 362 = .ok (.iadd, 1) := by decide +kernel
theorem dL_act_363 : decode cL_act 363 = .ok (.invokestatic 67, 3) := by decide +kernel
theorem dL_act_366 : decode cL_act 366 = .ok (.ireturn, 1) := by decide +kernel
theorem dL_act_367 : decode cL_act 367 = .ok (.aload_n 0, 1) := by decide +kernel
theorem dL_act_368 : decode cL_act 368 = .ok (.iload 4, 2) := by decide +kernel
theorem dL_act_370 : decode cL_act 370 = .ok (.invokestatic 70, 3) := by decide +kernel
theorem dL_act_373 : decode cL_act 373 = .ok (.ireturn, 1) := by decide +kernel
theorem dL_act_374 : decode cL_act 374 = .ok (.iload_n 1, 1) := by decide +kernel
theorem dL_act_375 : decode cL_act 375 = .ok (.bipush 10, 2) := by decide +kernel
theorem dL_act_377 : decode cL_act 377 = .ok (.ishr, 1) := by decide +kernel
theorem dL_act_378 : decode cL_act 378 = .ok (.iconst 2, 1) := by decide +kernel
theorem dL_act_379 : decode cL_act 379 = .ok (.invokestatic 55, 3) := by decide +kernel
theorem dL_act_382 : decode cL_act 382 = .ok (.ifCond .ne 13, 3) := by decide +kernel
theorem dL_act_385 : decode cL_act 385 = .ok (.aload_n 0, 1) := by decide +kernel
theorem dL_act_386 : decode cL_act 386 = .ok (.iload_n 3, 1) := by decide +kernel
theorem dL_act_387 : decode cL_act 387 = .ok (.iload 4, 2) := by decide +kernel
theorem dL_act_389 : decode cL_act 389 = .ok (.invokestatic 73, 3) := by decide +kernel
theorem dL_act_392 : decode cL_act 392 = .ok (.goto 37, 3) := by decide +kernel
theorem dL_act_395 : decode cL_act 395 = .ok (.aload_n 0, 1) := by decide +kernel
theorem dL_act_396 : decode cL_act 396 = .ok (.iload_n 3, 1) := by decide +kernel
theorem dL_act_397 : decode cL_act 397 = .ok (.iload_n 2, 1) := by decide +kernel
theorem dL_act_398 : decode cL_act 398 = .ok (.ifCond .eq 18, 3) := by decide +kernel
theorem dL_act_401 : decode cL_act 401 = .ok (.iload_n 1, 1) := by decide +kernel
theorem dL_act_402 : decode cL_act 402 = .ok (.bipush 7, 2) := by decide +kernel
theorem dL_act_404 : decode cL_act 404 = .ok (.ishr, 1) := by decide +kernel
theorem dL_act_405 : decode cL_act 405 = .ok (.sipush 10005, 3) := by decide +kernel
theorem dL_act_408 : decode cL_act 408 = .ok (.invokestatic 55, 3) := by decide +kernel
theorem dL_act_411 : decode cL_act 411 = .ok (.iconst 2, 1) := by decide +kernel
theorem dL_act_412 : decode cL_act 412 = .ok (.isub, 1) := by decide +kernel
theorem dL_act_413 : decode cL_act 413 = .ok (.goto 13, 3) := by decide +kernel
theorem dL_act_416 : decode cL_act 416 = .ok (.iload_n 1, 1) := by decide +kernel
theorem dL_act_417 : decode cL_act 417 = .ok (.bipush 7, 2) := by decide +kernel
theorem dL_act_419 : decode cL_act 419 = .ok (.ishr, 1) := by decide +kernel
theorem dL_act_420 : decode cL_act 420 = .ok (.sipush 300, 3) := by decide +kernel
theorem dL_act_423 : decode cL_act 423 = .ok (.invokestatic 55, 3) := by decide +kernel
theorem dL_act_426 : decode cL_act 426 = .ok (.invokestatic 76, 3) := by decide +kernel
theorem dL_act_429 : decode cL_act 429 = .ok (.ireturn, 1) := by decide +kernel
theorem dL_act_430 : decode cL_act 430 = .ok (.aload_n 0, 1) := by decide +kernel
theorem dL_act_431 : decode cL_act 431 = .ok (.iload_n 3, 1) := by decide +kernel
theorem dL_act_432 : decode cL_act 432 = .ok (.iload_n 2, 1) := by decide +kernel
theorem dL_act_433 : decode cL_act 433 = .ok (.ifCond .eq 17, 3) := by decide +kernel
theorem dL_act_436 : decode cL_act 436 = .ok (.iload_n 1, 1) := by decide +kernel
theorem dL_act_437 : decode cL_act 437 = .ok (.bipush 7, 2) := by decide +kernel
theorem dL_act_439 : decode cL_act 439 = .ok (.ishr, 1) := by decide +kernel
theorem dL_act_440 : decode cL_act 440 = .ok (.ldc 78, 2) := by decide +kernel
theorem dL_act_442 : decode cL_act 442 = .ok (.invokestatic 55, 3) := by decide +kernel
theorem dL_act_445 : decode cL_act 445 = .ok (.iconst 1, 1) := by decide +kernel
theorem dL_act_446 : decode cL_act 446 = .ok (.isub, 1) := by decide +kernel
theorem dL_act_447 : decode cL_act 447 = .ok (.goto 15, 3) := by decide +kernel
theorem dL_act_450 : decode cL_act 450 = .ok (.iconst 1, 1) := by decide +kernel
theorem dL_act_451 : decode cL_act 451 = .ok (.iload_n 1, 1) := by decide +kernel
theorem dL_act_452 : decode cL_act 452 = .ok (.bipush 7, 2) := by decide +kernel
theorem dL_act_454 : decode cL_act 454 = .ok (.ishr, 1) := by decide +kernel
theorem dL_act_455 : decode cL_act 455 = .ok (.sipush 400, 3) := by decide +kernel
theorem dL_act_458 : decode cL_act 458 = .ok (.invokestatic 55, 3) := by decide +kernel
theorem dL_act_461 : decode cL_act 461 = .ok (.iadd, 1) := by decide +kernel
theorem dL_act_462 : decode cL_act 462 = .ok (.invokestatic 79, 3) := by decide +kernel
theorem dL_act_465 : decode cL_act 465 = .ok (.ireturn, 1) := by decide +kernel
theorem dL_act_466 : decode cL_act 466 = .ok (.aload_n 0, 1) := by decide +kernel
theorem dL_act_467 : decode cL_act 467 = .ok (.iload 6, 2) := by decide +kernel
theorem dL_act_469 : decode cL_act 469 = .ok (.iload_n 2, 1) := by decide +kernel
theorem dL_act_470 : decode cL_act 470 = .ok (.ifCond .eq 16, 3) := by decide +kernel
theorem dL_act_473 : decode cL_act 473 = .ok (.iload_n 1, 1) := by decide +kernel
theorem dL_act_474 : decode cL_act 474 = .ok (.bipush 10, 2) := by decide +kernel
theorem dL_act_476 : decode cL_act 476 = .ok (.ishr, 1) := by decide +kernel
theorem dL_act_477 : decode cL_act 477 = .ok (.iconst 5, 1) := by decide +kernel
theorem dL_act_478 : decode cL_act 478 = .ok (.invokestatic 55, 3) := by decide +kernel
theorem dL_act_481 : decode cL_act 481 = .ok (.iconst 1, 1) := by decide +kernel
theorem dL_act_482 : decode cL_act 482 = .ok (.isub, 1) := by decide +kernel
theorem dL_act_483 : decode cL_act 483 = .ok (.goto 11, 3) := by decide +kernel
theorem dL_act_486 : decode cL_act 486 = .ok (.iload_n 1, 1) := by decide +kernel
theorem dL_act_487 : decode cL_act 487 = .ok (.bipush 10, 2) := by decide +kernel
theorem dL_act_489 : decode cL_act 489 = .ok (.ishr, 1) := by decide +kernel
theorem dL_act_490 : decode cL_act 490 = .ok (.iconst 3, 1) := by decide +kernel
theorem dL_act_491 : decode cL_act 491 = .ok (.invokestatic 55, 3) := by decide +kernel
theorem dL_act_494 : decode cL_act 494 = .ok (.invokestatic 81, 3) := by decide +kernel
theorem dL_act_497 : decode cL_act 497 = .ok (.ireturn, 1) := by decide +kernel
theorem dL_act_498 : decode cL_act 498 = .ok (.aload_n 0, 1) := by decide +kernel
theorem dL_act_499 : decode cL_act 499 = .ok (.iload 6, 2) := by decide +kernel
theorem dL_act_501 : decode cL_act 501 = .ok (.invokestatic 83, 3) := by decide +kernel
theorem dL_act_504 : decode cL_act 504 = .ok (.ireturn, 1) := by decide +kernel
theorem dL_act_505 : decode cL_act 505 = .ok (.aload_n 0, 1) := by decide +kernel
theorem dL_act_506 : decode cL_act 506 = .ok (.iload_n 2, 1) := by decide +kernel
theorem dL_act_507 : decode cL_act 507 = .ok (.ifCond .eq 14, 3) := by decide +kernel
theorem dL_act_510 : decode cL_act 510 = .ok (.iload_n 1, 1) := by decide +kernel
theorem dL_act_511 : decode cL_act 511 = .ok (.iconst 4, 1) := by decide +kernel
theorem dL_act_512 : decode cL_act 512 = .ok (.ishr, 1) := by decide +kernel
theorem dL_act_513 : decode cL_act 513 = .ok (.bipush 103, 2) := by decide +kernel
theorem dL_act_515 : decode cL_act 515 = .ok (.invokestatic 55, 3) := by decide +kernel
theorem dL_act_518 : decode cL_act 518 = .ok (.goto 13, 3) := by decide +kernel
theorem dL_act_521 : decode cL_act 521 = .ok (.iconst 1, 1) := by decide +kernel
theorem dL_act_522 : decode cL_act 522 = .ok (.iload_n 1, 1) := by decide +kernel
theorem dL_act_523 : decode cL_act 523 = .ok (.iconst 4, 1) := by decide +kernel
theorem dL_act_524 : decode cL_act 524 = .ok (.ishr, 1) := by decide +kernel
theorem dL_act_525 : decode cL_act 525 = .ok (.bipush 9, 2) := by decide +kernel
theorem dL_act_527 : decode cL_act 527 = .ok (.invokestatic 55, 3) := by decide +kernel
theorem dL_act_530 : decode cL_act 530 = .ok (.iadd, 1) := by decide +kernel
theorem dL_act_531 : decode cL_act 531 = .ok (.invokestatic 85, 3) := by decide +kernel
theorem dL_act_534 : decode cL_act 534 = .ok (.ireturn, 1) := by decide +kernel
theorem dL_act_535 : decode cL_act 535 = .ok (.aload_n 0, 1) := by decide +kernel
theorem dL_act_536 : decode cL_act 536 = .ok (.iload_n 3, 1) := by decide +kernel
theorem dL_act_537 : decode cL_act 537 = .ok (.iload 5, 2) := by decide +kernel
theorem dL_act_539 : decode cL_act 539 = .ok (.iload_n 2, 1) := by decide +kernel
theorem dL_act_540 : decode cL_act 540 = .ok (.ifCond .eq 15, 3) := by decide +kernel
theorem dL_act_543 : decode cL_act 543 = .ok (.iload_n 1, 1) := by decide +kernel
theorem dL_act_544 : decode cL_act 544 = .ok (.bipush 10, 2) := by decide +kernel
theorem dL_act_546 : decode cL_act 546 = .ok (.ishr, 1) := by decide +kernel
theorem dL_act_547 : decode cL_act 547 = .ok (.bipush 11, 2) := by decide +kernel
theorem dL_act_549 : decode cL_act 549 = .ok (.invokestatic 55, 3) := by decide +kernel
theorem dL_act_552 : decode cL_act 552 = .ok (.goto 14, 3) := by decide +kernel
theorem dL_act_555 : decode cL_act 555 = .ok (.iconst 1, 1) := by decide +kernel
theorem dL_act_556 : decode cL_act 556 = .ok (.iload_n 1, 1) := by decide +kernel
theorem dL_act_557 : decode cL_act 557 = .ok (.bipush 10, 2) := by decide +kernel
theorem dL_act_559 : decode cL_act 559 = .ok (.ishr, 1) := by decide +kernel
theorem dL_act_560 : decode cL_act 560 = .ok (.bipush 9, 2) := by decide +kernel
theorem dL_act_562 : decode cL_act 562 = .ok (.invokestatic 55, 3) := by decide +kernel
theorem dL_act_565 : decode cL_act 565 = .ok (.iadd, 1) := by decide +kernel
theorem dL_act_566 : decode cL_act 566 = .ok (.invokestatic 87, 3) := by decide +kernel
theorem dL_act_569 : decode cL_act 569 = .ok (.ireturn, 1) := by decide +kernel
set_option maxRecDepth 20000 in
theorem ggL_areAlike_X4_now : GoodIn wsL_areAlike wsX4_now := goodIn_r _ [5, 6, 78, 79, 80, 81, 82, 83] (by decide +kernel) (by decide +kernel)
set_option maxRecDepth 20000 in
theorem gL_areAlike_X4_now : GoodIn wsL_areAlike (wsV RL 89 RX4 yX4_now wsX4_now) := goodIn_app (goodIn_of _ (by decide +kernel)) ggL_areAlike_X4_now
set_option maxRecDepth 20000 in
theorem ggL_areAlike_X4_calls : GoodIn wsL_areAlike wsX4_calls := goodIn_r _ [10, 11, 12, 13, 14, 15, 16, 17, 78, 79, 80, 81, 82, 83, 84, 85, 86] (by decide +kernel) (by decide +kernel)
set_option maxRecDepth 20000 in
theorem gL_areAlike_X4_calls : GoodIn wsL_areAlike (wsV RL 60 RX4 yX4_calls wsX4_calls) := goodIn_app (goodIn_of _ (by decide +kernel)) ggL_areAlike_X4_calls
set_option maxRecDepth 20000 in
theorem ggL_areAlike_L_credit : GoodIn wsL_areAlike wsL_credit := goodIn_ca (goodIn_r _ [21, 22, 23, 24, 25, 4, 26, 27, 28, 29, 30, 31, 32, 33, 34, 12, 13, 14, 15, 16, 17, 35, 36, 37, 38, 39, 40, 41, 42, 43, 44, 45, 46, 47, 48, 49, 50, 51, 87, 88, 89, 90, 91, 92, 93, 94, 95, 78, 79, 80, 81, 82, 83, 84, 85, 86] (by decide +kernel) (by decide +kernel)) (goodIn_sub (fun _ h => List.mem_cons_of_mem _ (List.mem_append_right _ h)) (by decide +kernel))
set_option maxRecDepth 20000 in
theorem gL_areAlike_L_credit : GoodIn wsL_areAlike (va_wsS RL 92 yL_credit wsL_credit) := goodIn_app (goodIn_of _ (by decide +kernel)) ggL_areAlike_L_credit
set_option maxRecDepth 20000 in
theorem ggL_areAlike_X4_credit : GoodIn wsL_areAlike wsX4_credit := goodIn_ca (goodIn_r _ [26, 27, 28, 29, 4, 30, 31, 32, 33, 34, 12, 13, 14, 15, 16, 17, 35, 36, 37, 38, 39, 40, 41, 42, 43, 44, 45, 46, 47, 48, 49, 50, 51, 87, 88, 89, 90, 91, 92, 93, 94, 95, 78, 79, 80, 81, 82, 83, 84, 85, 86] (by decide +kernel) (by decide +kernel)) (goodIn_sub (fun _ h => List.mem_cons_of_mem _ (List.mem_append_right _ h)) (by decide +kernel))
set_option maxRecDepth 20000 in
theorem gL_areAlike_X4_credit : GoodIn wsL_areAlike (wsV RL 52 RX4 yX4_credit wsX4_credit) := goodIn_app (goodIn_of _ (by decide +kernel)) ggL_areAlike_X4_credit
set_option maxRecDepth 20000 in
theorem ggL_areAlike_X4_debt : GoodIn wsL_areAlike wsX4_debt := goodIn_ca (goodIn_r _ [55, 27, 28, 29, 4, 30, 31, 32, 33, 34, 12, 13, 14, 15, 16, 17, 35, 36, 37, 38, 39, 40, 41, 42, 43, 44, 45, 46, 47, 48, 49, 50, 51, 87, 88, 89, 90, 91, 92, 93, 94, 95, 78, 79, 80, 81, 82, 83, 84, 85, 86] (by decide +kernel) (by decide +kernel)) (goodIn_sub (fun _ h => List.mem_cons_of_mem _ (List.mem_append_right _ h)) (by decide +kernel))
set_option maxRecDepth 20000 in
theorem gL_areAlike_X4_debt : GoodIn wsL_areAlike (wsV RL 94 RX4 yX4_debt wsX4_debt) := goodIn_app (goodIn_of _ (by decide +kernel)) ggL_areAlike_X4_debt
set_option maxRecDepth 20000 in
theorem ggL_areAlike_X4_held : GoodIn wsL_areAlike wsX4_held := goodIn_ca (goodIn_r _ [59, 27, 28, 29, 4, 30, 31, 32, 33, 34, 12, 13, 14, 15, 16, 17, 35, 36, 37, 38, 39, 40, 41, 42, 43, 44, 45, 46, 47, 48, 49, 50, 51, 87, 88, 89, 90, 91, 92, 93, 94, 95, 78, 79, 80, 81, 82, 83, 84, 85, 86] (by decide +kernel) (by decide +kernel)) (goodIn_sub (fun _ h => List.mem_cons_of_mem _ (List.mem_append_right _ h)) (by decide +kernel))
set_option maxRecDepth 20000 in
theorem gL_areAlike_X4_held : GoodIn wsL_areAlike (wsV RL 97 RX4 yX4_held wsX4_held) := goodIn_app (goodIn_of _ (by decide +kernel)) ggL_areAlike_X4_held
set_option maxRecDepth 20000 in
theorem ggL_areAlike_X4_tokens : GoodIn wsL_areAlike wsX4_tokens := goodIn_ca (goodIn_r _ [63, 27, 28, 29, 4, 30, 31, 32, 33, 34, 12, 13, 14, 15, 16, 17, 35, 36, 37, 38, 39, 40, 41, 42, 43, 44, 45, 46, 47, 48, 49, 50, 51, 87, 88, 89, 90, 91, 92, 93, 94, 95, 78, 79, 80, 81, 82, 83, 84, 85, 86] (by decide +kernel) (by decide +kernel)) (goodIn_sub (fun _ h => List.mem_cons_of_mem _ (List.mem_append_right _ h)) (by decide +kernel))
set_option maxRecDepth 20000 in
theorem gL_areAlike_X4_tokens : GoodIn wsL_areAlike (wsV RL 100 RX4 yX4_tokens wsX4_tokens) := goodIn_app (goodIn_of _ (by decide +kernel)) ggL_areAlike_X4_tokens
set_option maxRecDepth 20000 in
theorem ggL_areAlike_X4_spent : GoodIn wsL_areAlike wsX4_spent := goodIn_ca (goodIn_r _ [67, 27, 28, 29, 4, 30, 31, 32, 33, 34, 12, 13, 14, 15, 16, 17, 35, 36, 37, 38, 39, 40, 41, 42, 43, 44, 45, 46, 47, 48, 49, 50, 51, 87, 88, 89, 90, 91, 92, 93, 94, 95, 78, 79, 80, 81, 82, 83, 84, 85, 86] (by decide +kernel) (by decide +kernel)) (goodIn_sub (fun _ h => List.mem_cons_of_mem _ (List.mem_append_right _ h)) (by decide +kernel))
set_option maxRecDepth 20000 in
theorem gL_areAlike_X4_spent : GoodIn wsL_areAlike (wsV RL 103 RX4 yX4_spent wsX4_spent) := goodIn_app (goodIn_of _ (by decide +kernel)) ggL_areAlike_X4_spent
set_option maxRecDepth 20000 in
theorem ggL_areAlike_X4_isSlowed : GoodIn wsL_areAlike wsX4_isSlowed := goodIn_ca (goodIn_r _ [71, 27, 28, 29, 4, 30, 31, 32, 33, 34, 12, 13, 14, 15, 16, 17, 35, 36, 37, 38, 39, 40, 41, 42, 43, 44, 45, 46, 47, 48, 49, 50, 51, 72, 73, 74, 75, 76, 77, 78, 79, 80, 81, 82, 83, 84, 85, 86, 87, 88, 89, 90, 91, 92, 93, 94, 95] (by decide +kernel) (by decide +kernel)) (goodIn_sub (fun _ h => List.mem_cons_of_mem _ (List.mem_append_right _ h)) (by decide +kernel))
set_option maxRecDepth 20000 in
theorem gL_areAlike_X4_isSlowed : GoodIn wsL_areAlike (wsV RL 106 RX4 yX4_isSlowed wsX4_isSlowed) := goodIn_app (goodIn_of _ (by decide +kernel)) ggL_areAlike_X4_isSlowed
theorem dL_areAlike_0 : decode cL_areAlike 0 = .ok (.aload_n 0, 1) := by decide +kernel
theorem dL_areAlike_1 : decode cL_areAlike 1 = .ok (.invokevirtual 89, 3) := by decide +kernel
theorem dL_areAlike_4 : decode cL_areAlike 4 = .ok (.aload_n 1, 1) := by decide +kernel
theorem dL_areAlike_5 : decode cL_areAlike 5 = .ok (.invokevirtual 89, 3) := by decide +kernel
theorem dL_areAlike_8 : decode cL_areAlike 8 = .ok (.if_icmp .ne 18, 3) := by decide +kernel
theorem dL_areAlike_11 : decode cL_areAlike 11 = .ok (.aload_n 0, 1) := by decide +kernel
theorem dL_areAlike_12 : decode cL_areAlike 12 = .ok (.invokevirtual 60, 3) := by decide +kernel
theorem dL_areAlike_15 : decode cL_areAlike 15 = .ok (.aload_n 1, 1) := by decide +kernel
theorem dL_areAlike_16 : decode cL_areAlike 16 = .ok (.invokevirtual 60, 3) := by decide +kernel
theorem dL_areAlike_19 : decode cL_areAlike 19 = .ok (.if_icmp .ne 7, 3) := by decide +kernel
theorem dL_areAlike_22 : decode cL_areAlike 22 = .ok (.iconst 1, 1) := by decide +kernel
theorem dL_areAlike_23 : decode cL_areAlike 23 = .ok (.goto 4, 3) := by decide +kernel
theorem dL_areAlike_26 : decode cL_areAlike 26 = .ok (.iconst 0, 1) := by decide +kernel
theorem dL_areAlike_27 : decode cL_areAlike 27 = .ok (.istore_n 2, 1) := by decide +kernel
theorem dL_areAlike_28 : decode cL_areAlike 28 = .ok (.iconst 0, 1) := by decide +kernel
theorem dL_areAlike_29 : decode cL_areAlike 29 = .ok (.istore_n 3, 1) := by decide +kernel
theorem dL_areAlike_30 : decode cL_areAlike 30 = .ok (.iload_n 3, 1) := by decide +kernel
theorem dL_areAlike_31 : decode cL_areAlike 31 = .ok (.bipush 8, 2) := by decide +kernel
theorem dL_areAlike_33 : decode cL_areAlike 33 = .ok (.if_icmp .ge 105, 3) := by decide +kernel
theorem dL_areAlike_36 : decode cL_areAlike 36 = .ok (.aload_n 0, 1) := by decide +kernel
theorem dL_areAlike_37 : decode cL_areAlike 37 = .ok (.iload_n 3, 1) := by decide +kernel
theorem dL_areAlike_38 : decode cL_areAlike 38 = .ok (.invokestatic 92, 3) := by decide +kernel
theorem dL_areAlike_41 : decode cL_areAlike 41 = .ok (.ifCond .lt 97, 3) := by decide +kernel
theorem dL_areAlike_44 : decode cL_areAlike 44 = .ok (.iload_n 2, 1) := by decide +kernel
theorem dL_areAlike_45 : decode cL_areAlike 45 = .ok (.ifCond .eq 93, 3) := by decide +kernel
theorem dL_areAlike_48 : decode cL_areAlike 48 = .ok (.aload_n 1, 1) := by decide +kernel
theorem dL_areAlike_49 : decode cL_areAlike 49 = .ok (.iload_n 3, 1) := by decide +kernel
theorem dL_areAlike_50 : decode cL_areAlike 50 = .ok (.invokestatic 92, 3) := by decide +kernel
theorem dL_areAlike_53 : decode cL_areAlike 53 = .ok (.aload_n 0, 1) := by decide +kernel
theorem dL_areAlike_54 : decode cL_areAlike 54 = .ok (.iload_n 3, 1) := by decide +kernel
theorem dL_areAlike_55 : decode cL_areAlike 55 = .ok (.invokevirtual 52, 3) := by decide +kernel
theorem dL_areAlike_58 : decode cL_areAlike 58 = .ok (.if_icmp .ne 72, 3) := by decide +kernel
theorem dL_areAlike_61 : decode cL_areAlike 61 = .ok (.aload_n 0, 1) := by decide +kernel
theorem dL_areAlike_62 : decode cL_areAlike 62 = .ok (.iload_n 3, 1) := by decide +kernel
theorem dL_areAlike_63 : decode cL_areAlike 63 = .ok (.invokevirtual 94, 3) := by decide +kernel
theorem dL_areAlike_66 : decode cL_areAlike 66 = .ok (.aload_n 1, 1) := by decide +kernel
theorem dL_areAlike_67 : decode cL_areAlike 67 = .ok (.iload_n 3, 1) := by decide +kernel
theorem dL_areAlike_68 : decode cL_areAlike 68 = .ok (.invokevirtual 94, 3) := by decide +kernel
theorem dL_areAlike_71 : decode cL_areAlike 71 = .ok (.if_icmp .ne 59, 3) := by decide +kernel
theorem dL_areAlike_74 : decode cL_areAlike 74 = .ok (.aload_n 0, 1) := by decide +kernel
theorem dL_areAlike_75 : decode cL_areAlike 75 = .ok (.iload_n 3, 1) := by decide +kernel
theorem dL_areAlike_76 : decode cL_areAlike 76 = .ok (.invokevirtual 97, 3) := by decide +kernel
theorem dL_areAlike_79 : decode cL_areAlike 79 = .ok (.aload_n 1, 1) := by decide +kernel
theorem dL_areAlike_80 : decode cL_areAlike 80 = .ok (.iload_n 3, 1) := by decide +kernel
theorem dL_areAlike_81 : decode cL_areAlike 81 = .ok (.invokevirtual 97, 3) := by decide +kernel
theorem dL_areAlike_84 : decode cL_areAlike 84 = .ok (.if_icmp .ne 46, 3) := by decide +kernel
theorem dL_areAlike_87 : decode cL_areAlike 87 = .ok (.aload_n 0, 1) := by decide +kernel
theorem dL_areAlike_88 : decode cL_areAlike 88 = .ok (.iload_n 3, 1) := by decide +kernel
theorem dL_areAlike_89 : decode cL_areAlike 89 = .ok (.invokevirtual 100, 3) := by decide +kernel
theorem dL_areAlike_92 : decode cL_areAlike 92 = .ok (.aload_n 1, 1) := by decide +kernel
theorem dL_areAlike_93 : decode cL_areAlike 93 = .ok (.iload_n 3, 1) := by decide +kernel
theorem dL_areAlike_94 : decode cL_areAlike 94 = .ok (.invokevirtual 100, 3) := by decide +kernel
theorem dL_areAlike_97 : decode cL_areAlike 97 = .ok (.if_icmp .ne 33, 3) := by decide +kernel
theorem dL_areAlike_100 : decode cL_areAlike 100 = .ok (.aload_n 0, 1) := by decide +kernel
theorem dL_areAlike_101 : decode cL_areAlike 101 = .ok (.iload_n 3, 1) := by decide +kernel
theorem dL_areAlike_102 : decode cL_areAlike 102 = .ok (.invokevirtual 103, 3) := by decide +kernel
theorem dL_areAlike_105 : decode cL_areAlike 105 = .ok (.aload_n 1, 1) := by decide +kernel
theorem dL_areAlike_106 : decode cL_areAlike 106 = .ok (.iload_n 3, 1) := by decide +kernel
theorem dL_areAlike_107 : decode cL_areAlike 107 = .ok (.invokevirtual 103, 3) := by decide +kernel
theorem dL_areAlike_110 : decode cL_areAlike 110 = .ok (.if_icmp .ne 20, 3) := by decide +kernel
theorem dL_areAlike_113 : decode cL_areAlike 113 = .ok (.aload_n 0, 1) := by decide +kernel
theorem dL_areAlike_114 : decode cL_areAlike 114 = .ok (.iload_n 3, 1) := by decide +kernel
theorem dL_areAlike_115 : decode cL_areAlike 115 = .ok (.invokevirtual 106, 3) := by decide +kernel
theorem dL_areAlike_118 : decode cL_areAlike 118 = .ok (.aload_n 1, 1) := by decide +kernel
theorem dL_areAlike_119 : decode cL_areAlike 119 = .ok (.iload_n 3, 1) := by decide +kernel
theorem dL_areAlike_120 : decode cL_areAlike 120 = .ok (.invokevirtual 106, 3) := by decide +kernel
theorem dL_areAlike_123 : decode cL_areAlike 123 = .ok (.if_icmp .ne 7, 3) := by decide +kernel
theorem dL_areAlike_126 : decode cL_areAlike 126 = .ok (.iconst 1, 1) := by decide +kernel
theorem dL_areAlike_127 : decode cL_areAlike 127 = .ok (.goto 4, 3) := by decide +kernel
theorem dL_areAlike_130 : decode cL_areAlike 130 = .ok (.iconst 0, 1) := by decide +kernel
theorem dL_areAlike_131 : decode cL_areAlike 131 = .ok (.istore_n 2, 1) := by decide +kernel
theorem dL_areAlike_132 : decode cL_areAlike 132 = .ok (.iinc 3 1, 3) := by decide +kernel
theorem dL_areAlike_135 : decode cL_areAlike 135 = .ok (.goto (-105), 3) := by decide +kernel
theorem dL_areAlike_138 : decode cL_areAlike 138 = .ok (.iload_n 2, 1) := by decide +kernel
theorem dL_areAlike_139 : decode cL_areAlike 139 = .ok (.ireturn, 1) := by decide +kernel
set_option maxRecDepth 20000 in
theorem ggL_areKeysSo_L_credit : GoodIn wsL_areKeysSo wsL_credit := goodIn_ca (goodIn_r _ [4, 5, 6, 7, 8, 9, 10, 11, 12, 13, 14, 15, 16, 17, 18, 19, 20, 21, 22, 23, 24, 25, 26, 27, 28, 29, 30, 31, 32, 33, 34, 35, 36, 37, 38, 39, 40, 41, 86, 87, 88, 89, 90, 91, 92, 93, 94, 95, 96, 97, 98, 99, 100, 101, 102, 103] (by decide +kernel) (by decide +kernel)) (goodIn_sub (fun _ h => List.mem_cons_of_mem _ (List.mem_append_right _ h)) (by decide +kernel))
set_option maxRecDepth 20000 in
theorem gL_areKeysSo_L_credit : GoodIn wsL_areKeysSo (va_wsS RL 92 yL_credit wsL_credit) := goodIn_app (goodIn_of _ (by decide +kernel)) ggL_areKeysSo_L_credit
set_option maxRecDepth 20000 in
theorem ggL_areKeysSo_X4_credit : GoodIn wsL_areKeysSo wsX4_credit := goodIn_ca (goodIn_r _ [10, 11, 12, 13, 9, 14, 15, 16, 17, 18, 19, 20, 21, 22, 23, 24, 25, 26, 27, 28, 29, 30, 31, 32, 33, 34, 35, 36, 37, 38, 39, 40, 41, 86, 87, 88, 89, 90, 91, 92, 93, 94, 95, 96, 97, 98, 99, 100, 101, 102, 103] (by decide +kernel) (by decide +kernel)) (goodIn_sub (fun _ h => List.mem_cons_of_mem _ (List.mem_append_right _ h)) (by decide +kernel))
set_option maxRecDepth 20000 in
theorem gL_areKeysSo_X4_credit : GoodIn wsL_areKeysSo (wsV RL 52 RX4 yX4_credit wsX4_credit) := goodIn_app (goodIn_of _ (by decide +kernel)) ggL_areKeysSo_X4_credit
set_option maxRecDepth 20000 in
theorem ggL_areKeysSo_X4_debt : GoodIn wsL_areKeysSo wsX4_debt := goodIn_ca (goodIn_r _ [45, 11, 12, 13, 9, 14, 15, 16, 17, 18, 19, 20, 21, 22, 23, 24, 25, 26, 27, 28, 29, 30, 31, 32, 33, 34, 35, 36, 37, 38, 39, 40, 41, 86, 87, 88, 89, 90, 91, 92, 93, 94, 95, 96, 97, 98, 99, 100, 101, 102, 103] (by decide +kernel) (by decide +kernel)) (goodIn_sub (fun _ h => List.mem_cons_of_mem _ (List.mem_append_right _ h)) (by decide +kernel))
set_option maxRecDepth 20000 in
theorem gL_areKeysSo_X4_debt : GoodIn wsL_areKeysSo (wsV RL 94 RX4 yX4_debt wsX4_debt) := goodIn_app (goodIn_of _ (by decide +kernel)) ggL_areKeysSo_X4_debt
set_option maxRecDepth 20000 in
theorem ggL_areKeysSo_X4_held : GoodIn wsL_areKeysSo wsX4_held := goodIn_ca (goodIn_r _ [49, 11, 12, 13, 9, 14, 15, 16, 17, 18, 19, 20, 21, 22, 23, 24, 25, 26, 27, 28, 29, 30, 31, 32, 33, 34, 35, 36, 37, 38, 39, 40, 41, 86, 87, 88, 89, 90, 91, 92, 93, 94, 95, 96, 97, 98, 99, 100, 101, 102, 103] (by decide +kernel) (by decide +kernel)) (goodIn_sub (fun _ h => List.mem_cons_of_mem _ (List.mem_append_right _ h)) (by decide +kernel))
set_option maxRecDepth 20000 in
theorem gL_areKeysSo_X4_held : GoodIn wsL_areKeysSo (wsV RL 97 RX4 yX4_held wsX4_held) := goodIn_app (goodIn_of _ (by decide +kernel)) ggL_areKeysSo_X4_held
set_option maxRecDepth 20000 in
theorem ggL_areKeysSo_X4_spent : GoodIn wsL_areKeysSo wsX4_spent := goodIn_ca (goodIn_r _ [53, 11, 12, 13, 9, 14, 15, 16, 17, 18, 19, 20, 21, 22, 23, 24, 25, 26, 27, 28, 29, 30, 31, 32, 33, 34, 35, 36, 37, 38, 39, 40, 41, 86, 87, 88, 89, 90, 91, 92, 93, 94, 95, 96, 97, 98, 99, 100, 101, 102, 103] (by decide +kernel) (by decide +kernel)) (goodIn_sub (fun _ h => List.mem_cons_of_mem _ (List.mem_append_right _ h)) (by decide +kernel))
set_option maxRecDepth 20000 in
theorem gL_areKeysSo_X4_spent : GoodIn wsL_areKeysSo (wsV RL 103 RX4 yX4_spent wsX4_spent) := goodIn_app (goodIn_of _ (by decide +kernel)) ggL_areKeysSo_X4_spent
set_option maxRecDepth 20000 in
theorem ggL_areKeysSo_X4_paid : GoodIn wsL_areKeysSo wsX4_paid := goodIn_ca (goodIn_r _ [57, 11, 12, 13, 9, 14, 15, 16, 17, 18, 19, 20, 21, 22, 23, 24, 25, 26, 27, 28, 29, 30, 31, 32, 33, 34, 35, 36, 37, 38, 39, 40, 41, 86, 87, 88, 89, 90, 91, 92, 93, 94, 95, 96, 97, 98, 99, 100, 101, 102, 103] (by decide +kernel) (by decide +kernel)) (goodIn_sub (fun _ h => List.mem_cons_of_mem _ (List.mem_append_right _ h)) (by decide +kernel))
set_option maxRecDepth 20000 in
theorem gL_areKeysSo_X4_paid : GoodIn wsL_areKeysSo (wsV RL 110 RX4 yX4_paid wsX4_paid) := goodIn_app (goodIn_of _ (by decide +kernel)) ggL_areKeysSo_X4_paid
set_option maxRecDepth 20000 in
theorem ggL_areKeysSo_X4_tokens : GoodIn wsL_areKeysSo wsX4_tokens := goodIn_ca (goodIn_r _ [61, 11, 12, 13, 9, 14, 15, 16, 17, 18, 19, 20, 21, 22, 23, 24, 25, 26, 27, 28, 29, 30, 31, 32, 33, 34, 35, 36, 37, 38, 39, 40, 41, 86, 87, 88, 89, 90, 91, 92, 93, 94, 95, 96, 97, 98, 99, 100, 101, 102, 103] (by decide +kernel) (by decide +kernel)) (goodIn_sub (fun _ h => List.mem_cons_of_mem _ (List.mem_append_right _ h)) (by decide +kernel))
set_option maxRecDepth 20000 in
theorem gL_areKeysSo_X4_tokens : GoodIn wsL_areKeysSo (wsV RL 100 RX4 yX4_tokens wsX4_tokens) := goodIn_app (goodIn_of _ (by decide +kernel)) ggL_areKeysSo_X4_tokens
set_option maxRecDepth 20000 in
theorem ggL_areKeysSo_X4_isSlowed : GoodIn wsL_areKeysSo wsX4_isSlowed := goodIn_ca (goodIn_r _ [65, 11, 12, 13, 9, 14, 15, 16, 17, 18, 19, 20, 21, 22, 23, 24, 25, 26, 27, 28, 29, 30, 31, 32, 33, 34, 35, 36, 37, 38, 39, 40, 41, 66, 67, 68, 69, 70, 71, 95, 96, 97, 98, 99, 100, 101, 102, 103, 86, 87, 88, 89, 90, 91, 92, 93, 94] (by decide +kernel) (by decide +kernel)) (goodIn_sub (fun _ h => List.mem_cons_of_mem _ (List.mem_append_right _ h)) (by decide +kernel))
set_option maxRecDepth 20000 in
theorem gL_areKeysSo_X4_isSlowed : GoodIn wsL_areKeysSo (wsV RL 106 RX4 yX4_isSlowed wsX4_isSlowed) := goodIn_app (goodIn_of _ (by decide +kernel)) ggL_areKeysSo_X4_isSlowed
set_option maxRecDepth 20000 in
theorem ggL_areKeysSo_X4_calls : GoodIn wsL_areKeysSo wsX4_calls := goodIn_r _ [75, 76, 19, 20, 21, 22, 23, 24, 95, 96, 97, 98, 99, 100, 101, 102, 103] (by decide +kernel) (by decide +kernel)
set_option maxRecDepth 20000 in
theorem gL_areKeysSo_X4_calls : GoodIn wsL_areKeysSo (wsV RL 60 RX4 yX4_calls wsX4_calls) := goodIn_app (goodIn_of _ (by decide +kernel)) ggL_areKeysSo_X4_calls
set_option maxRecDepth 20000 in
theorem ggL_areKeysSo_X4_cost : GoodIn wsL_areKeysSo wsX4_cost := goodIn_ca (goodIn_r _ [80, 81, 82, 83, 9, 84, 15, 16, 76, 85, 19, 20, 21, 22, 23, 24, 25, 26, 27, 28, 29, 30, 31, 32, 33, 34, 35, 36, 37, 38, 39, 40, 41, 104, 105, 106, 107, 108, 109, 110, 95, 96, 97, 98, 99, 100, 101, 102, 103] (by decide +kernel) (by decide +kernel)) (goodIn_sub (fun _ h => List.mem_cons_of_mem _ (List.mem_append_right _ h)) (by decide +kernel))
set_option maxRecDepth 20000 in
theorem gL_areKeysSo_X4_cost : GoodIn wsL_areKeysSo (wsV RL 113 RX4 yX4_cost wsX4_cost) := goodIn_app (goodIn_of _ (by decide +kernel)) ggL_areKeysSo_X4_cost
theorem dL_areKeysSo_0 : decode cL_areKeysSo 0 = .ok (.iconst 0, 1) := by decide +kernel
theorem dL_areKeysSo_1 : decode cL_areKeysSo 1 = .ok (.istore_n 1, 1) := by decide +kernel
theorem dL_areKeysSo_2 : decode cL_areKeysSo 2 = .ok (.iconst 0, 1) := by decide +kernel
theorem dL_areKeysSo_3 : decode cL_areKeysSo 3 = .ok (.istore_n 2, 1) := by decide +kernel
theorem dL_areKeysSo_4 : decode cL_areKeysSo 4 = .ok (.iload_n 2, 1) := by decide +kernel
theorem dL_areKeysSo_5 : decode cL_areKeysSo 5 = .ok (.bipush 8, 2) := by decide +kernel
theorem dL_areKeysSo_7 : decode cL_areKeysSo 7 = .ok (.if_icmp .ge 119, 3) := by decide +kernel
theorem dL_areKeysSo_10 : decode cL_areKeysSo 10 = .ok (.aload_n 0, 1) := by decide +kernel
theorem dL_areKeysSo_11 : decode cL_areKeysSo 11 = .ok (.iload_n 2, 1) := by decide +kernel
theorem dL_areKeysSo_12 : decode cL_areKeysSo 12 = .ok (.invokestatic 92, 3) := by decide +kernel
theorem dL_areKeysSo_15 : decode cL_areKeysSo 15 = .ok (.ifCond .lt 111, 3) := by decide +kernel
theorem dL_areKeysSo_18 : decode cL_areKeysSo 18 = .ok (.aload_n 0, 1) := by decide +kernel
theorem dL_areKeysSo_19 : decode cL_areKeysSo 19 = .ok (.iload_n 2, 1) := by decide +kernel
theorem dL_areKeysSo_20 : decode cL_areKeysSo 20 = .ok (.invokevirtual 52, 3) := by decide +kernel
theorem dL_areKeysSo_23 : decode cL_areKeysSo 23 = .ok (.aload_n 0, 1) := by decide +kernel
theorem dL_areKeysSo_24 : decode cL_areKeysSo 24 = .ok (.iload_n 2, 1) := by decide +kernel
theorem dL_areKeysSo_25 : decode cL_areKeysSo 25 = .ok (.invokevirtual 94, 3) := by decide +kernel
theorem dL_areKeysSo_28 : decode cL_areKeysSo 28 = .ok (.isub, 1) := by decide +kernel
theorem dL_areKeysSo_29 : decode cL_areKeysSo 29 = .ok (.aload_n 0, 1) := by decide +kernel
theorem dL_areKeysSo_30 : decode cL_areKeysSo 30 = .ok (.iload_n 2, 1) := by decide +kernel
theorem dL_areKeysSo_31 : decode cL_areKeysSo 31 = .ok (.invokevirtual 97, 3) := by decide +kernel
theorem dL_areKeysSo_34 : decode cL_areKeysSo 34 = .ok (.iadd, 1) := by decide +kernel
theorem dL_areKeysSo_35 : decode cL_areKeysSo 35 = .ok (.aload_n 0, 1) := by decide +kernel
theorem dL_areKeysSo_36 : decode cL_areKeysSo 36 = .ok (.iload_n 2, 1) := by decide +kernel
theorem dL_areKeysSo_37 : decode cL_areKeysSo 37 = .ok (.invokevirtual 103, 3) := by decide +kernel
theorem dL_areKeysSo_40 : decode cL_areKeysSo 40 = .ok (.iadd, 1) := by decide +kernel
theorem dL_areKeysSo_41 : decode cL_areKeysSo 41 = .ok (.aload_n 0, 1) := by decide +kernel
theorem dL_areKeysSo_42 : decode cL_areKeysSo 42 = .ok (.iload_n 2, 1) := by decide +kernel
theorem dL_areKeysSo_43 : decode cL_areKeysSo 43 = .ok (.invokevirtual 110, 3) := by decide +kernel
theorem dL_areKeysSo_46 : decode cL_areKeysSo 46 = .ok (.if_icmp .ne 39, 3) := by decide +kernel
theorem dL_areKeysSo_49 : decode cL_areKeysSo 49 = .ok (.aload_n 0, 1) := by decide +kernel
theorem dL_areKeysSo_50 : decode cL_areKeysSo 50 = .ok (.iload_n 2, 1) := by decide +kernel
theorem dL_areKeysSo_51 : decode cL_areKeysSo 51 = .ok (.invokevirtual 94, 3) := by decide +kernel
theorem dL_areKeysSo_54 : decode cL_areKeysSo 54 = .ok (.ifCond .lt 31, 3) := by decide +kernel
theorem dL_areKeysSo_57 : decode cL_areKeysSo 57 = .ok (.aload_n 0, 1) := by decide +kernel
theorem dL_areKeysSo_58 : decode cL_areKeysSo 58 = .ok (.iload_n 2, 1) := by decide +kernel
theorem dL_areKeysSo_59 : decode cL_areKeysSo 59 = .ok (.invokevirtual 97, 3) := by decide +kernel
theorem dL_areKeysSo_62 : decode cL_areKeysSo 62 = .ok (.ifCond .lt 23, 3) := by decide +kernel
theorem dL_areKeysSo_65 : decode cL_areKeysSo 65 = .ok (.aload_n 0, 1) := by decide +kernel
theorem dL_areKeysSo_66 : decode cL_areKeysSo 66 = .ok (.iload_n 2, 1) := by decide +kernel
theorem dL_areKeysSo_67 : decode cL_areKeysSo 67 = .ok (.invokevirtual 100, 3) := by decide +kernel
theorem dL_areKeysSo_70 : decode cL_areKeysSo 70 = .ok (.ifCond .lt 15, 3) := by decide +kernel
theorem dL_areKeysSo_73 : decode cL_areKeysSo 73 = .ok (.aload_n 0, 1) := by decide +kernel
theorem dL_areKeysSo_74 : decode cL_areKeysSo 74 = .ok (.iload_n 2, 1) := by decide +kernel
theorem dL_areKeysSo_75 : decode cL_areKeysSo 75 = .ok (.invokevirtual 103, 3) := by decide +kernel
theorem dL_areKeysSo_78 : decode cL_areKeysSo 78 = .ok (.ifCond .lt 7, 3) := by decide +kernel
theorem dL_areKeysSo_81 : decode cL_areKeysSo 81 = .ok (.iconst 1, 1) := by decide +kernel
end
section
theorem dL_areKeysSo_82 : decode cL_areKeysSo 82 = .ok (.goto 4, 3) := by decide +kernel
theorem dL_areKeysSo_85 : decode cL_areKeysSo 85 = .ok (.iconst 0, 1) := by decide +kernel
theorem dL_areKeysSo_86 : decode cL_areKeysSo 86 = .ok (.istore_n 3, 1) := by decide +kernel
theorem dL_areKeysSo_87 : decode cL_areKeysSo 87 = .ok (.iload_n 3, 1) := by decide +kernel
theorem dL_areKeysSo_88 : decode cL_areKeysSo 88 = .ok (.ifCond .eq 27, 3) := by decide +kernel
theorem dL_areKeysSo_91 : decode cL_areKeysSo 91 = .ok (.aload_n 0, 1) := by decide +kernel
theorem dL_areKeysSo_92 : decode cL_areKeysSo 92 = .ok (.iload_n 2, 1) := by decide +kernel
theorem dL_areKeysSo_93 : decode cL_areKeysSo 93 = .ok (.invokevirtual 106, 3) := by decide +kernel
theorem dL_areKeysSo_96 : decode cL_areKeysSo 96 = .ok (.ifCond .eq 21, 3) := by decide +kernel
theorem dL_areKeysSo_99 : decode cL_areKeysSo 99 = .ok (.aload_n 0, 1) := by decide +kernel
theorem dL_areKeysSo_100 : decode cL_areKeysSo 100 = .ok (.iload_n 2, 1) := by decide +kernel
theorem dL_areKeysSo_101 : decode cL_areKeysSo 101 = .ok (.invokevirtual 52, 3) := by decide +kernel
theorem dL_areKeysSo_104 : decode cL_areKeysSo 104 = .ok (.ifCond .ne 11, 3) := by decide +kernel
theorem dL_areKeysSo_107 : decode cL_areKeysSo 107 = .ok (.aload_n 0, 1) := by decide +kernel
theorem dL_areKeysSo_108 : decode cL_areKeysSo 108 = .ok (.iload_n 2, 1) := by decide +kernel
theorem dL_areKeysSo_109 : decode cL_areKeysSo 109 = .ok (.invokevirtual 97, 3) := by decide +kernel
theorem dL_areKeysSo_112 : decode cL_areKeysSo 112 = .ok (.ifCond .eq 5, 3) := by decide +kernel
theorem dL_areKeysSo_115 : decode cL_areKeysSo 115 = .ok (.iconst 0, 1) := by decide +kernel
theorem dL_areKeysSo_116 : decode cL_areKeysSo 116 = .ok (.ireturn, 1) := by decide +kernel
theorem dL_areKeysSo_117 : decode cL_areKeysSo 117 = .ok (.iinc 1 1, 3) := by decide +kernel
theorem dL_areKeysSo_120 : decode cL_areKeysSo 120 = .ok (.iinc 2 1, 3) := by decide +kernel
theorem dL_areKeysSo_123 : decode cL_areKeysSo 123 = .ok (.goto (-119), 3) := by decide +kernel
theorem dL_areKeysSo_126 : decode cL_areKeysSo 126 = .ok (.iconst 0, 1) := by decide +kernel
theorem dL_areKeysSo_127 : decode cL_areKeysSo 127 = .ok (.istore_n 2, 1) := by decide +kernel
theorem dL_areKeysSo_128 : decode cL_areKeysSo 128 = .ok (.iconst 0, 1) := by decide +kernel
theorem dL_areKeysSo_129 : decode cL_areKeysSo 129 = .ok (.istore_n 3, 1) := by decide +kernel
theorem dL_areKeysSo_130 : decode cL_areKeysSo 130 = .ok (.iconst 0, 1) := by decide +kernel
theorem dL_areKeysSo_131 : decode cL_areKeysSo 131 = .ok (.istore 4, 2) := by decide +kernel
theorem dL_areKeysSo_133 : decode cL_areKeysSo 133 = .ok (.iload 4, 2) := by decide +kernel
theorem dL_areKeysSo_135 : decode cL_areKeysSo 135 = .ok (.aload_n 0, 1) := by decide +kernel
theorem dL_areKeysSo_136 : decode cL_areKeysSo 136 = .ok (.invokevirtual 60, 3) := by decide +kernel
theorem dL_areKeysSo_139 : decode cL_areKeysSo 139 = .ok (.if_icmp .ge 31, 3) := by decide +kernel
theorem dL_areKeysSo_142 : decode cL_areKeysSo 142 = .ok (.iload_n 2, 1) := by decide +kernel
theorem dL_areKeysSo_143 : decode cL_areKeysSo 143 = .ok (.aload_n 0, 1) := by decide +kernel
theorem dL_areKeysSo_144 : decode cL_areKeysSo 144 = .ok (.iload 4, 2) := by decide +kernel
theorem dL_areKeysSo_146 : decode cL_areKeysSo 146 = .ok (.invokevirtual 113, 3) := by decide +kernel
theorem dL_areKeysSo_149 : decode cL_areKeysSo 149 = .ok (.ifCond .le 12, 3) := by decide +kernel
theorem dL_areKeysSo_152 : decode cL_areKeysSo 152 = .ok (.aload_n 0, 1) := by decide +kernel
theorem dL_areKeysSo_153 : decode cL_areKeysSo 153 = .ok (.iload 4, 2) := by decide +kernel
theorem dL_areKeysSo_155 : decode cL_areKeysSo 155 = .ok (.invokevirtual 113, 3) := by decide +kernel
theorem dL_areKeysSo_158 : decode cL_areKeysSo 158 = .ok (.goto 4, 3) := by decide +kernel
theorem dL_areKeysSo_161 : decode cL_areKeysSo 161 = .ok (.iconst 0, 1) := by decide +kernel
theorem dL_areKeysSo_162 : decode cL_areKeysSo 162 = .ok (.iadd, 1) := by decide +kernel
theorem dL_areKeysSo_163 : decode cL_areKeysSo 163 = .ok (.istore_n 2, 1) := by decide +kernel
theorem dL_areKeysSo_164 : decode cL_areKeysSo 164 = .ok (.iinc 4 1, 3) := by decide +kernel
theorem dL_areKeysSo_167 : decode cL_areKeysSo 167 = .ok (.goto (-34), 3) := by decide +kernel
theorem dL_areKeysSo_170 : decode cL_areKeysSo 170 = .ok (.iconst 0, 1) := by decide +kernel
theorem dL_areKeysSo_171 : decode cL_areKeysSo 171 = .ok (.istore 4, 2) := by decide +kernel
theorem dL_areKeysSo_173 : decode cL_areKeysSo 173 = .ok (.iload 4, 2) := by decide +kernel
theorem dL_areKeysSo_175 : decode cL_areKeysSo 175 = .ok (.iload_n 1, 1) := by decide +kernel
theorem dL_areKeysSo_176 : decode cL_areKeysSo 176 = .ok (.if_icmp .ge 18, 3) := by decide +kernel
theorem dL_areKeysSo_179 : decode cL_areKeysSo 179 = .ok (.iload_n 3, 1) := by decide +kernel
theorem dL_areKeysSo_180 : decode cL_areKeysSo 180 = .ok (.aload_n 0, 1) := by decide +kernel
theorem dL_areKeysSo_181 : decode cL_areKeysSo 181 = .ok (.iload 4, 2) := by decide +kernel
theorem dL_areKeysSo_183 : decode cL_areKeysSo 183 = .ok (.invokevirtual 103, 3) := by decide +kernel
theorem dL_areKeysSo_186 : decode cL_areKeysSo 186 = .ok (.iadd, 1) := by decide +kernel
theorem dL_areKeysSo_187 : decode cL_areKeysSo 187 = .ok (.istore_n 3, 1) := by decide +kernel
theorem dL_areKeysSo_188 : decode cL_areKeysSo 188 = .ok (.iinc 4 1, 3) := by decide +kernel
theorem dL_areKeysSo_191 : decode cL_areKeysSo 191 = .ok (.goto (-18), 3) := by decide +kernel
theorem dL_areKeysSo_194 : decode cL_areKeysSo 194 = .ok (.iload_n 2, 1) := by decide +kernel
theorem dL_areKeysSo_195 : decode cL_areKeysSo 195 = .ok (.iload_n 3, 1) := by decide +kernel
theorem dL_areKeysSo_196 : decode cL_areKeysSo 196 = .ok (.if_icmp .ne 7, 3) := by decide +kernel
theorem dL_areKeysSo_199 : decode cL_areKeysSo 199 = .ok (.iconst 1, 1) := by decide +kernel
theorem dL_areKeysSo_200 : decode cL_areKeysSo 200 = .ok (.goto 4, 3) := by decide +kernel
theorem dL_areKeysSo_203 : decode cL_areKeysSo 203 = .ok (.iconst 0, 1) := by decide +kernel
theorem dL_areKeysSo_204 : decode cL_areKeysSo 204 = .ok (.ireturn, 1) := by decide +kernel
set_option maxRecDepth 20000 in
theorem ggL_law_X4_init : GoodIn wsL_law wsX4_init := goodIn_r _ [6, 7, 8, 9, 10, 11, 12, 13, 14, 15, 16, 17, 18, 19, 20, 21, 22, 23, 24, 25, 26, 27, 28, 29, 30, 31, 32, 33, 34, 35, 36, 37, 38, 39, 40, 41, 42, 43, 44, 45, 46, 47, 48, 49, 357, 358, 359, 360, 361, 362, 363, 364, 365, 366, 367, 368, 369, 370, 371] (by decide +kernel) (by decide +kernel)
set_option maxRecDepth 20000 in
theorem gL_law_X4_init : GoodIn wsL_law (wsX4_init) := ggL_law_X4_init
set_option maxRecDepth 20000 in
theorem ggL_law_L_cell : GoodIn wsL_law wsL_cell := goodIn_r _ [53] (by decide +kernel) (by decide +kernel)
set_option maxRecDepth 20000 in
theorem gL_law_L_cell : GoodIn wsL_law (va_wsS RL 117 yL_cell wsL_cell) := goodIn_app (goodIn_of _ (by decide +kernel)) ggL_law_L_cell

theorem ggL_law_L_act_h : GoodIn wsL_law [Cond.code yL_act cL_act 7 (some .int)] := goodIn_r _ [56] (by decide +kernel) (by decide +kernel)
set_option maxRecDepth 20000 in
theorem ggL_law_L_act_wsL_act_r1 : GoodIn wsL_law wsL_act_r1 := goodIn_r _ [57, 58, 59, 52, 60, 61, 62, 63, 64, 2, 65, 18, 66, 67, 68, 16, 69, 70, 71, 72, 73, 74, 3, 75] (by decide +kernel) (by decide +kernel)
set_option maxRecDepth 20000 in
theorem ggL_law_L_act_wsL_act_r2 : GoodIn wsL_law wsL_act_r2 := goodIn_r _ [76, 77, 78, 79, 80, 81, 82, 83, 84, 11, 85, 86, 87, 88, 89, 90, 91, 92, 93, 94, 95, 96, 97, 98] (by decide +kernel) (by decide +kernel)
set_option maxRecDepth 20000 in
theorem ggL_law_L_act_wsL_act_r3 : GoodIn wsL_law wsL_act_r3 := goodIn_r _ [13, 99, 100, 101, 102, 103, 104, 105, 106, 107, 108, 17, 109, 110, 111, 112, 113, 114, 8, 9, 115, 116, 117, 118] (by decide +kernel) (by decide +kernel)
set_option maxRecDepth 20000 in
theorem ggL_law_L_act_wsL_act_r4 : GoodIn wsL_law wsL_act_r4 := goodIn_r _ [119, 120, 121, 122, 27, 123, 124, 125, 126, 127, 128, 129, 130, 131, 132, 133, 134, 26, 135, 136, 137, 138, 139, 140] (by decide +kernel) (by decide +kernel)
set_option maxRecDepth 20000 in
theorem ggL_law_L_act_wsL_act_r5 : GoodIn wsL_law wsL_act_r5 := goodIn_r _ [141, 142, 143, 144, 145, 146, 147, 148, 149, 150, 151, 152, 153, 154, 155, 156, 157, 158, 159, 160, 161, 162, 163, 164] (by decide +kernel) (by decide +kernel)
set_option maxRecDepth 20000 in
theorem ggL_law_L_act_wsL_act_r6 : GoodIn wsL_law wsL_act_r6 := goodIn_r _ [165, 166, 167, 168, 169, 170, 171, 172, 173, 174, 175, 176, 177, 178, 179, 180, 181, 182, 183, 184, 185, 186, 187, 188] (by decide +kernel) (by decide +kernel)
set_option maxRecDepth 20000 in
theorem ggL_law_L_act_wsL_act_r7 : GoodIn wsL_law wsL_act_r7 := goodIn_r _ [189, 190, 191, 192, 193, 194, 195, 196, 197, 198, 199, 200, 201, 202, 203, 204, 205, 206, 207, 208, 209, 210, 211, 212] (by decide +kernel) (by decide +kernel)
set_option maxRecDepth 20000 in
theorem ggL_law_L_act_wsL_act_r8 : GoodIn wsL_law wsL_act_r8 := goodIn_r _ [213, 214, 215, 216, 217, 218, 219, 220, 221, 222, 223, 224, 225, 226, 227, 228, 229, 230, 231, 232, 233, 234, 235, 236] (by decide +kernel) (by decide +kernel)
set_option maxRecDepth 20000 in
theorem ggL_law_L_act_wsL_act_r9 : GoodIn wsL_law wsL_act_r9 := goodIn_r _ [237, 238, 239, 240, 241, 242, 243, 244, 245, 246, 247, 248, 249, 250, 251, 252, 253, 254, 255, 256, 257, 258, 259, 260] (by decide +kernel) (by decide +kernel)
set_option maxRecDepth 20000 in
theorem ggL_law_L_act_wsL_act_r10 : GoodIn wsL_law wsL_act_r10 := goodIn_r _ [261, 262, 263, 264, 265, 266, 267, 268, 269, 270, 271, 272, 273, 274, 275, 276, 277, 278, 279, 280, 281, 282, 283, 284] (by decide +kernel) (by decide +kernel)
set_option maxRecDepth 20000 in
theorem ggL_law_L_act_wsL_act_r11 : GoodIn wsL_law wsL_act_r11 := goodIn_r _ [285, 286, 287, 288, 289, 290, 291, 292, 293, 294, 295, 296, 297, 298, 299, 300, 301, 302, 303, 304, 305, 306, 307, 308] (by decide +kernel) (by decide +kernel)
set_option maxRecDepth 20000 in
theorem ggL_law_L_act_wsL_act_r12 : GoodIn wsL_law wsL_act_r12 := goodIn_r _ [309, 310, 311] (by decide +kernel) (by decide +kernel)
set_option maxRecDepth 20000 in
theorem ggL_law_L_act : GoodIn wsL_law wsL_act := goodIn_ca (goodIn_ca (goodIn_ca ((fun w h => (List.mem_cons.mp h).elim (fun e => ggL_law_L_act_h w (by rw [e]; exact List.mem_cons_self)) (fun h => (goodIn_app (goodIn_app (goodIn_app (goodIn_app (goodIn_app (goodIn_app (goodIn_app ggL_law_L_act_wsL_act_r1 (goodIn_app ggL_law_L_act_wsL_act_r2 (goodIn_app ggL_law_L_act_wsL_act_r3 (goodIn_app ggL_law_L_act_wsL_act_r4 (goodIn_app ggL_law_L_act_wsL_act_r5 (goodIn_app ggL_law_L_act_wsL_act_r6 (goodIn_app ggL_law_L_act_wsL_act_r7 (goodIn_app ggL_law_L_act_wsL_act_r8 (goodIn_app ggL_law_L_act_wsL_act_r9 (goodIn_app ggL_law_L_act_wsL_act_r10 (goodIn_app ggL_law_L_act_wsL_act_r11 ggL_law_L_act_wsL_act_r12))))))))))) (goodIn_sub inlX4 (by decide +kernel))) (goodIn_sub inlJx4a65c (by decide +kernel))) (goodIn_sub inlX2 (by decide +kernel))) (goodIn_sub inlX3 (by decide +kernel))) (goodIn_sub inlX1 (by decide +kernel))) (goodIn_sub inlX0 (by decide +kernel))) w h))) (goodIn_sub (fun _ h => List.mem_append_left _ (List.mem_append_left _ (List.mem_append_right _ h))) (by decide +kernel))) (goodIn_sub (fun _ h => List.mem_append_left _ (List.mem_append_right _ h)) (by decide +kernel))) (goodIn_sub (fun _ h => List.mem_append_right _ h) (by decide +kernel))
set_option maxRecDepth 20000 in
theorem gL_law_L_act : GoodIn wsL_law (va_wsS RL 121 yL_act wsL_act) := goodIn_app (goodIn_of _ (by decide +kernel)) ggL_law_L_act
set_option maxRecDepth 20000 in
theorem ggL_law_L_areAlike : GoodIn wsL_law wsL_areAlike := goodIn_ca (goodIn_r _ [314, 315, 316, 317, 2, 318, 228, 62, 63, 64, 65, 18, 66, 67, 68, 16, 69, 70, 319, 320, 52, 321, 172, 322, 323, 324, 325, 177, 178, 179, 180, 181, 182, 17, 183, 184, 185, 186, 187, 188, 189, 190, 191, 192, 193, 194, 195, 196, 197, 198, 199, 27, 326, 327, 328, 329, 330, 331, 332, 333, 334, 335, 336, 337, 338, 339, 340, 341, 342, 343, 344, 345, 288, 111, 289, 290, 220, 253, 357, 358, 359, 360, 361, 362, 363, 364, 365, 372, 373, 374, 375, 376, 377, 378, 379, 380] (by decide +kernel) (by decide +kernel)) (goodIn_sub (fun _ h => List.mem_append_right _ h) (by decide +kernel))
set_option maxRecDepth 20000 in
theorem gL_law_L_areAlike : GoodIn wsL_law (va_wsS RL 124 yL_areAlike wsL_areAlike) := goodIn_app (goodIn_of _ (by decide +kernel)) ggL_law_L_areAlike
set_option maxRecDepth 20000 in
theorem ggL_law_L_areKeysSo : GoodIn wsL_law wsL_areKeysSo := goodIn_ca (goodIn_r _ [348, 319, 320, 52, 321, 172, 322, 323, 324, 2, 325, 177, 178, 179, 180, 181, 182, 17, 183, 66, 67, 68, 16, 69, 70, 184, 185, 186, 187, 188, 189, 190, 191, 192, 193, 194, 195, 196, 197, 198, 199, 27, 326, 327, 328, 329, 330, 331, 332, 333, 338, 339, 340, 341, 349, 350, 351, 352, 334, 335, 336, 337, 342, 343, 344, 345, 288, 111, 289, 290, 220, 253, 62, 63, 64, 65, 18, 353, 354, 355, 356, 229, 230, 231, 232, 233, 372, 373, 374, 375, 376, 377, 378, 379, 380, 357, 358, 359, 360, 361, 362, 363, 364, 365, 381, 382, 383, 384, 385, 386, 387] (by decide +kernel) (by decide +kernel)) (goodIn_sub (fun _ h => List.mem_append_right _ h) (by decide +kernel))
set_option maxRecDepth 20000 in
theorem gL_law_L_areKeysSo : GoodIn wsL_law (va_wsS RL 128 yL_areKeysSo wsL_areKeysSo) := goodIn_app (goodIn_of _ (by decide +kernel)) ggL_law_L_areKeysSo
set_option maxRecDepth 20000 in
theorem ggL_law_X4_calls : GoodIn wsL_law wsX4_calls := goodIn_r _ [65, 18, 66, 67, 68, 16, 69, 70, 357, 358, 359, 360, 361, 362, 363, 364, 365] (by decide +kernel) (by decide +kernel)
set_option maxRecDepth 20000 in
theorem gL_law_X4_calls : GoodIn wsL_law (wsV RL 60 RX4 yX4_calls wsX4_calls) := goodIn_app (goodIn_of _ (by decide +kernel)) ggL_law_X4_calls
set_option maxRecDepth 20000 in
theorem ggL_law_X4_cost : GoodIn wsL_law wsX4_cost := goodIn_ca (goodIn_r _ [356, 229, 230, 231, 2, 232, 181, 182, 18, 233, 66, 67, 68, 16, 69, 70, 184, 185, 186, 187, 188, 189, 190, 191, 192, 193, 194, 195, 196, 197, 198, 199, 27, 381, 382, 383, 384, 385, 386, 387, 357, 358, 359, 360, 361, 362, 363, 364, 365] (by decide +kernel) (by decide +kernel)) (goodIn_sub (fun _ h => List.mem_append_right _ h) (by decide +kernel))
set_option maxRecDepth 20000 in
theorem gL_law_X4_cost : GoodIn wsL_law (wsV RL 113 RX4 yX4_cost wsX4_cost) := goodIn_app (goodIn_of _ (by decide +kernel)) ggL_law_X4_cost
set_option maxRecDepth 20000 in
theorem ggL_law_X4_pass : GoodIn wsL_law wsX4_pass := goodIn_ca (goodIn_r _ [274, 228, 85, 86, 2, 87, 83, 84, 275, 276, 277, 278, 279, 18, 233, 66, 67, 68, 16, 69, 70, 184, 185, 186, 187, 188, 189, 190, 191, 192, 193, 194, 195, 196, 197, 198, 199, 27, 234, 235, 236, 237, 238, 239, 240, 241, 242, 243, 244, 245, 246, 247, 248, 249, 111, 250, 251, 252, 253, 254, 255, 215, 216, 217, 218, 219, 163, 137, 164, 220, 280, 281, 282, 283, 17, 183, 284, 285, 286, 116, 115, 287, 288, 289, 290, 357, 358, 359, 360, 361, 362, 381, 382, 383, 384, 385, 386, 387, 363, 364, 365, 372, 373, 374, 375, 376, 377, 378, 379, 380, 366, 367, 368, 369] (by decide +kernel) (by decide +kernel)) (goodIn_sub (fun _ h => List.mem_append_left _ (List.mem_append_left _ (List.mem_append_right _ h))) (by decide +kernel))
set_option maxRecDepth 20000 in
theorem gL_law_X4_pass : GoodIn wsL_law (wsV RL 49 RX4 yX4_pass wsX4_pass) := goodIn_app (goodIn_of _ (by decide +kernel)) ggL_law_X4_pass
set_option maxRecDepth 20000 in
theorem ggL_law_L_credit : GoodIn wsL_law wsL_credit := goodIn_ca (goodIn_r _ [321, 172, 322, 323, 324, 2, 325, 177, 178, 179, 180, 181, 182, 17, 183, 66, 67, 68, 16, 69, 70, 184, 185, 186, 187, 188, 189, 190, 191, 192, 193, 194, 195, 196, 197, 198, 199, 27, 372, 373, 374, 375, 376, 377, 378, 379, 380, 357, 358, 359, 360, 361, 362, 363, 364, 365] (by decide +kernel) (by decide +kernel)) (goodIn_sub (fun _ h => List.mem_append_right _ h) (by decide +kernel))
set_option maxRecDepth 20000 in
theorem gL_law_L_credit : GoodIn wsL_law (va_wsS RL 92 yL_credit wsL_credit) := goodIn_app (goodIn_of _ (by decide +kernel)) ggL_law_L_credit
set_option maxRecDepth 20000 in
theorem ggL_law_X4_held : GoodIn wsL_law wsX4_held := goodIn_ca (goodIn_r _ [333, 177, 178, 179, 2, 180, 181, 182, 17, 183, 66, 67, 68, 16, 69, 70, 184, 185, 186, 187, 188, 189, 190, 191, 192, 193, 194, 195, 196, 197, 198, 199, 27, 372, 373, 374, 375, 376, 377, 378, 379, 380, 357, 358, 359, 360, 361, 362, 363, 364, 365] (by decide +kernel) (by decide +kernel)) (goodIn_sub (fun _ h => List.mem_append_right _ h) (by decide +kernel))
set_option maxRecDepth 20000 in
theorem gL_law_X4_held : GoodIn wsL_law (wsV RL 97 RX4 yX4_held wsX4_held) := goodIn_app (goodIn_of _ (by decide +kernel)) ggL_law_X4_held
end
