section
-- ===== PART A: goes FIRST, ahead of the names: the tables' words, and 'selects' of the private methods out of them =====
/-- a private method of a class that the tables say can be made, by its rows of tables_1 -/
def lw_okq (q : MethodName × Nat) : Prop := (q.1.cls ≠ "java/lang/invoke/MethodHandle" ∧ q.1.cls ≠ "java/lang/invoke/VarHandle") ∧ Cond.instantiable q.1.cls q.2 ∈ tables_1 ∧ Cond.privateMethod q.1 ∈ tables_1 ∧ Cond.instanceMethod q.1 ∈ tables_1
theorem lw_p0 : lw_okq (⟨"TollGateway", "planAt", "(I)LTollGateway$Plan;"⟩, 6) := ⟨⟨by decide +kernel, by decide +kernel⟩, List.mem_of_getElem? (i := 23) (by decide +kernel), List.mem_of_getElem? (i := 139) (by decide +kernel), List.mem_of_getElem? (i := 140) (by decide +kernel)⟩
theorem lw_p1 : lw_okq (⟨"java/lang/Throwable", "fillInStackTrace", "(I)Ljava/lang/Throwable;"⟩, 6) := ⟨⟨by decide +kernel, by decide +kernel⟩, List.mem_of_getElem? (i := 181) (by decide +kernel), List.mem_of_getElem? (i := 179) (by decide +kernel), List.mem_of_getElem? (i := 180) (by decide +kernel)⟩
theorem lw_p2 : lw_okq (⟨"TollGateway", "routeAt", "(I)LTollGateway$Route;"⟩, 6) := ⟨⟨by decide +kernel, by decide +kernel⟩, List.mem_of_getElem? (i := 23) (by decide +kernel), List.mem_of_getElem? (i := 222) (by decide +kernel), List.mem_of_getElem? (i := 223) (by decide +kernel)⟩
theorem lw_p3 : lw_okq (⟨"java/util/ArrayList", "add", "(Ljava/lang/Object;[Ljava/lang/Object;I)V"⟩, 3) := ⟨⟨by decide +kernel, by decide +kernel⟩, List.mem_of_getElem? (i := 35) (by decide +kernel), List.mem_of_getElem? (i := 298) (by decide +kernel), List.mem_of_getElem? (i := 299) (by decide +kernel)⟩
theorem lw_p4 : lw_okq (⟨"java/util/ArrayList", "grow", "()[Ljava/lang/Object;"⟩, 3) := ⟨⟨by decide +kernel, by decide +kernel⟩, List.mem_of_getElem? (i := 35) (by decide +kernel), List.mem_of_getElem? (i := 302) (by decide +kernel), List.mem_of_getElem? (i := 303) (by decide +kernel)⟩
theorem lw_p5 : lw_okq (⟨"java/util/ArrayList", "grow", "(I)[Ljava/lang/Object;"⟩, 3) := ⟨⟨by decide +kernel, by decide +kernel⟩, List.mem_of_getElem? (i := 35) (by decide +kernel), List.mem_of_getElem? (i := 306) (by decide +kernel), List.mem_of_getElem? (i := 307) (by decide +kernel)⟩
theorem lw_p6 : lw_okq (⟨"TollGateway", "keyAt", "(I)LTollGateway$Key;"⟩, 6) := ⟨⟨by decide +kernel, by decide +kernel⟩, List.mem_of_getElem? (i := 23) (by decide +kernel), List.mem_of_getElem? (i := 359) (by decide +kernel), List.mem_of_getElem? (i := 360) (by decide +kernel)⟩
theorem lw_p7 : lw_okq (⟨"TollGateway$Key", "receive", "(I)V"⟩, 9) := ⟨⟨by decide +kernel, by decide +kernel⟩, List.mem_of_getElem? (i := 251) (by decide +kernel), List.mem_of_getElem? (i := 408) (by decide +kernel), List.mem_of_getElem? (i := 409) (by decide +kernel)⟩
theorem lw_p8 : lw_okq (⟨"TollGateway$Key", "canCover", "(I)Z"⟩, 9) := ⟨⟨by decide +kernel, by decide +kernel⟩, List.mem_of_getElem? (i := 251) (by decide +kernel), List.mem_of_getElem? (i := 421) (by decide +kernel), List.mem_of_getElem? (i := 422) (by decide +kernel)⟩
theorem lw_p9 : lw_okq (⟨"TollGateway$Key", "openHold", "(I)V"⟩, 9) := ⟨⟨by decide +kernel, by decide +kernel⟩, List.mem_of_getElem? (i := 251) (by decide +kernel), List.mem_of_getElem? (i := 426) (by decide +kernel), List.mem_of_getElem? (i := 427) (by decide +kernel)⟩
theorem lw_p10 : lw_okq (⟨"TollGateway", "callAt", "(I)LTollGateway$Call;"⟩, 6) := ⟨⟨by decide +kernel, by decide +kernel⟩, List.mem_of_getElem? (i := 23) (by decide +kernel), List.mem_of_getElem? (i := 469) (by decide +kernel), List.mem_of_getElem? (i := 470) (by decide +kernel)⟩
theorem lw_p11 : lw_okq (⟨"TollGateway$Call", "hasEnded", "()Z"⟩, 7) := ⟨⟨by decide +kernel, by decide +kernel⟩, List.mem_of_getElem? (i := 430) (by decide +kernel), List.mem_of_getElem? (i := 474) (by decide +kernel), List.mem_of_getElem? (i := 475) (by decide +kernel)⟩
theorem lw_p12 : lw_okq (⟨"TollGateway$Call", "settle", "(II)V"⟩, 7) := ⟨⟨by decide +kernel, by decide +kernel⟩, List.mem_of_getElem? (i := 430) (by decide +kernel), List.mem_of_getElem? (i := 479) (by decide +kernel), List.mem_of_getElem? (i := 480) (by decide +kernel)⟩
theorem lw_p13 : lw_okq (⟨"TollGateway$Call", "costOf", "(I)I"⟩, 7) := ⟨⟨by decide +kernel, by decide +kernel⟩, List.mem_of_getElem? (i := 430) (by decide +kernel), List.mem_of_getElem? (i := 483) (by decide +kernel), List.mem_of_getElem? (i := 484) (by decide +kernel)⟩
theorem lw_p14 : lw_okq (⟨"TollGateway$Key", "closeHold", "(II)V"⟩, 9) := ⟨⟨by decide +kernel, by decide +kernel⟩, List.mem_of_getElem? (i := 251) (by decide +kernel), List.mem_of_getElem? (i := 487) (by decide +kernel), List.mem_of_getElem? (i := 488) (by decide +kernel)⟩
theorem lw_p15 : lw_okq (⟨"TollGateway$Call", "giveBack", "()I"⟩, 7) := ⟨⟨by decide +kernel, by decide +kernel⟩, List.mem_of_getElem? (i := 430) (by decide +kernel), List.mem_of_getElem? (i := 502) (by decide +kernel), List.mem_of_getElem? (i := 503) (by decide +kernel)⟩
def lw_privs_1 : List (MethodName × Nat) := [(⟨"TollGateway", "planAt", "(I)LTollGateway$Plan;"⟩, 6), (⟨"java/lang/Throwable", "fillInStackTrace", "(I)Ljava/lang/Throwable;"⟩, 6), (⟨"TollGateway", "routeAt", "(I)LTollGateway$Route;"⟩, 6), (⟨"java/util/ArrayList", "add", "(Ljava/lang/Object;[Ljava/lang/Object;I)V"⟩, 3), (⟨"java/util/ArrayList", "grow", "()[Ljava/lang/Object;"⟩, 3), (⟨"java/util/ArrayList", "grow", "(I)[Ljava/lang/Object;"⟩, 3), (⟨"TollGateway", "keyAt", "(I)LTollGateway$Key;"⟩, 6), (⟨"TollGateway$Key", "receive", "(I)V"⟩, 9), (⟨"TollGateway$Key", "canCover", "(I)Z"⟩, 9), (⟨"TollGateway$Key", "openHold", "(I)V"⟩, 9), (⟨"TollGateway", "callAt", "(I)LTollGateway$Call;"⟩, 6), (⟨"TollGateway$Call", "hasEnded", "()Z"⟩, 7), (⟨"TollGateway$Call", "settle", "(II)V"⟩, 7), (⟨"TollGateway$Call", "costOf", "(I)I"⟩, 7), (⟨"TollGateway$Key", "closeHold", "(II)V"⟩, 9), (⟨"TollGateway$Call", "giveBack", "()I"⟩, 7)]
theorem lw_r1 : ∀ q ∈ lw_privs_1, lw_okq q := List.forall_mem_cons.mpr ⟨lw_p0, List.forall_mem_cons.mpr ⟨lw_p1, List.forall_mem_cons.mpr ⟨lw_p2, List.forall_mem_cons.mpr ⟨lw_p3, List.forall_mem_cons.mpr ⟨lw_p4, List.forall_mem_cons.mpr ⟨lw_p5, List.forall_mem_cons.mpr ⟨lw_p6, List.forall_mem_cons.mpr ⟨lw_p7, List.forall_mem_cons.mpr ⟨lw_p8, List.forall_mem_cons.mpr ⟨lw_p9, List.forall_mem_cons.mpr ⟨lw_p10, List.forall_mem_cons.mpr ⟨lw_p11, List.forall_mem_cons.mpr ⟨lw_p12, List.forall_mem_cons.mpr ⟨lw_p13, List.forall_mem_cons.mpr ⟨lw_p14, List.forall_mem_cons.mpr ⟨lw_p15, fun _ h => absurd h List.not_mem_nil⟩⟩⟩⟩⟩⟩⟩⟩⟩⟩⟩⟩⟩⟩⟩⟩
theorem lw_p16 : lw_okq (⟨"TollGateway", "runOutHolds", "()I"⟩, 6) := ⟨⟨by decide +kernel, by decide +kernel⟩, List.mem_of_getElem? (i := 23) (by decide +kernel), List.mem_of_getElem? (i := 514) (by decide +kernel), List.mem_of_getElem? (i := 515) (by decide +kernel)⟩
theorem lw_p17 : lw_okq (⟨"TollGateway", "refillBuckets", "()V"⟩, 6) := ⟨⟨by decide +kernel, by decide +kernel⟩, List.mem_of_getElem? (i := 23) (by decide +kernel), List.mem_of_getElem? (i := 518) (by decide +kernel), List.mem_of_getElem? (i := 519) (by decide +kernel)⟩
theorem lw_p18 : lw_okq (⟨"TollGateway$Key", "refillBucket", "()V"⟩, 9) := ⟨⟨by decide +kernel, by decide +kernel⟩, List.mem_of_getElem? (i := 251) (by decide +kernel), List.mem_of_getElem? (i := 522) (by decide +kernel), List.mem_of_getElem? (i := 523) (by decide +kernel)⟩
theorem lw_p19 : lw_okq (⟨"TollGateway$Key", "refillsSlowly", "()Z"⟩, 9) := ⟨⟨by decide +kernel, by decide +kernel⟩, List.mem_of_getElem? (i := 251) (by decide +kernel), List.mem_of_getElem? (i := 526) (by decide +kernel), List.mem_of_getElem? (i := 527) (by decide +kernel)⟩
theorem lw_p20 : lw_okq (⟨"TollGatewayModel", "goesWell", "(I)Z"⟩, 23) := ⟨⟨by decide +kernel, by decide +kernel⟩, List.mem_of_getElem? (i := 587) (by decide +kernel), List.mem_of_getElem? (i := 679) (by decide +kernel), List.mem_of_getElem? (i := 680) (by decide +kernel)⟩
theorem lw_p21 : lw_okq (⟨"TollGatewayModel", "isKey", "(I)Z"⟩, 23) := ⟨⟨by decide +kernel, by decide +kernel⟩, List.mem_of_getElem? (i := 587) (by decide +kernel), List.mem_of_getElem? (i := 698) (by decide +kernel), List.mem_of_getElem? (i := 699) (by decide +kernel)⟩
theorem lw_p22 : lw_okq (⟨"TollGatewayModel", "give", "(II)V"⟩, 23) := ⟨⟨by decide +kernel, by decide +kernel⟩, List.mem_of_getElem? (i := 587) (by decide +kernel), List.mem_of_getElem? (i := 711) (by decide +kernel), List.mem_of_getElem? (i := 712) (by decide +kernel)⟩
theorem lw_p23 : lw_okq (⟨"TollGatewayModel", "leftOf", "(I)I"⟩, 23) := ⟨⟨by decide +kernel, by decide +kernel⟩, List.mem_of_getElem? (i := 587) (by decide +kernel), List.mem_of_getElem? (i := 719) (by decide +kernel), List.mem_of_getElem? (i := 720) (by decide +kernel)⟩
theorem lw_p24 : lw_okq (⟨"TollGatewayModel", "isCall", "(I)Z"⟩, 23) := ⟨⟨by decide +kernel, by decide +kernel⟩, List.mem_of_getElem? (i := 587) (by decide +kernel), List.mem_of_getElem? (i := 727) (by decide +kernel), List.mem_of_getElem? (i := 728) (by decide +kernel)⟩
theorem lw_p25 : lw_okq (⟨"TollGatewayModel", "settle", "(II)V"⟩, 23) := ⟨⟨by decide +kernel, by decide +kernel⟩, List.mem_of_getElem? (i := 587) (by decide +kernel), List.mem_of_getElem? (i := 731) (by decide +kernel), List.mem_of_getElem? (i := 732) (by decide +kernel)⟩
theorem lw_p26 : lw_okq (⟨"TollGatewayModel", "passOne", "()I"⟩, 23) := ⟨⟨by decide +kernel, by decide +kernel⟩, List.mem_of_getElem? (i := 587) (by decide +kernel), List.mem_of_getElem? (i := 743) (by decide +kernel), List.mem_of_getElem? (i := 744) (by decide +kernel)⟩
theorem lw_p27 : lw_okq (⟨"TollGatewayModel", "isSlow", "(I)Z"⟩, 23) := ⟨⟨by decide +kernel, by decide +kernel⟩, List.mem_of_getElem? (i := 587) (by decide +kernel), List.mem_of_getElem? (i := 747) (by decide +kernel), List.mem_of_getElem? (i := 748) (by decide +kernel)⟩
def lw_privs_2 : List (MethodName × Nat) := [(⟨"TollGateway", "runOutHolds", "()I"⟩, 6), (⟨"TollGateway", "refillBuckets", "()V"⟩, 6), (⟨"TollGateway$Key", "refillBucket", "()V"⟩, 9), (⟨"TollGateway$Key", "refillsSlowly", "()Z"⟩, 9), (⟨"TollGatewayModel", "goesWell", "(I)Z"⟩, 23), (⟨"TollGatewayModel", "isKey", "(I)Z"⟩, 23), (⟨"TollGatewayModel", "give", "(II)V"⟩, 23), (⟨"TollGatewayModel", "leftOf", "(I)I"⟩, 23), (⟨"TollGatewayModel", "isCall", "(I)Z"⟩, 23), (⟨"TollGatewayModel", "settle", "(II)V"⟩, 23), (⟨"TollGatewayModel", "passOne", "()I"⟩, 23), (⟨"TollGatewayModel", "isSlow", "(I)Z"⟩, 23)]
theorem lw_r2 : ∀ q ∈ lw_privs_2, lw_okq q := List.forall_mem_cons.mpr ⟨lw_p16, List.forall_mem_cons.mpr ⟨lw_p17, List.forall_mem_cons.mpr ⟨lw_p18, List.forall_mem_cons.mpr ⟨lw_p19, List.forall_mem_cons.mpr ⟨lw_p20, List.forall_mem_cons.mpr ⟨lw_p21, List.forall_mem_cons.mpr ⟨lw_p22, List.forall_mem_cons.mpr ⟨lw_p23, List.forall_mem_cons.mpr ⟨lw_p24, List.forall_mem_cons.mpr ⟨lw_p25, List.forall_mem_cons.mpr ⟨lw_p26, List.forall_mem_cons.mpr ⟨lw_p27, fun _ h => absurd h List.not_mem_nil⟩⟩⟩⟩⟩⟩⟩⟩⟩⟩⟩⟩
def lw_privs : List (MethodName × Nat) := lw_privs_1 ++ (lw_privs_2)
def lw_tbl : List Cond := k2_sels lw_privs ++ tables_1
theorem lw_privs_ok : ∀ q ∈ lw_privs, lw_okq q := by
  show ∀ q ∈ lw_privs_1 ++ (lw_privs_2), lw_okq q
  exact List.forall_mem_append.mpr ⟨lw_r1, lw_r2⟩
-- ===== end of PART A; then your names; then what follows =====
end
section
/-! ===== BEGIN words of one list among another's, by their places ===== -/
theorem goodIn_r {big : List Cond} (ws : List Cond) (ps : List Nat) (hp : ws = ps.filterMap (fun i => big[i]?)) (h : ws.all goodWord = true) : GoodIn big ws := by
  intro w hw
  have h1 := List.all_eq_true.mp h w hw
  rw [hp] at hw
  obtain ⟨i, -, hi⟩ := List.mem_filterMap.mp hw
  have hm : w ∈ big := by first | exact List.mem_of_getElem? hi | exact List.getElem?_mem hi
  exact ⟨hm, good_of_word h1⟩
theorem goodIn_app {big a b : List Cond} (ha : GoodIn big a) (hb : GoodIn big b) : GoodIn big (a ++ b) := fun w h => (List.mem_append.mp h).elim (ha w) (hb w)
theorem goodIn_ca {big a b : List Cond} {c : Cond} (ha : GoodIn big (c :: a)) (hb : GoodIn big b) : GoodIn big (c :: (a ++ b)) := fun w h => (List.mem_cons.mp h).elim (fun e => ha w (List.mem_cons.mpr (Or.inl e))) (fun h => (List.mem_append.mp h).elim (fun h => ha w (List.mem_cons.mpr (Or.inr h))) (hb w))
theorem goodIn_sub {big ws : List Cond} (hm : ∀ w ∈ ws, w ∈ big) (h : ws.all goodWord = true) : GoodIn big ws := fun w hw => ⟨hm w hw, good_of_word (List.all_eq_true.mp h w hw)⟩
/-! ===== END ===== -/

/-! ===== BEGIN exceptions that leave a method, and their catching by the caller (launches without stack traces) ===== -/
section VXA
/-! The laws vx_back, vx_callV, vx_callS, vx_callSW, vx_throw0, vx_throwS follow proofs of the library, with one case more: JvmDerived/Free/Laws.lean (Back.of_free), Shelf42/LK1.lean (callV, callS), Shelf/KitTraced.lean (throwNew0V, throwNewS). -/
/-- where a method has thrown q: the class by its name, the cell, what was written, the world -/
def vx_T (XC : String → State → State → Prop) (st : State) (q : Addr) (t : State) (mc ms : Nat) (free : Addr → Prop) : Prop :=
  ∃ (E : String) (ce : Cell) (L : List Loc), XC E st t ∧ t.heap[q]? = some ce ∧ ce.vm = .none ∧ st.vm.findClass E = some ce.cls ∧ st.WarmedH t.vm ∧ st.sameButNew ({ t with vm := st.vm } : State) L mc ms ∧ ∀ z ∈ L, free z.base
def vx_Q (Qc : Array Value → State → Outcome → State → Prop) (XC : String → State → State → Prop) (mc ms : Nat) (free : Addr → Prop) : Array Value → State → Outcome → State → Prop := fun a st o t =>
  (Qc a st o t ∧ ∃ L, FrameEnd st o t L mc ms ∧ ∀ q ∈ L, free q.base) ∨ ∃ q, o = .threw q ∧ vx_T XC st q t mc ms free
/-- a callee that returns or throws -/
def vx_Met (l : Launch) (y : MethodName) (ws : List Cond) (rm : Room) (Pc : Array Value → State → Prop) (Qc : Array Value → State → Outcome → State → Prop) (XC : String → State → State → Prop) (mc ms : Nat) (free : Addr → Prop) : Prop :=
  MetFree l y (headSpec ws rm) Pc (fun _ _ _ _ _ => True) (vx_Q Qc XC mc ms free)
def vx_Post (XC : String → State → State → Prop) (mc ms : Nat) (free : Addr → Prop) : Pt → Array Value → Addr → Pt → Prop := fun A a q B =>
  ∃ (g : JFrame) (mk : MethodId) (t : State) (L : List Loc) (E : String) (ce : Cell), B.U.heap = t.heap ∧ B.U.vm = t.vm ∧ XC E (A.U.calling g mk a) t ∧ t.heap[q]? = some ce ∧ ce.vm = .none ∧ A.U.vm.findClass E = some ce.cls ∧ B.locs = A.locs ++ L ∧ (∀ z ∈ L, free z.base) ∧ B.cells = A.cells + mc ∧ B.slots = A.slots + ms
def vx_Back (l : Launch) (R : Room) (p : Program) (e : Env) (below : List Frame) (s : State) (sargs : Array Value) (y : MethodName) (len W9 : Nat)
    (Pre : Pt → Array Value → Prop) (Post : Pt → Array Value → Option Value → Pt → Prop) (PostX : Pt → Array Value → Addr → Pt → Prop) : Prop :=
  ∀ (m : MethodId) (meth : Method) (c : Code) (A : Pt) (g : JFrame) (ig : Instr) (mk : MethodId) (a : Array Value),
    Stand p l e R s m sargs below meth c A.U A.locs A.cells A.slots → g.method = m → g.locals.size = c.maxLocals → decode c.code g.pc = .ok (ig, len) →
    2 * g.monitorRoom + (g.stack.map fun v => v.category).sum ≤ W9 → A.U.methodNamed? y = some mk → Pre A a →
    (∃ (v : Option Value) (B : Pt), Stand p l e R s m sargs below meth c B.U B.locs B.cells B.slots ∧ Post A a v B ∧
      Steps p.tables e below (doInvoke e (A.U.setTop g) [] mk a).1 (B.U.setTop { g with pc := g.pc + len, stack := v.toList ++ g.stack })) ∨
    (∃ (q : Addr) (B : Pt), Stand p l e R s m sargs below meth c B.U B.locs B.cells B.slots ∧ PostX A a q B ∧
      Steps p.tables e below (doInvoke e (A.U.setTop g) [] mk a).1 ((B.U.setTop g).pushFrame (.throwing q)))
section Payer
variable {l : Launch} {R : Room} {p : Program} {e : Env} {below : List Frame} {s : State} {sargs : Array Value} {y : MethodName} {len W9 : Nat}
theorem vx_back {ws : List Cond} {rm : Room} {Pc : Array Value → State → Prop} {Qc : Array Value → State → Outcome → State → Prop} {XC : String → State → State → Prop} {mc ms : Nat} {free : Addr → Prop} {bytes : ByteArray} {maxL : Nat} {ret : Option FieldType}
    (hM : vx_Met l y ws rm Pc Qc XC mc ms free) (hblind : FrameBlind Pc) (hrc : rm.cells = mc) (hrs : rm.slots = ms)
    (hframes : rm.frames + 1 ≤ R.frames) (hlocals : W9 + (maxL + 11) + rm.locals ≤ R.locals)
    (hws : ∀ w ∈ ws, ∀ a' U, s.WarmedH U.vm → w.before a' U = true) (hcode : Cond.code y bytes maxL ret ∈ ws) (hinit : ∀ a' U, s.WarmedH U.vm → (Cond.initialized y.cls).before a' U = true) :
    vx_Back l R p e below s sargs y len W9 (PreOf R mc ms Pc) (PostOf Qc mc ms free) (vx_Post XC mc ms free) := by
  intro m meth c A g ig mk a X hg hsize hdg hW hn hp
  have h1 : (headSpec ws rm).pre.before a A.U = true := atoms_intro fun w hw => hws w hw _ _ X.warmed
  have h2 : (Cond.code y bytes maxL ret).before a A.U = true := hws _ hcode _ _ X.warmed
  have h3 : (Cond.initialized y.cls).before a A.U = true := hinit _ _ X.warmed
  have h4 : A.cells + (headSpec ws rm).room.cells ≤ R.cells := by rw [show (headSpec ws rm).room.cells = mc from hrc]; exact hp.1
  have h5 : A.slots + (headSpec ws rm).room.slots ≤ R.slots := by rw [show (headSpec ws rm).room.slots = ms from hrs]; exact hp.2.1
  have hPc : Pc a (A.U.calling g mk a) := hblind _ _ _ _ hp.2.2
  obtain ⟨U, Ls, c0, s0⟩ := A
  dsimp only [Pt.U, Pt.locs, Pt.cells, Pt.slots] at h1 h2 h3 h4 h5 X hn hPc ⊢
  obtain ⟨methY, cY, hmY, hcY, -, hlY, -, -, -, -⟩ := Cond.code_spec hn h2
  obtain ⟨kY, hkY, -⟩ := className_of_methodNamed hn
  have hinitY : kY.init = .initialized := Cond.initialized_spec (findClass_of_methodNamed hn) hkY h3
  have h : At U g.method c below := by rw [hg]; exact X.here
  have hlocals9 : W9 + (maxL + 11) + (headSpec ws rm).room.locals ≤ R.locals := hlocals
  have happ : (headSpec ws rm).appliesLoose y e.platform (U.calling g mk a) = true :=
    Spec.appliesLoose_calling (g := g) h hdg hn hkY hinitY
      (X.room_calling (g := g) (R' := (headSpec ws rm).room) hsize hmY hcY hframes (by rw [hlY]; omega) h4 h5) h1
  obtain ⟨mid, hmid⟩ := h.above
  have hfr : (U.setTop g).frames = (.java g :: mid) ++ below := by rw [State.frames_setTop' g h.top, hmid]; rfl
  obtain ⟨o, s₂, hsteps, -, hend, hq⟩ := Steps.callFree hM p X.admits X.cas X.clock (acts := []) hfr happ hPc trivial
  have hq' : vx_Q Qc XC mc ms free a (U.calling g mk a) o s₂ := hq
  rw [State.frames_setTop' g h.top] at hend
  obtain ⟨g₀, hg0⟩ := Option.isSome_iff_exists.mp h.top
  obtain ⟨r, hr⟩ := State.topJava?_eq_some.mp hg0
  have hr' : (({ U with heap := s₂.heap, slotsUsed := s₂.slotsUsed } : State).setVm s₂.vm).frames = .java g₀ :: r := hr
  rcases hq' with ⟨hqc, L, hfe, hL⟩ | ⟨q, rfl, E, ce, L, hx, hce, hcv, hcl, hW₂, hsm, hL⟩
  · obtain ⟨⟨v, rfl⟩, hW₂, e2, q2, q3, q4, q5, q6⟩ := id hfe
    have e3 : s₂ = ({ (U.calling g mk a).setFrames s₂.frames with heap := s₂.heap, slotsUsed := s₂.slotsUsed } : State).setVm s₂.vm := by
      have : s₂ = ({ s₂ with vm := (U.calling g mk a).vm } : State).setVm s₂.vm := rfl
      rw [e2] at this
      exact this
    obtain ⟨c₂, i₂, len₂, hc₂, hd₂, hf₂⟩ := hend
    have hW' : U.WarmedH s₂.vm := hW₂
    have hcc : c₂ = c := by
      have h1 : s₂.code? g.method = U.code? g.method := by
        rw [State.code?_eq, State.code?_eq, hW'.alike.method?]
      exact Option.some.inj (hc₂.symm.trans (h1.trans h.code))
    subst hcc
    have hlen : len₂ = len := by rw [hdg] at hd₂; cases hd₂; rfl
    subst hlen
    have hs₂ : s₂ = (({ U with heap := s₂.heap, slotsUsed := s₂.slotsUsed } : State).setVm s₂.vm).setTop { g with pc := g.pc + len₂, stack := v.toList ++ g.stack } := by
      refine e3.trans ?_
      rw [hf₂, State.calling_eq h.top, State.setFrames_setFrames, State.setTop_of_frames _ hr', hr]
      rfl
    have hsame : U.sameButNew ({ U with heap := s₂.heap, slotsUsed := s₂.slotsUsed } : State) L mc ms := by
      refine ⟨?_, q2, q3, q4, q5, q6⟩
      obtain ⟨t, ht, -⟩ := State.frames_cons hr
      show ({ U with heap := s₂.heap, slotsUsed := s₂.slotsUsed } : State) = { U.setFrames U.frames with heap := s₂.heap, slotsUsed := s₂.slotsUsed }
      rw [State.setFrames_self ht]
    subst hg
    refine Or.inl ⟨v, ⟨(({ U with heap := s₂.heap, slotsUsed := s₂.slotsUsed } : State).setVm s₂.vm), Ls ++ L, c0 + mc, s0 + ms⟩,
      ⟨X.admits, X.cas, X.clock, X.frames, X.room, X.hears, X.method, X.code, (X.here.setHeapUsed s₂.heap s₂.slotsUsed).setVm hW'.alike, X.tail, State.WarmedH.trans X.warmed hW', X.limits, X.bytes, X.same.trans (hsame.setVm s.vm)⟩,
      ⟨g, mk, s₂, L, rfl, rfl, hqc, rfl, hL, rfl, rfl⟩, ?_⟩
    show Steps p.tables e below _ ((({ U with heap := s₂.heap, slotsUsed := s₂.slotsUsed } : State).setVm s₂.vm).setTop { g with pc := g.pc + len₂, stack := v.toList ++ g.stack })
    rw [← hs₂]
    exact hsteps
  · obtain ⟨e2, q2, q3, q4, q5, q6⟩ := id hsm
    have e3 : s₂ = ({ (U.calling g mk a).setFrames s₂.frames with heap := s₂.heap, slotsUsed := s₂.slotsUsed } : State).setVm s₂.vm := by
      have : s₂ = ({ s₂ with vm := (U.calling g mk a).vm } : State).setVm s₂.vm := rfl
      rw [e2] at this
      exact this
    have hf₂ : s₂.frames = .throwing q :: .java g :: U.frames.tail := hend
    have hW' : U.WarmedH s₂.vm := hW₂
    have hs₂ : s₂ = ((({ U with heap := s₂.heap, slotsUsed := s₂.slotsUsed } : State).setVm s₂.vm).setTop g).pushFrame (.throwing q) := by
      refine e3.trans ?_
      rw [hf₂, State.calling_eq h.top, State.setFrames_setFrames, State.pushFrame, State.frames_setTop _ hr', State.setTop_of_frames _ hr', State.setFrames_setFrames, hr]
      rfl
    have hsame : U.sameButNew ({ U with heap := s₂.heap, slotsUsed := s₂.slotsUsed } : State) L mc ms := by
      refine ⟨?_, q2, q3, q4, q5, q6⟩
      obtain ⟨t, ht, -⟩ := State.frames_cons hr
      show ({ U with heap := s₂.heap, slotsUsed := s₂.slotsUsed } : State) = { U.setFrames U.frames with heap := s₂.heap, slotsUsed := s₂.slotsUsed }
      rw [State.setFrames_self ht]
    subst hg
    refine Or.inr ⟨q, ⟨(({ U with heap := s₂.heap, slotsUsed := s₂.slotsUsed } : State).setVm s₂.vm), Ls ++ L, c0 + mc, s0 + ms⟩,
      ⟨X.admits, X.cas, X.clock, X.frames, X.room, X.hears, X.method, X.code, (X.here.setHeapUsed s₂.heap s₂.slotsUsed).setVm hW'.alike, X.tail, State.WarmedH.trans X.warmed hW', X.limits, X.bytes, X.same.trans (hsame.setVm s.vm)⟩,
      ⟨g, mk, s₂, L, E, ce, rfl, rfl, hx, hce, hcv, hcl, rfl, hL, rfl, rfl⟩, ?_⟩
    show Steps p.tables e below _ (((({ U with heap := s₂.heap, slotsUsed := s₂.slotsUsed } : State).setVm s₂.vm).setTop g).pushFrame (.throwing q))
    rw [← hs₂]
    exact hsteps
end Payer
section Calls
variable {p : Program} {l : Launch} {e : Env} {R : Room} {s : State} {m : MethodId} {args : Array Value} {below : List Frame} {meth : Method} {c : Code} {T : State} {locs : List Loc} {cells slots : Nat}
theorem vx_callV (X : Stand p l e R s m args below meth c T locs cells slots) (hexec : p.tables.exec = Jvm.exec) {own C : String} {index : Nat} {y : MethodName} {bytes : ByteArray} {maxL : Nat} {ret : Option FieldType}
    (hown : s.vm.findClass own = some m.cls) (hlink : (Cond.methodLink own index y).before args s = true) (hinst : (Cond.instanceMethod y).before args s = true) (hsel : (Cond.selects C y y).before args s = true)
    (hcode : (Cond.code y bytes maxL ret).before args s = true) (hy : y.cls ≠ "java/lang/invoke/MethodHandle" ∧ y.cls ≠ "java/lang/invoke/VarHandle")
    {W9 : Nat} {Pre : Pt → Array Value → Prop} {Post : Pt → Array Value → Option Value → Pt → Prop} {PostX : Pt → Array Value → Addr → Pt → Prop} (hK : vx_Back l R p e below s args y 3 W9 Pre Post PostX)
    {b : Addr} {cellB : Cell} (hcell : T.heap[b]? = some cellB) (hobj : cellB.vm.isStatics = false) (hcls : s.vm.findClass C = some cellB.cls)
    {g : JFrame} (hg : g.method = m) (hsize : g.locals.size = c.maxLocals) {argsL rest : List Value} (hlen : ∀ sig, parseMethodDescriptor y.desc = some sig → argsL.length = sig.parameters.length)
    (hstack : g.stack = argsL.reverse ++ .ref b :: rest) (hW : 2 * g.monitorRoom + (rest.map fun v => v.category).sum ≤ W9) (hdg : decode c.code g.pc = .ok (.invokevirtual index, 3))
    (hpre : ∀ vm₁, s.WarmedH vm₁ → Pre ⟨T.setVm vm₁, locs, cells, slots⟩ (Value.ref b :: argsL).toArray) :
    (∃ (v : Option Value) (vm₁ : Vm) (B : Pt), s.WarmedH vm₁ ∧ Stand p l e R s m args below meth c B.U B.locs B.cells B.slots ∧ Post ⟨T.setVm vm₁, locs, cells, slots⟩ (Value.ref b :: argsL).toArray v B ∧
      ∀ target, Steps p.tables e below (B.U.setTop { g with pc := g.pc + 3, stack := v.toList ++ rest }) target → Steps p.tables e below (T.setTop g) target) ∨
    (∃ (q : Addr) (vm₁ : Vm) (B : Pt), s.WarmedH vm₁ ∧ Stand p l e R s m args below meth c B.U B.locs B.cells B.slots ∧ PostX ⟨T.setVm vm₁, locs, cells, slots⟩ (Value.ref b :: argsL).toArray q B ∧
      Steps p.tables e below (T.setTop g) ((B.U.setTop { g with stack := rest }).pushFrame (.throwing q))) := by
  obtain ⟨mk, methM, hnamed, hmethM, hstM, habM⟩ := Cond.instanceMethod_spec hinst
  obtain ⟨methM', cM, hmethM', -, -, -, -, -, -, hsigM⟩ := Cond.code_spec hnamed hcode
  cases hmethM.symm.trans hmethM'
  obtain ⟨c2, r2, m2, q1, q2, q3, q4, kP, hkP, hkPi⟩ := Cond.selects_spec hsel
  cases hcls.symm.trans q1
  cases (State.methodFound?_of_named hnamed hy).symm.trans q2
  cases hnamed.symm.trans q3
  have hselP : selectMethod e.platform s.vm cellB.cls mk = .method mk := by rw [Launch.admits_selectMethod X.admits]; exact q4
  obtain ⟨vm₁, X₁, hstep₁⟩ := X.invokevirtual hexec hown hlink hnamed hmethM hstM hkP hkPi hy (a := b) (cell := cellB) hcell
    (fun z h => by rw [h] at hobj; cases hobj) hselP hmethM habM hkP hkPi (g := g) hg (argsL := argsL) (rest := rest) (hlen _ hsigM) hstack hdg
  rcases hK m meth c ⟨T.setVm vm₁, locs, cells, slots⟩ { g with stack := rest } (.invokevirtual index) mk (Value.ref b :: argsL).toArray X₁ hg hsize hdg hW (X₁.named hnamed) (hpre vm₁ X₁.warmed) with ⟨v, B, X', hpost, hsteps⟩ | ⟨q, B, X', hpost, hsteps⟩
  · exact Or.inl ⟨v, vm₁, B, X₁.warmed, X', hpost, fun target h => hstep₁ _ fun acts => by rw [doInvoke_state]; exact hsteps.trans h⟩
  · exact Or.inr ⟨q, vm₁, B, X₁.warmed, X', hpost, hstep₁ _ fun acts => by rw [doInvoke_state]; exact hsteps⟩
theorem vx_callS (X : Stand p l e R s m args below meth c T locs cells slots) (hexec : p.tables.exec = Jvm.exec) {own : String} {index : Nat} {y : MethodName} {bytes : ByteArray} {maxL : Nat} {ret : Option FieldType}
    (hown : s.vm.findClass own = some m.cls) (hlink : (Cond.methodLink own index y).before args s = true) (hstat : (Cond.static y).before args s = true) (hinit : (Cond.initialized y.cls).before args s = true)
    (hcode : (Cond.code y bytes maxL ret).before args s = true) (hy : y.cls ≠ "java/lang/invoke/MethodHandle" ∧ y.cls ≠ "java/lang/invoke/VarHandle")
    {W9 : Nat} {Pre : Pt → Array Value → Prop} {Post : Pt → Array Value → Option Value → Pt → Prop} {PostX : Pt → Array Value → Addr → Pt → Prop} (hK : vx_Back l R p e below s args y 3 W9 Pre Post PostX)
    {g : JFrame} (hg : g.method = m) (hsize : g.locals.size = c.maxLocals) {argsL rest : List Value} (hlen : ∀ sig, parseMethodDescriptor y.desc = some sig → argsL.length = sig.parameters.length)
    (hstack : g.stack = argsL.reverse ++ rest) (hW : 2 * g.monitorRoom + (rest.map fun v => v.category).sum ≤ W9) (hdg : decode c.code g.pc = .ok (.invokestatic index, 3))
    (hpre : ∀ vm₁, s.WarmedH vm₁ → Pre ⟨T.setVm vm₁, locs, cells, slots⟩ argsL.toArray) :
    (∃ (v : Option Value) (vm₁ : Vm) (B : Pt), s.WarmedH vm₁ ∧ Stand p l e R s m args below meth c B.U B.locs B.cells B.slots ∧ Post ⟨T.setVm vm₁, locs, cells, slots⟩ argsL.toArray v B ∧
      ∀ target, Steps p.tables e below (B.U.setTop { g with pc := g.pc + 3, stack := v.toList ++ rest }) target → Steps p.tables e below (T.setTop g) target) ∨
    (∃ (q : Addr) (vm₁ : Vm) (B : Pt), s.WarmedH vm₁ ∧ Stand p l e R s m args below meth c B.U B.locs B.cells B.slots ∧ PostX ⟨T.setVm vm₁, locs, cells, slots⟩ argsL.toArray q B ∧
      Steps p.tables e below (T.setTop g) ((B.U.setTop { g with stack := rest }).pushFrame (.throwing q))) := by
  obtain ⟨mk, hnamed⟩ := Cond.code_named hcode
  obtain ⟨methM, cM, hmethM, -, -, -, -, -, -, hsigM⟩ := Cond.code_spec hnamed hcode
  have hstatic : methM.isStatic = true := Cond.static_spec hnamed hmethM hstat
  obtain ⟨kP, hkP, -⟩ := className_of_methodNamed hnamed
  have hinitP : kP.init = .initialized := Cond.initialized_spec (findClass_of_methodNamed hnamed) hkP hinit
  obtain ⟨vm₁, X₁, hstep₁⟩ := X.invokestatic hexec hown hlink hnamed hmethM hstatic hkP hinitP hy (g := g) hg (argsL := argsL) (rest := rest) (hlen _ hsigM) hstack hdg
  rcases hK m meth c ⟨T.setVm vm₁, locs, cells, slots⟩ { g with stack := rest } (.invokestatic index) mk argsL.toArray X₁ hg hsize hdg hW (X₁.named hnamed) (hpre vm₁ X₁.warmed) with ⟨v, B, X', hpost, hsteps⟩ | ⟨q, B, X', hpost, hsteps⟩
  · exact Or.inl ⟨v, vm₁, B, X₁.warmed, X', hpost, fun target h => hstep₁ _ fun acts => by rw [doInvoke_state]; exact hsteps.trans h⟩
  · exact Or.inr ⟨q, vm₁, B, X₁.warmed, X', hpost, hstep₁ _ fun acts => by rw [doInvoke_state]; exact hsteps⟩
end Calls
theorem vx_cls {s : State} {T : State} {vm₁ : Vm} {E : String} {k : ClassId} (hW : s.WarmedH vm₁) (h : (T.setVm vm₁).vm.findClass E = some k) : s.vm.findClass E = some k := by
  have h1 : vm₁.findClass E = some k := h
  rw [hW.alike.findClass] at h1
  exact h1
/-- the method's frame g, with q thrown over it -/
def vx_W (p : Program) (l : Launch) (e : Env) (R : Room) (s : State) (m : MethodId) (args : Array Value) (below : List Frame) (meth : Method) (c : Code) (H : Heap) (locs : List Loc) (cells slots : Nat) (Q : State → Prop) (g : JFrame) (q : Addr) : Prop :=
  ∀ T : State, T.heap = H → Stand p l e R s m args below meth c T locs cells slots → ∃ t, Steps p.tables e below ((T.setTop g).pushFrame (.throwing q)) t ∧ Q t
def vx_Run (p : Program) (l : Launch) (e : Env) (R : Room) (s : State) (m : MethodId) (args : Array Value) (below : List Frame) (meth : Method) (c : Code) (H : Heap) (locs : List Loc) (cells slots mc ms : Nat) (g : JFrame) (rest : List Value) (Qa : State → Outcome → State → Prop) (XC : String → State → State → Prop) (free : Addr → Prop) : Prop :=
  ∀ T : State, T.heap = H → Stand p l e R s m args below meth c T locs cells slots →
    (∃ (v : Option Value) (st₀ t T' : State) (L : List Loc), st₀.heap = H ∧ Stand p l e R s m args below meth c T' (locs ++ L) (cells + mc) (slots + ms) ∧ (∀ q ∈ L, free q.base) ∧ T'.heap = t.heap ∧ T'.vm = t.vm ∧ Qa st₀ (.returned v) t ∧
      Goes p e below T g T' { g with pc := g.pc + 3, stack := v.toList ++ rest }) ∨
    (∃ (q : Addr) (st₀ t T' : State) (L : List Loc) (E : String) (ce : Cell), st₀.heap = H ∧ Stand p l e R s m args below meth c T' (locs ++ L) (cells + mc) (slots + ms) ∧ (∀ z ∈ L, free z.base) ∧ T'.heap = t.heap ∧ T'.vm = t.vm ∧ XC E st₀ t ∧ t.heap[q]? = some ce ∧ ce.vm = .none ∧ s.vm.findClass E = some ce.cls ∧
      Steps p.tables e below (T.setTop g) ((T'.setTop { g with stack := rest }).pushFrame (.throwing q)))
def vx_X {S : Type} (px : S → Prop) (B : String → S → State → Prop) (A : Nat → Prop) : String → State → State → Prop := fun E st t => ∃ u : S, px u ∧ B E u t ∧ va_F A st t
section Runs
variable {p : Program} {l : Launch} {e : Env} {R : Room} {s : State} {m : MethodId} {args : Array Value} {below : List Frame} {meth : Method} {c : Code} {H : Heap} {locs : List Loc} {cells slots : Nat}
variable {y : MethodName} {bytes cc : ByteArray} {maxL nL mc ms n index : Nat} {ret : Option FieldType} {ws : List Cond} {rm : Room} {Pc : Array Value → State → Prop} {Qc : Array Value → State → Outcome → State → Prop} {XC : String → State → State → Prop} {free : Addr → Prop} {Ts : List Cond} {own C : String} {b : Addr} {As rest : List Value} {g : JFrame}
theorem vx_callBack (cb : CallB R s args own index y bytes maxL ret ws rm mc ms n) (hM : vx_Met l y ws rm Pc Qc XC mc ms free) (hbl : FrameBlind Pc) : vx_Back l R p e below s args y 3 8 (PreOf R mc ms Pc) (PostOf Qc mc ms free) (vx_Post XC mc ms free) := by
  obtain ⟨hrc, hrs, hfr, hlo, hws, hcw, -, hini, -⟩ := cb
  exact vx_back (bytes := bytes) (maxL := maxL) (ret := ret) hM hbl hrc hrs hfr hlo hws hcw (fun a' U hW => word_at hW (Or.inl (by first | rfl | simp [Cond.onTables, Cond.keeps, Cond.steady])) hini)
theorem vx_runV (S : CallFix p m c cc nL s args Ts own) (hM : vx_Met l y ws rm Pc Qc XC mc ms free) (cw : CallW R s args own C index y bytes maxL ret ws rm mc ms n) (hp : PreV s H C b Pc As)
    (hg : g.method = m) (hn : As.length = n) (hsize : g.locals.size = nL) (hstack : g.stack = As.reverse ++ .ref b :: rest) (hW : 2 * g.monitorRoom + (rest.map fun v => v.category).sum ≤ 8) (hdg : decode cc g.pc = .ok (.invokevirtual index, 3)) (hf : cells + mc ≤ R.cells ∧ slots + ms ≤ R.slots) :
    vx_Run p l e R s m args below meth c H locs cells slots mc ms g rest (Qc (Value.ref b :: As).toArray) XC free := by
  have hK : vx_Back l R p e below s args y 3 8 (PreOf R mc ms Pc) (PostOf Qc mc ms free) (vx_Post XC mc ms free) := vx_callBack cw.1 hM hp.1
  obtain ⟨⟨-, -, -, -, -, -, hcode, -, hy, hlen, hl⟩, hin, hse⟩ := cw
  obtain ⟨hx, hb, hml, ho, -⟩ := S
  obtain ⟨-, ⟨cellB, hcB, hoB, hclB⟩, hPc⟩ := hp
  intro T hT X
  rcases vx_callV X hx (C := C) (bytes := bytes) (maxL := maxL) (ret := ret) ho hl hin hse hcode hy hK (by rw [hT]; exact hcB) hoB hclB hg (hsize.trans hml.symm) (argsL := As) (rest := rest) (fun sig h => hn.trans (hlen sig h)) hstack hW (by rw [hb]; exact hdg)
    (fun vm₁ hW₁ => ⟨hf.1, hf.2, hPc (T.setVm vm₁) hT hW₁⟩) with ⟨v, vm₁, ⟨U', l2, c2, s2⟩, hW₁, X', ⟨g', mk, t, L, e1, e2, hq, h1, hL, h2, h3⟩, st⟩ | ⟨q, vm₁, ⟨U', l2, c2, s2⟩, hW₁, X', ⟨g', mk, t, L, E, ce, e1, e2, hq, hce, hcv, hcl, h1, hL, h2, h3⟩, st⟩
  · dsimp only [Pt.U, Pt.locs, Pt.cells, Pt.slots] at X' e1 e2 h1 h2 h3 st
    subst h1; subst h2; subst h3
    exact Or.inl ⟨v, (T.setVm vm₁).calling g' mk (Value.ref b :: As).toArray, t, U', L, hT, X', hL, e1, e2, hq, st⟩
  · dsimp only [Pt.U, Pt.locs, Pt.cells, Pt.slots] at X' e1 e2 h1 h2 h3 st hcl
    subst h1; subst h2; subst h3
    exact Or.inr ⟨q, (T.setVm vm₁).calling g' mk (Value.ref b :: As).toArray, t, U', L, E, ce, hT, X', hL, e1, e2, hq, hce, hcv, vx_cls hW₁ hcl, st⟩
theorem vx_runS (S : CallFix p m c cc nL s args Ts own) (hM : vx_Met l y ws rm Pc Qc XC mc ms free) (cw : CallB R s args own index y bytes maxL ret ws rm mc ms n ∧ (Cond.static y).before args s = true) (hp : PreS s H Pc As)
    (hg : g.method = m) (hn : As.length = n) (hsize : g.locals.size = nL) (hstack : g.stack = As.reverse ++ rest) (hW : 2 * g.monitorRoom + (rest.map fun v => v.category).sum ≤ 8) (hdg : decode cc g.pc = .ok (.invokestatic index, 3)) (hf : cells + mc ≤ R.cells ∧ slots + ms ≤ R.slots) :
    vx_Run p l e R s m args below meth c H locs cells slots mc ms g rest (Qc As.toArray) XC free := by
  have hK : vx_Back l R p e below s args y 3 8 (PreOf R mc ms Pc) (PostOf Qc mc ms free) (vx_Post XC mc ms free) := vx_callBack cw.1 hM hp.1
  obtain ⟨⟨-, -, -, -, -, -, hcode, hini, hy, hlen, hl⟩, hstt⟩ := cw
  obtain ⟨hx, hb, hml, ho, -⟩ := S
  intro T hT X
  rcases vx_callS X hx (bytes := bytes) (maxL := maxL) (ret := ret) ho hl hstt hini hcode hy hK hg (hsize.trans hml.symm) (argsL := As) (rest := rest) (fun sig h => hn.trans (hlen sig h)) hstack hW (by rw [hb]; exact hdg)
    (fun vm₁ hW₁ => ⟨hf.1, hf.2, hp.2 (T.setVm vm₁) hT hW₁⟩) with ⟨v, vm₁, ⟨U', l2, c2, s2⟩, hW₁, X', ⟨g', mk, t, L, e1, e2, hq, h1, hL, h2, h3⟩, st⟩ | ⟨q, vm₁, ⟨U', l2, c2, s2⟩, hW₁, X', ⟨g', mk, t, L, E, ce, e1, e2, hq, hce, hcv, hcl, h1, hL, h2, h3⟩, st⟩
  · dsimp only [Pt.U, Pt.locs, Pt.cells, Pt.slots] at X' e1 e2 h1 h2 h3 st
    subst h1; subst h2; subst h3
    exact Or.inl ⟨v, (T.setVm vm₁).calling g' mk As.toArray, t, U', L, hT, X', hL, e1, e2, hq, st⟩
  · dsimp only [Pt.U, Pt.locs, Pt.cells, Pt.slots] at X' e1 e2 h1 h2 h3 st hcl
    subst h1; subst h2; subst h3
    exact Or.inr ⟨q, (T.setVm vm₁).calling g' mk As.toArray, t, U', L, E, ce, hT, X', hL, e1, e2, hq, hce, hcv, vx_cls hW₁ hcl, st⟩
end Runs
section Rows
variable {p : Program} {l : Launch} {e : Env} {R : Room} {s : State} {m : MethodId} {args : Array Value} {below : List Frame} {meth : Method} {c : Code} {H : Heap} {locs : List Loc} {cells slots : Nat} {Q : State → Prop}
variable {mc ms : Nat} {free : Addr → Prop} {A0 A1 : Nat → Prop} {H0 : Heap} {a : Array Value} {pc : Nat} {ls : Array Slot} {st0 rest : List Value}
theorem vx_keep {st₀ t T' : State} {L : List Loc} (h0 : st₀.heap = H) (e1 : T'.heap = t.heap) (hS : va_S A0 H0 H locs) (hA : ∀ q, q < H.size → A1 q → A0 q) (hf : ∀ q, free q → A0 q) (hL : ∀ q ∈ L, free q.base) (hF : va_F A1 st₀ t) :
    H.size ≤ T'.heap.size ∧ (∀ q : Nat, q < H.size → ¬ A1 q → T'.heap[q]? = H[q]?) ∧ va_S A0 H0 T'.heap (locs ++ L) := by
  obtain ⟨hz, hk⟩ := hF
  rw [h0] at hz hk
  exact ⟨by rw [e1]; exact hz, fun q h1 h2 => by rw [e1]; exact hk q h1 h2,
    ⟨Nat.le_trans hS.1 (by rw [e1]; exact hz), fun q h1 h2 => by rw [e1, hk q (Nat.lt_of_lt_of_le h1 hS.1) (fun z => h2 (hA q (Nat.lt_of_lt_of_le h1 hS.1) z))]; exact hS.2.1 q h1 h2, fun q hq => by
      rcases List.mem_append.mp hq with h | h
      · exact hS.2.2 q h
      · exact hf _ (hL q h)⟩⟩
theorem vx_calli {S SX : Type} {post : Int32 → S → Prop} {px : SX → Prop} {B : S → State → Prop} {BX : String → SX → State → Prop} {AX : Nat → Prop} (hr : vx_Run p l e R s m args below meth c H locs cells slots mc ms (F0 m pc ls st0) rest (va_Qi post B A1 a) (vx_X px BX AX) free) (hS : va_S A0 H0 H locs) (hA : ∀ q, q < H.size → A1 q → A0 q) (hf : ∀ q, free q → A0 q) (hAX : ∀ q, q < H.size → AX q → A0 q)
    (kx : ∀ (E : String) (ce : Cell) (q9 : Addr) (u : SX) (t : State) (H1 : Heap) (locs1 : List Loc), t.heap = H1 → s.vm.Alike t.vm → px u → BX E u t → H.size ≤ H1.size → (∀ q : Nat, q < H.size → ¬ AX q → H1[q]? = H[q]?) → va_S A0 H0 H1 locs1 → H1[q9]? = some ce → ce.vm = .none → s.vm.findClass E = some ce.cls → vx_W p l e R s m args below meth c H1 locs1 (cells + mc) (slots + ms) Q (F0 m pc ls rest) q9)
    (kk : ∀ (r : Int32) (u : S) (t : State) (H1 : Heap) (locs1 : List Loc), t.heap = H1 → s.vm.Alike t.vm → post r u → B u t → H.size ≤ H1.size → (∀ q : Nat, q < H.size → ¬ A1 q → H1[q]? = H[q]?) → va_S A0 H0 H1 locs1 → W p l e R s m args below meth c H1 locs1 (cells + mc) (slots + ms) Q (F0 m (pc + 3) ls (.int r :: rest))) : W p l e R s m args below meth c H locs cells slots Q (F0 m pc ls st0) := by
  intro T hT X
  rcases hr T hT X with ⟨v, st₀, t, T', L, h0, X', hL, e1, e2, ⟨⟨r, u, hv, hp, hb⟩, hF⟩, st⟩ | ⟨q, st₀, t, T', L, E, ce, h0, X', hL, e1, e2, ⟨u, hp, hb, hF⟩, hce, hcv, hcl, st⟩
  · cases hv
    obtain ⟨k1, k2, k3⟩ := vx_keep h0 e1 hS hA hf hL hF
    obtain ⟨t2, a1, b1⟩ := kk r u t T'.heap (locs ++ L) e1.symm (by rw [← e2]; exact X'.warmed.alike) hp hb k1 k2 k3 T' rfl X'
    exact ⟨t2, st t2 a1, b1⟩
  · obtain ⟨k1, k2, k3⟩ := vx_keep h0 e1 hS hAX hf hL hF
    obtain ⟨t2, a1, b1⟩ := kx E ce q u t T'.heap (locs ++ L) e1.symm (by rw [← e2]; exact X'.warmed.alike) hp hb k1 k2 k3 (by rw [e1]; exact hce) hcv hcl T' rfl X'
    exact ⟨t2, st.trans a1, b1⟩
theorem vx_calll {S SX : Type} {post : Int64 → S → Prop} {px : SX → Prop} {B : S → State → Prop} {BX : String → SX → State → Prop} {AX : Nat → Prop} (hr : vx_Run p l e R s m args below meth c H locs cells slots mc ms (F0 m pc ls st0) rest (va_Ql post B A1 a) (vx_X px BX AX) free) (hS : va_S A0 H0 H locs) (hA : ∀ q, q < H.size → A1 q → A0 q) (hf : ∀ q, free q → A0 q) (hAX : ∀ q, q < H.size → AX q → A0 q)
    (kx : ∀ (E : String) (ce : Cell) (q9 : Addr) (u : SX) (t : State) (H1 : Heap) (locs1 : List Loc), t.heap = H1 → s.vm.Alike t.vm → px u → BX E u t → H.size ≤ H1.size → (∀ q : Nat, q < H.size → ¬ AX q → H1[q]? = H[q]?) → va_S A0 H0 H1 locs1 → H1[q9]? = some ce → ce.vm = .none → s.vm.findClass E = some ce.cls → vx_W p l e R s m args below meth c H1 locs1 (cells + mc) (slots + ms) Q (F0 m pc ls rest) q9)
    (kk : ∀ (r : Int64) (u : S) (t : State) (H1 : Heap) (locs1 : List Loc), t.heap = H1 → s.vm.Alike t.vm → post r u → B u t → H.size ≤ H1.size → (∀ q : Nat, q < H.size → ¬ A1 q → H1[q]? = H[q]?) → va_S A0 H0 H1 locs1 → W p l e R s m args below meth c H1 locs1 (cells + mc) (slots + ms) Q (F0 m (pc + 3) ls (.long r :: rest))) : W p l e R s m args below meth c H locs cells slots Q (F0 m pc ls st0) := by
  intro T hT X
  rcases hr T hT X with ⟨v, st₀, t, T', L, h0, X', hL, e1, e2, ⟨⟨r, u, hv, hp, hb⟩, hF⟩, st⟩ | ⟨q, st₀, t, T', L, E, ce, h0, X', hL, e1, e2, ⟨u, hp, hb, hF⟩, hce, hcv, hcl, st⟩
  · cases hv
    obtain ⟨k1, k2, k3⟩ := vx_keep h0 e1 hS hA hf hL hF
    obtain ⟨t2, a1, b1⟩ := kk r u t T'.heap (locs ++ L) e1.symm (by rw [← e2]; exact X'.warmed.alike) hp hb k1 k2 k3 T' rfl X'
    exact ⟨t2, st t2 a1, b1⟩
  · obtain ⟨k1, k2, k3⟩ := vx_keep h0 e1 hS hAX hf hL hF
    obtain ⟨t2, a1, b1⟩ := kx E ce q u t T'.heap (locs ++ L) e1.symm (by rw [← e2]; exact X'.warmed.alike) hp hb k1 k2 k3 (by rw [e1]; exact hce) hcv hcl T' rfl X'
    exact ⟨t2, st.trans a1, b1⟩
theorem vx_callf {S SX : Type} {post : UInt32 → S → Prop} {px : SX → Prop} {B : S → State → Prop} {BX : String → SX → State → Prop} {AX : Nat → Prop} (hr : vx_Run p l e R s m args below meth c H locs cells slots mc ms (F0 m pc ls st0) rest (va_Qf post B A1 a) (vx_X px BX AX) free) (hS : va_S A0 H0 H locs) (hA : ∀ q, q < H.size → A1 q → A0 q) (hf : ∀ q, free q → A0 q) (hAX : ∀ q, q < H.size → AX q → A0 q)
    (kx : ∀ (E : String) (ce : Cell) (q9 : Addr) (u : SX) (t : State) (H1 : Heap) (locs1 : List Loc), t.heap = H1 → s.vm.Alike t.vm → px u → BX E u t → H.size ≤ H1.size → (∀ q : Nat, q < H.size → ¬ AX q → H1[q]? = H[q]?) → va_S A0 H0 H1 locs1 → H1[q9]? = some ce → ce.vm = .none → s.vm.findClass E = some ce.cls → vx_W p l e R s m args below meth c H1 locs1 (cells + mc) (slots + ms) Q (F0 m pc ls rest) q9)
    (kk : ∀ (r : UInt32) (u : S) (t : State) (H1 : Heap) (locs1 : List Loc), t.heap = H1 → s.vm.Alike t.vm → post r u → B u t → H.size ≤ H1.size → (∀ q : Nat, q < H.size → ¬ A1 q → H1[q]? = H[q]?) → va_S A0 H0 H1 locs1 → W p l e R s m args below meth c H1 locs1 (cells + mc) (slots + ms) Q (F0 m (pc + 3) ls (.float r :: rest))) : W p l e R s m args below meth c H locs cells slots Q (F0 m pc ls st0) := by
  intro T hT X
  rcases hr T hT X with ⟨v, st₀, t, T', L, h0, X', hL, e1, e2, ⟨⟨r, u, hv, hp, hb⟩, hF⟩, st⟩ | ⟨q, st₀, t, T', L, E, ce, h0, X', hL, e1, e2, ⟨u, hp, hb, hF⟩, hce, hcv, hcl, st⟩
  · cases hv
    obtain ⟨k1, k2, k3⟩ := vx_keep h0 e1 hS hA hf hL hF
    obtain ⟨t2, a1, b1⟩ := kk r u t T'.heap (locs ++ L) e1.symm (by rw [← e2]; exact X'.warmed.alike) hp hb k1 k2 k3 T' rfl X'
    exact ⟨t2, st t2 a1, b1⟩
  · obtain ⟨k1, k2, k3⟩ := vx_keep h0 e1 hS hAX hf hL hF
    obtain ⟨t2, a1, b1⟩ := kx E ce q u t T'.heap (locs ++ L) e1.symm (by rw [← e2]; exact X'.warmed.alike) hp hb k1 k2 k3 (by rw [e1]; exact hce) hcv hcl T' rfl X'
    exact ⟨t2, st.trans a1, b1⟩
theorem vx_calld {S SX : Type} {post : UInt64 → S → Prop} {px : SX → Prop} {B : S → State → Prop} {BX : String → SX → State → Prop} {AX : Nat → Prop} (hr : vx_Run p l e R s m args below meth c H locs cells slots mc ms (F0 m pc ls st0) rest (va_Qd post B A1 a) (vx_X px BX AX) free) (hS : va_S A0 H0 H locs) (hA : ∀ q, q < H.size → A1 q → A0 q) (hf : ∀ q, free q → A0 q) (hAX : ∀ q, q < H.size → AX q → A0 q)
    (kx : ∀ (E : String) (ce : Cell) (q9 : Addr) (u : SX) (t : State) (H1 : Heap) (locs1 : List Loc), t.heap = H1 → s.vm.Alike t.vm → px u → BX E u t → H.size ≤ H1.size → (∀ q : Nat, q < H.size → ¬ AX q → H1[q]? = H[q]?) → va_S A0 H0 H1 locs1 → H1[q9]? = some ce → ce.vm = .none → s.vm.findClass E = some ce.cls → vx_W p l e R s m args below meth c H1 locs1 (cells + mc) (slots + ms) Q (F0 m pc ls rest) q9)
    (kk : ∀ (r : UInt64) (u : S) (t : State) (H1 : Heap) (locs1 : List Loc), t.heap = H1 → s.vm.Alike t.vm → post r u → B u t → H.size ≤ H1.size → (∀ q : Nat, q < H.size → ¬ A1 q → H1[q]? = H[q]?) → va_S A0 H0 H1 locs1 → W p l e R s m args below meth c H1 locs1 (cells + mc) (slots + ms) Q (F0 m (pc + 3) ls (.double r :: rest))) : W p l e R s m args below meth c H locs cells slots Q (F0 m pc ls st0) := by
  intro T hT X
  rcases hr T hT X with ⟨v, st₀, t, T', L, h0, X', hL, e1, e2, ⟨⟨r, u, hv, hp, hb⟩, hF⟩, st⟩ | ⟨q, st₀, t, T', L, E, ce, h0, X', hL, e1, e2, ⟨u, hp, hb, hF⟩, hce, hcv, hcl, st⟩
  · cases hv
    obtain ⟨k1, k2, k3⟩ := vx_keep h0 e1 hS hA hf hL hF
    obtain ⟨t2, a1, b1⟩ := kk r u t T'.heap (locs ++ L) e1.symm (by rw [← e2]; exact X'.warmed.alike) hp hb k1 k2 k3 T' rfl X'
    exact ⟨t2, st t2 a1, b1⟩
  · obtain ⟨k1, k2, k3⟩ := vx_keep h0 e1 hS hAX hf hL hF
    obtain ⟨t2, a1, b1⟩ := kx E ce q u t T'.heap (locs ++ L) e1.symm (by rw [← e2]; exact X'.warmed.alike) hp hb k1 k2 k3 (by rw [e1]; exact hce) hcv hcl T' rfl X'
    exact ⟨t2, st.trans a1, b1⟩
theorem vx_callv {S SX : Type} {post : S → Prop} {px : SX → Prop} {B : S → State → Prop} {BX : String → SX → State → Prop} {AX : Nat → Prop} (hr : vx_Run p l e R s m args below meth c H locs cells slots mc ms (F0 m pc ls st0) rest (va_Qv post B A1 a) (vx_X px BX AX) free) (hS : va_S A0 H0 H locs) (hA : ∀ q, q < H.size → A1 q → A0 q) (hf : ∀ q, free q → A0 q) (hAX : ∀ q, q < H.size → AX q → A0 q)
    (kx : ∀ (E : String) (ce : Cell) (q9 : Addr) (u : SX) (t : State) (H1 : Heap) (locs1 : List Loc), t.heap = H1 → s.vm.Alike t.vm → px u → BX E u t → H.size ≤ H1.size → (∀ q : Nat, q < H.size → ¬ AX q → H1[q]? = H[q]?) → va_S A0 H0 H1 locs1 → H1[q9]? = some ce → ce.vm = .none → s.vm.findClass E = some ce.cls → vx_W p l e R s m args below meth c H1 locs1 (cells + mc) (slots + ms) Q (F0 m pc ls rest) q9)
    (kk : ∀ (u : S) (t : State) (H1 : Heap) (locs1 : List Loc), t.heap = H1 → s.vm.Alike t.vm → post u → B u t → H.size ≤ H1.size → (∀ q : Nat, q < H.size → ¬ A1 q → H1[q]? = H[q]?) → va_S A0 H0 H1 locs1 → W p l e R s m args below meth c H1 locs1 (cells + mc) (slots + ms) Q (F0 m (pc + 3) ls (rest))) : W p l e R s m args below meth c H locs cells slots Q (F0 m pc ls st0) := by
  intro T hT X
  rcases hr T hT X with ⟨v, st₀, t, T', L, h0, X', hL, e1, e2, ⟨⟨u, hv, hp, hb⟩, hF⟩, st⟩ | ⟨q, st₀, t, T', L, E, ce, h0, X', hL, e1, e2, ⟨u, hp, hb, hF⟩, hce, hcv, hcl, st⟩
  · cases hv
    obtain ⟨k1, k2, k3⟩ := vx_keep h0 e1 hS hA hf hL hF
    obtain ⟨t2, a1, b1⟩ := kk u t T'.heap (locs ++ L) e1.symm (by rw [← e2]; exact X'.warmed.alike) hp hb k1 k2 k3 T' rfl X'
    exact ⟨t2, st t2 a1, b1⟩
  · obtain ⟨k1, k2, k3⟩ := vx_keep h0 e1 hS hAX hf hL hF
    obtain ⟨t2, a1, b1⟩ := kx E ce q u t T'.heap (locs ++ L) e1.symm (by rw [← e2]; exact X'.warmed.alike) hp hb k1 k2 k3 (by rw [e1]; exact hce) hcv hcl T' rfl X'
    exact ⟨t2, st.trans a1, b1⟩
/-- caught by the row x of this method's table; the rows ahead don't take it -/
theorem vx_catch {own name : String} {E : String} {ce : Cell} {q : Addr} (hown : s.vm.findClass own = some m.cls) (pre : List ExceptionTableEntry) (x : ExceptionTableEntry) (suf : List ExceptionTableEntry) (hsplit : c.exceptionTable.toList = pre ++ x :: suf)
    (hpass : ∀ z ∈ pre, covers z pc = false ∨ (z.catchType ≠ 0 ∧ ∃ nm : String, (Cond.classLink own z.catchType nm).before args s = true ∧ va_Nc E nm s)) (hx : covers x pc = true) (h0 : x.catchType ≠ 0)
    (hlink : (Cond.classLink own x.catchType name).before args s = true) (hcast : (Cond.castable E name).before args s = true) (hcell : H[q]? = some ce) (hv : ce.vm = .none) (hcl : s.vm.findClass E = some ce.cls)
    (kk : W p l e R s m args below meth c H locs cells slots Q (F0 m x.handlerPc ls [.ref q])) : vx_W p l e R s m args below meth c H locs cells slots Q (F0 m pc ls rest) q := by
  intro T hT X
  have hpl : e.platform.magicAccessors = ({} : Platform).magicAccessors := by rw [X.admits.platform]
  obtain ⟨c3, c4, hc3, hc4, hasg⟩ := Cond.castable_spec hcast
  cases Option.some.inj (hc3.symm.trans hcl)
  obtain ⟨c5, hc5, hcl5⟩ := Cond.classLink_spec hown hlink e.platform hpl
  cases Option.some.inj (hc4.symm.trans hc5)
  obtain ⟨vm', X', st⟩ := X.thenCaughtThrough q (g := F0 m pc ls rest) rfl (Steps.refl _) (by rw [hT]; exact hcell) (by rw [hv]; rfl) (by obtain ⟨k9, h9, -⟩ := Vm.findClass_spec hcl; exact ⟨k9, h9⟩) pre x suf hsplit
    (fun z hz => by
      rcases hpass z hz with h | ⟨hz0, nm, hl1, hn1⟩
      · exact Or.inl h
      · obtain ⟨c6, hc6, hcl6⟩ := Cond.classLink_spec hown hl1 e.platform hpl
        obtain ⟨a8, b8, h1, h2, h3⟩ := hn1
        cases Option.some.inj (h1.symm.trans hcl)
        cases Option.some.inj (h2.symm.trans hc6)
        exact Or.inr ⟨hz0, _, hcl6, h3⟩) hx (Or.inr ⟨h0, c4, hcl5, hasg⟩)
  obtain ⟨t, a1, b1⟩ := kk (T.setVm vm') hT X'
  exact ⟨t, st.trans a1, b1⟩
end Rows
section Ends
variable {p : Program} {l : Launch} {e : Env} {R : Room} {s : State} {m : MethodId} {args : Array Value} {below : List Frame} {meth : Method} {c : Code} {H : Heap} {locs : List Loc} {cells slots : Nat} {Q : State → Prop}
variable {mc ms : Nat} {free : Addr → Prop} {A0 A1 : Nat → Prop} {H0 : Heap} {a : Array Value} {ls : Array Slot} {st0 rest : List Value}
variable {Qc : Array Value → State → Outcome → State → Prop} {XC : String → State → State → Prop}
/-- what a body that may throw owes at its end -/
def vx_MQ (below : List Frame) (Qc : Array Value → State → Outcome → State → Prop) (XC : String → State → State → Prop) (a : Array Value) (s : State) (mc ms : Nat) (free : Addr → Prop) : State → Prop := fun t =>
  ∃ o, t.status = .running ∧ Ended t below o ∧ vx_Q Qc XC mc ms free a s o t
theorem vx_ret {g : JFrame} {mc ms : Nat} (k : W p l e R s m args below meth c H locs cells slots (MQ below Qc args s mc ms free) g) : W p l e R s m args below meth c H locs cells slots (vx_MQ below Qc XC args s mc ms free) g := by
  intro T hT X
  obtain ⟨t, a1, o, b1, b2, b3, b4⟩ := k T hT X
  exact ⟨t, a1, o, b1, b2, Or.inl ⟨b3, b4⟩⟩
/-- not caught here: it goes on to the caller -/
theorem vx_widen {g : JFrame} {q : Addr} {k n : Nat} (h1 : cells ≤ k) (h2 : slots ≤ n) (kk : vx_W p l e R s m args below meth c H locs k n Q g q) : vx_W p l e R s m args below meth c H locs cells slots Q g q := fun T hT X => kk T hT (stand_widen X h1 h2)
theorem vx_out {pc : Nat} {E : String} {ce : Cell} {q : Addr} {mc ms : Nat} (hout : ∀ x ∈ c.exceptionTable.toList, covers x pc = false) (hlocks : meth.locks = false) (hcell : H[q]? = some ce) (hv : ce.vm = .none) (hcl : s.vm.findClass E = some ce.cls)
    (hx : ∀ t : State, t.heap = H → s.vm.Alike t.vm → XC E s t) (hf : ∀ z ∈ locs, free z.base) (hc : cells ≤ mc) (hs : slots ≤ ms) :
    vx_W p l e R s m args below meth c H locs cells slots (vx_MQ below Qc XC args s mc ms free) (F0 m pc ls rest) q := by
  intro T hT X
  obtain ⟨st1, hrun, hend, hW, hsm⟩ := X.leaveThrown q (g := F0 m pc ls rest) rfl rfl rfl hout hlocks
  have hcell9 : (T.setFrames (.throwing q :: below)).heap[q]? = some ce := by
    show T.heap[q]? = some ce
    rw [hT]; exact hcell
  exact ⟨_, st1, .threw q, hrun, hend, Or.inr ⟨q, rfl, E, ce, locs, hx _ hT hW.alike, hcell9, hv, hcl, hW, hsm.mono hc hs, hf⟩⟩
theorem vx_frame {U : State} {k n : Nat} (h : s.sameButNew ({ U with vm := s.vm } : State) locs k n) : s.heap.size ≤ U.heap.size ∧ ∀ q : Nat, q < s.heap.size → (∀ z ∈ locs, z.base ≠ q) → U.heap[q]? = s.heap[q]? := by
  obtain ⟨-, h2, -, -, -, h6⟩ := h
  refine ⟨h2, fun q hq hz => ?_⟩
  obtain ⟨c9, e1, e2, e3, e4⟩ := h6 q _ (Array.getElem?_eq_getElem hq)
  have hs : c9.slots = (s.heap[q]).slots := Array.ext_getElem? fun i => e4 i fun hm => hz _ hm rfl
  have h9 : c9 = s.heap[q] := by
    rw [hs] at e2
    exact e2
  have e5 : U.heap[q]? = some c9 := e1
  rw [e5, h9, Array.getElem?_eq_getElem hq]
/-- the words of a throw but the four that speak of the heap -/
def vx_no (w : Cond) : Bool := decide (w ≠ .isRef (.static Bundle.tN "UNASSIGNED_STACK" Bundle.steD)) && decide (w ≠ .isRef (.static Bundle.tN "SUPPRESSED_SENTINEL" Bundle.listD)) && decide (w ≠ .laysStatic Bundle.tN "UNASSIGNED_STACK" Bundle.steD) && decide (w ≠ .laysStatic Bundle.tN "SUPPRESSED_SENTINEL" Bundle.listD)
def vx_at0 (own : String) (ic : Nat) (X : String) (names : List String) : List Cond := (Bundle.ownAtoms0 own ic X names).filter vx_no
def vx_atS (own : String) (ic : Nat) (X : String) (names : List String) : List Cond := (Bundle.ownAtoms own ic X names).filter vx_no
/-- a word that the tables alone decide, or a good one -/
def vx_ot (w : Cond) : Bool := w.onTables || goodWord w
theorem vx_ot_at {args a' : Array Value} {s U : State} {w : Cond} (hW : s.WarmedH U.vm) (hvm : s.vm = U.vm) (hg : vx_ot w = true) (h : w.before args s = true) : w.before a' U = true := by
  simp only [vx_ot, Bool.or_eq_true] at hg
  rcases hg with hg | hg
  · exact va_tabs hg hvm h
  · exact word_at hW (good_of_word hg) h
/-- a list's words: the good ones out of the method's own list, the others by premises of their own -/
theorem vx_hat {args : Array Value} {s : State} {L B : List Cond} (h1 : ∀ w ∈ L.filter goodWord, w.before args s = true) (h2 : ∀ w ∈ L.filter (fun w => !goodWord w), w ∈ B) (h3 : ∀ w ∈ B, w.before args s = true) : ∀ w ∈ L, w.before args s = true := by
  intro w hw
  by_cases g : goodWord w = true
  · exact h1 w (List.mem_filter.mpr ⟨hw, g⟩)
  · refine h3 w (h2 w (List.mem_filter.mpr ⟨hw, ?_⟩))
    show (!goodWord w) = true
    cases hgw : goodWord w
    · rfl
    · exact absurd hgw g
theorem vx_c {args : Array Value} {s : State} {w : Cond} {B : List Cond} (h : w.before args s = true) (t : ∀ w ∈ B, w.before args s = true) : ∀ w' ∈ w :: B, w'.before args s = true := fun w' h' => (List.mem_cons.mp h').elim (fun e => by rw [e]; exact h) (t w')
theorem vx_n {args : Array Value} {s : State} : ∀ w ∈ ([] : List Cond), w.before args s = true := fun _ h => nomatch h
theorem vx_own {args : Array Value} {s : State} {L : List Cond} (h1 : ∀ w ∈ L.filter vx_no, w.before args s = true)
    (hU : (Cond.isRef (.static Bundle.tN "UNASSIGNED_STACK" Bundle.steD)).before args s = true) (hN : (Cond.isRef (.static Bundle.tN "SUPPRESSED_SENTINEL" Bundle.listD)).before args s = true)
    (lU : (Cond.laysStatic Bundle.tN "UNASSIGNED_STACK" Bundle.steD).before args s = true) (lN : (Cond.laysStatic Bundle.tN "SUPPRESSED_SENTINEL" Bundle.listD).before args s = true) : ∀ w ∈ L, w.before args s = true := by
  intro w hw
  by_cases e1 : w = .isRef (.static Bundle.tN "UNASSIGNED_STACK" Bundle.steD)
  · rw [e1]; exact hU
  · by_cases e2 : w = .isRef (.static Bundle.tN "SUPPRESSED_SENTINEL" Bundle.listD)
    · rw [e2]; exact hN
    · by_cases e3 : w = .laysStatic Bundle.tN "UNASSIGNED_STACK" Bundle.steD
      · rw [e3]; exact lU
      · by_cases e4 : w = .laysStatic Bundle.tN "SUPPRESSED_SENTINEL" Bundle.listD
        · rw [e4]; exact lN
        · exact h1 w (List.mem_filter.mpr ⟨hw, by unfold vx_no; rw [decide_eq_true e1, decide_eq_true e2, decide_eq_true e3, decide_eq_true e4]; rfl⟩)
/-- where a static field lies, its class's statics cell in H -/
def vx_L (C n d : String) (A : Nat → Prop) (U : State) (H : Heap) : Prop := ∃ (c : ClassId) (k : Class) (i : Nat) (f : Field) (a : Nat) (cell : Cell), U.vm.findClass C = some c ∧ U.fieldFound? C n d = some (c, k, i, f) ∧ f.isStatic = true ∧ k.statics = some a ∧ H[a]? = some cell ∧ cell.vm.isStatics = true ∧ cell.cls = c ∧ f.slot < cell.slots.size ∧ k.staticTypes[f.slot]? = some f.type ∧ ¬ A a
theorem vx_L.moved {C n d : String} {A : Nat → Prop} {u U : State} {H : Heap} (hvm : u.vm.Alike U.vm) (h : vx_L C n d A u H) : vx_L C n d A U H := by
  obtain ⟨c, k, i, f, a, cell, h1, h2, h3, h4, h5, h6, h7, h8, h9, h10⟩ := h
  obtain ⟨k', hi', he⟩ := State.fieldFound?_setVm hvm h2
  exact ⟨c, k', i, f, a, cell, by rw [hvm.findClass]; exact h1, hi', h3, by rw [he]; exact h4, h5, h6, h7, h8, by rw [he]; exact h9, h10⟩
theorem vx_L.kept {C n d : String} {A : Nat → Prop} {U : State} {H H1 : Heap} (h : vx_L C n d A U H) (hq : ∀ a : Nat, a < H.size → ¬ A a → H1[a]? = H[a]?) : vx_L C n d A U H1 := by
  obtain ⟨c, k, i, f, a, cell, h1, h2, h3, h4, h5, h6, h7, h8, h9, h10⟩ := h
  exact ⟨c, k, i, f, a, cell, h1, h2, h3, h4, by rw [hq a (Array.getElem?_eq_some_iff.mp h5).1 h10]; exact h5, h6, h7, h8, h9, h10⟩
theorem vx_L.narrow {C n d : String} {A B : Nat → Prop} {U : State} {H : Heap} (h : vx_L C n d A U H) (hAB : ∀ q, B q → A q) : vx_L C n d B U H := by
  obtain ⟨c, k, i, f, a, cell, h1, h2, h3, h4, h5, h6, h7, h8, h9, h10⟩ := h
  exact ⟨c, k, i, f, a, cell, h1, h2, h3, h4, h5, h6, h7, h8, h9, fun z => h10 (hAB _ z)⟩
theorem vx_L.word {C n d : String} {A : Nat → Prop} {s : State} {args : Array Value} (h : vx_L C n d A s s.heap) : (Cond.laysStatic C n d).before args s = true := by
  obtain ⟨c, k, i, f, a, cell, h1, h2, h3, h4, h5, h6, h7, h8, h9, -⟩ := h
  show (Cond.laysStatic C n d).holds args s none s [] = true
  exact Cond.laysStatic_of h1 h2 h3 h4 h5 h6 h7 h8 h9
/-- .. and what it holds: null or some reference -/
def vx_Zq (C n d : String) (A : Nat → Prop) (U : State) (H : Heap) : Prop := va_Zq C n d A U H ∧ vx_L C n d A U H
theorem vx_Zq.moved {C n d : String} {A : Nat → Prop} {u U : State} {H : Heap} (hvm : u.vm.Alike U.vm) (h : vx_Zq C n d A u H) : vx_Zq C n d A U H := ⟨va_Zq.moved hvm h.1, vx_L.moved hvm h.2⟩
theorem vx_Zq.kept {C n d : String} {A : Nat → Prop} {U : State} {H H1 : Heap} (h : vx_Zq C n d A U H) (hq : ∀ a : Nat, a < H.size → ¬ A a → H1[a]? = H[a]?) : vx_Zq C n d A U H1 := ⟨va_Zq.kept h.1 hq, vx_L.kept h.2 hq⟩
theorem vx_Zq.narrow {C n d : String} {A B : Nat → Prop} {U : State} {H : Heap} (h : vx_Zq C n d A U H) (hAB : ∀ q, B q → A q) : vx_Zq C n d B U H := ⟨va_Zq.narrow h.1 hAB, vx_L.narrow h.2 hAB⟩
theorem vx_Zqof {args : Array Value} {s : State} {C n d : String} {A : Nat → Prop} (hl : (Cond.laysStatic C n d).before args s = true) (hini : (Cond.initialized C).before args s = true) (h : (Cond.isRef (.static C n d)).before args s = true) (hA : ∀ a : Nat, a < s.heap.size → ¬ A a) : vx_Zq C n d A s s.heap := by
  refine ⟨va_Zqof hl hini h hA, ?_⟩
  obtain ⟨c, k, i, f, a, cell, h1, h2, h3, h4, h5, h6, h7, h8, h9⟩ := Cond.laysStatic_spec hl
  exact ⟨c, k, i, f, a, cell, h1, h2, h3, h4, h5, h6, h7, h8, h9, hA a (Array.getElem?_eq_some_iff.mp h5).1⟩
theorem vx_isRef {C n d : String} {v : Value} {A : Nat → Prop} {s : State} {args : Array Value} (h : va_Z C n d v A s s.heap) (hv : v.isRef = true) : (Cond.isRef (.static C n d)).before args s = true := by
  obtain ⟨cf, kf, fi, f, a, cell, h1, h2, h3, h4, h5, h6, h7, -⟩ := h
  have he : (Term.static C n d).eval args s none [] s = some v := by
    simp [Term.eval, State.fieldNamed?, h1, h2, h4, h5, h6, h7]
  simp only [Cond.before, Cond.holds, Cond.value, he]
  cases v <;> simp_all [Value.isRef]
theorem vx_isRefq {C n d : String} {A : Nat → Prop} {s : State} {args : Array Value} (h : va_Zq C n d A s s.heap) : (Cond.isRef (.static C n d)).before args s = true := by
  rcases h with h | ⟨t, h⟩
  · exact vx_isRef h rfl
  · exact vx_isRef h rfl
/-- the same frame, seen from here: as if the method were called anew in this heap -/
theorem vx_rebase {T : State} (X : Stand p l e R s m args below meth c T locs cells slots) {R' : Room} (hf : R'.frames ≤ R.frames) (hl : R'.locals ≤ R.locals) (hc : cells + R'.cells ≤ R.cells) (hs : slots + R'.slots ≤ R.slots) :
    Stand p l e R' ((T.setVm s.vm).setFrames (.invoking m args :: below)) m args below meth c T [] 0 0 := by
  have htop : (T.setVm s.vm).topJava?.isSome := X.here.top
  have hF : ((T.setVm s.vm).setFrames (.invoking m args :: below)).frames = .invoking m args :: below := State.frames_setFrames _ (State.cur_lt_of_top htop)
  obtain ⟨g₀, hg0⟩ := Option.isSome_iff_exists.mp htop
  obtain ⟨r, hr⟩ := State.topJava?_eq_some.mp hg0
  have hl9 : e.platform.stackLimits (T.setVm s.vm).me = e.platform.stackLimits s.me := X.limits
  have hb9 : (T.setVm s.vm).me.stackBytes = s.me.stackBytes := X.bytes
  refine ⟨X.admits, X.cas, X.clock, hF, ?_, X.hears, X.method, X.code, X.here, X.tail, X.warmed, ?_, ?_, ?_⟩
  · have h := X.room
    have hU : ((T.setVm s.vm).setFrames (.invoking m args :: below)).localsInUse = s.localsInUse := by
      rw [State.localsInUse_invoking hF (meth := meth) (c := c) X.method X.code, State.localsInUse_invoking X.frames X.method X.code]
    simp only [State.hasRoom, Bool.and_eq_true, decide_eq_true_eq] at h ⊢
    obtain ⟨⟨⟨⟨h1, h2, h3, h4, h5, h6⟩, h7⟩, h8⟩, h9⟩ := h
    rw [X.frames, List.length_cons] at h2 h3
    have q1 := X.heapSize
    have q2 := X.used
    simp only [hF, hU, List.length_cons, State.stackLimits_setFrames, State.stackBytes_setFrames, hl9, hb9]
    refine ⟨⟨⟨⟨by omega, by omega, by omega, by omega, by omega, h6⟩, ?_⟩, ?_⟩, X.book⟩
    · show T.heap.size + R'.cells ≤ e.platform.maxCells
      omega
    · show T.slotsUsed + R'.slots ≤ e.platform.maxSlots
      omega
  · rw [State.stackLimits_setFrames]; rfl
  · rw [State.stackBytes_setFrames]; rfl
  · refine ⟨?_, Nat.le_refl _, Nat.le_refl _, ?_, ?_, fun a c9 h9 => ⟨c9, h9, rfl, rfl, fun _ _ => rfl⟩⟩
    · obtain ⟨t, ht, -⟩ := State.frames_cons hr
      show T.setVm s.vm = { ((T.setVm s.vm).setFrames (.invoking m args :: below)).setFrames (T.setVm s.vm).frames with heap := T.heap, slotsUsed := T.slotsUsed }
      rw [State.setFrames_setFrames, State.setFrames_self ht]
      rfl
    · show T.slotsUsed = T.slotsUsed + ((T.heap.toList.drop T.heap.size).map (·.slots.size)).sum
      rw [List.drop_eq_nil_of_le (Nat.le_of_eq Array.length_toList)]
      rfl
    · show ((T.heap.toList.drop T.heap.size).map (·.slots.size)).sum ≤ 0
      rw [List.drop_eq_nil_of_le (Nat.le_of_eq Array.length_toList)]
      exact Nat.le_refl _
/-- 'throw new E()': new; dup; invokespecial; athrow -/
theorem vx_throw0 {cc : ByteArray} {pc : Nat} (hexec : p.tables.exec = Jvm.exec) (hb : c.code = cc) (hl : l.stackTraces = false) {own cls : String} {names : List String} {ik ic mc ms : Nat} {A : Nat → Prop}
    (hown : s.vm.findClass own = some m.cls) (hcls : Bundle.fit cls = true) (hnames : ∀ n ∈ names, Bundle.fit n = true)
    (hk : (Cond.classLink own ik cls).before args s = true) (hini : (Cond.initialized cls).before args s = true) (hat : ∀ w ∈ vx_at0 own ic cls names, w.before args s = true)
    (hgood : ∀ w ∈ Cond.classLink own ik cls :: Cond.initialized cls :: vx_at0 own ic cls names, vx_ot w = true)
    (hU : vx_Zq Bundle.tN "UNASSIGNED_STACK" Bundle.steD A s s.heap) (hN : vx_Zq Bundle.tN "SUPPRESSED_SENTINEL" Bundle.listD A s s.heap) (hS : va_S A s.heap H locs) (hsize : ls.size = c.maxLocals)
    (d0 : decode cc pc = .ok (.new ik, 3)) (d3 : decode cc (pc + 3) = .ok (.dup, 1)) (d4 : decode cc (pc + 4) = .ok (.invokespecial ic, 3)) (d7 : decode cc (pc + 7) = .ok (.athrow, 1))
    (hout : ∀ x ∈ c.exceptionTable.toList, covers x (pc + 7) = false)
    (hRframes : names.length + 3 < R.frames) (hRlocals : (rest.map fun v => v.category).sum + (13 * (names.length + 1) + 42) ≤ R.locals) (hRcells : cells + 1 ≤ R.cells) (hRslots : slots + 6 ≤ R.slots) (hlocks : meth.locks = false)
    (hx : ∀ t : State, s.vm.Alike t.vm → H.size ≤ t.heap.size → (∀ q : Nat, q < H.size → t.heap[q]? = H[q]?) → XC cls s t)
    (hf : ∀ z ∈ locs, free z.base) (hc : cells + 1 ≤ mc) (hs : slots + 6 ≤ ms) :
    W p l e R s m args below meth c H locs cells slots (vx_MQ below Qc XC args s mc ms free) (F0 m pc ls rest) := by
  intro T hT X
  have htr : e.platform.stackTraces = false := (show e.platform.stackTraces = l.stackTraces by rw [X.admits.platform]).trans hl
  have Y := vx_rebase X (R' := { frames := R.frames, locals := R.locals, cells := 1, slots := 6 }) (Nat.le_refl _) (Nat.le_refl _) hRcells hRslots
  obtain ⟨s', hA⟩ : ∃ z, z = (T.setVm s.vm).setFrames (.invoking m args :: below) := ⟨_, rfl⟩
  rw [← hA] at Y
  have hvm : s'.vm = s.vm := by rw [hA]; rfl
  have hhp : s'.heap = H := by rw [hA]; exact hT
  have hW0 : s.WarmedH s'.vm := by rw [hvm]; exact State.WarmedH.refl s
  have hat' : ∀ w ∈ vx_at0 own ic cls names, w.before args s' = true := fun w hw => vx_ot_at hW0 hvm.symm (hgood w (List.mem_cons_of_mem _ (List.mem_cons_of_mem _ hw))) (hat w hw)
  have hk' : (Cond.classLink own ik cls).before args s' = true := vx_ot_at hW0 hvm.symm (hgood _ List.mem_cons_self) hk
  have hini' : (Cond.initialized cls).before args s' = true := vx_ot_at hW0 hvm.symm (hgood _ (List.mem_cons_of_mem _ List.mem_cons_self)) hini
  have hU' : vx_Zq Bundle.tN "UNASSIGNED_STACK" Bundle.steD A s' s'.heap := by rw [hhp]; exact vx_Zq.moved hW0.alike (hU.kept hS.2.1)
  have hN' : vx_Zq Bundle.tN "SUPPRESSED_SENTINEL" Bundle.listD A s' s'.heap := by rw [hhp]; exact vx_Zq.moved hW0.alike (hN.kept hS.2.1)
  have h : ∀ w ∈ Bundle.ownAtoms0 own ic cls names, w.before args s' = true := vx_own hat' (vx_isRefq hU'.1) (vx_isRefq hN'.1) hU'.2.word hN'.2.word
  have hown' : s'.vm.findClass own = some m.cls := by rw [hvm]; exact hown
  have hins : (Cond.instantiable cls 6).before args s' = true := h _ (by simp [Bundle.ownAtoms0])
  obtain ⟨vm₁, cX, kX, hfX, hkX, -, -, X₁, st1⟩ := Y.newCold hexec (own := own) (C := cls) (index := ik) (n := 6) hown' hk' hins hini'
    (g := F0 m pc ls rest) rfl (by rw [hb]; exact d0) (Nat.le_refl _) (Nat.le_refl _)
  generalize hT1 : (T.setVm vm₁).pushCell { cls := cX, slots := kX.instanceTypes.map defaultValue, vm := .none } = T1 at X₁ st1
  have hcat : (Value.ref T.heap.size).category = 1 := rfl
  have hcellA : T1.heap[T.heap.size]? = some (freshCell cX kX) := by rw [← hT1]; exact State.heap_pushCell_size _ _
  have d3' : decode c.code (pc + 3) = .ok (.dup, 1) := by rw [hb]; exact d3
  obtain ⟨U, hsteps, hrun, hend, hW, hsame, ce, hce, hO⟩ := X₁.ctorThrow0 hexec htr (own := own) (cls := cls) (names := names) (ic := ic) hown' hcls hnames h (fun x hx => nomatch hx) hfX hkX hcellA (by rw [hhp, hT]; exact Nat.le_refl _)
    (g := { method := m, pc := pc + 4, locals := ls, stack := .ref T.heap.size :: .ref T.heap.size :: rest, locked := none }) rfl hsize rfl rfl (rest := rest) rfl
    (by rw [hb]; exact d4) (by rw [hb]; exact d7) hout hRframes (by simp only [List.map_cons, List.sum_cons, hcat]; omega) hlocks
  obtain ⟨f1, f2⟩ := vx_frame hsame
  rw [hhp] at f1 f2
  have hWs : s.WarmedH U.vm := State.WarmedH.trans hW0 hW
  have hcl : s.vm.findClass cls = some ce.cls := by
    have h9 := hO.cls
    rw [hvm] at h9
    exact h9
  have hall : s.sameButNew ({ U with vm := s.vm } : State) locs mc ms := by
    subst hA
    obtain ⟨e1, e2⟩ := hsame
    rw [State.setFrames_setFrames] at e1
    have h2 : (T.setVm s.vm).sameButNew ({ U with vm := s.vm } : State) [] (0 + 1) (0 + 6) := ⟨e1, e2⟩
    have h3 := X.same.trans h2
    rw [List.append_nil] at h3
    exact h3.mono hc hs
  refine ⟨U, ?_, .threw T.heap.size, hrun, hend, Or.inr ⟨T.heap.size, rfl, cls, ce, locs, hx U hWs.alike f1 (fun q hq => f2 q hq (fun z hz => nomatch hz)), hce, hO.vm, hcl, hWs, hall, hf⟩⟩
  refine st1 _ ?_
  show Steps p.tables e below (T1.setTop { method := m, pc := pc + 3, locals := ls, stack := .ref T.heap.size :: rest, locked := none }) _
  jvm_step X₁.here [X₁.here.top, hexec, d3', Value.category]
  exact hsteps
/-- 'throw new E("text")': new; dup; ldc; invokespecial; athrow -/
theorem vx_throwS {cc : ByteArray} {pc : Nat} (hexec : p.tables.exec = Jvm.exec) (hb : c.code = cc) (hl : l.stackTraces = false) {own cls text : String} {names : List String} {ik is ic mc ms sa : Nat} {A : Nat → Prop}
    (hown : s.vm.findClass own = some m.cls) (hcls : Bundle.fit cls = true) (hnames : ∀ n ∈ names, Bundle.fit n = true)
    (hk : (Cond.classLink own ik cls).before args s = true) (hini : (Cond.initialized cls).before args s = true) (hstr : vk_R own is text sa s) (hat : ∀ w ∈ vx_atS own ic cls names, w.before args s = true)
    (hgood : ∀ w ∈ Cond.classLink own ik cls :: Cond.initialized cls :: vx_atS own ic cls names, vx_ot w = true)
    (hU : vx_Zq Bundle.tN "UNASSIGNED_STACK" Bundle.steD A s s.heap) (hN : vx_Zq Bundle.tN "SUPPRESSED_SENTINEL" Bundle.listD A s s.heap) (hS : va_S A s.heap H locs) (hsize : ls.size = c.maxLocals)
    (d0 : decode cc pc = .ok (.new ik, 3)) (d3 : decode cc (pc + 3) = .ok (.dup, 1)) (d4 : decode cc (pc + 4) = .ok (.ldc is, 2)) (d6 : decode cc (pc + 6) = .ok (.invokespecial ic, 3)) (d9 : decode cc (pc + 9) = .ok (.athrow, 1))
    (hout : ∀ x ∈ c.exceptionTable.toList, covers x (pc + 9) = false)
    (hRframes : names.length + 3 < R.frames) (hRlocals : (rest.map fun v => v.category).sum + (13 * (names.length + 1) + 43) ≤ R.locals) (hRcells : cells + 1 ≤ R.cells) (hRslots : slots + 6 ≤ R.slots) (hlocks : meth.locks = false)
    (hx : ∀ t : State, s.vm.Alike t.vm → H.size ≤ t.heap.size → (∀ q : Nat, q < H.size → t.heap[q]? = H[q]?) → XC cls s t)
    (hf : ∀ z ∈ locs, free z.base) (hc : cells + 1 ≤ mc) (hs : slots + 6 ≤ ms) :
    W p l e R s m args below meth c H locs cells slots (vx_MQ below Qc XC args s mc ms free) (F0 m pc ls rest) := by
  intro T hT X
  have htr : e.platform.stackTraces = false := (show e.platform.stackTraces = l.stackTraces by rw [X.admits.platform]).trans hl
  have Y := vx_rebase X (R' := { frames := R.frames, locals := R.locals, cells := 1, slots := 6 }) (Nat.le_refl _) (Nat.le_refl _) hRcells hRslots
  obtain ⟨s', hA⟩ : ∃ z, z = (T.setVm s.vm).setFrames (.invoking m args :: below) := ⟨_, rfl⟩
  rw [← hA] at Y
  have hvm : s'.vm = s.vm := by rw [hA]; rfl
  have hhp : s'.heap = H := by rw [hA]; exact hT
  have hW0 : s.WarmedH s'.vm := by rw [hvm]; exact State.WarmedH.refl s
  have hat' : ∀ w ∈ vx_atS own ic cls names, w.before args s' = true := fun w hw => vx_ot_at hW0 hvm.symm (hgood w (List.mem_cons_of_mem _ (List.mem_cons_of_mem _ hw))) (hat w hw)
  have hk' : (Cond.classLink own ik cls).before args s' = true := vx_ot_at hW0 hvm.symm (hgood _ List.mem_cons_self) hk
  have hini' : (Cond.initialized cls).before args s' = true := vx_ot_at hW0 hvm.symm (hgood _ (List.mem_cons_of_mem _ List.mem_cons_self)) hini
  have hU' : vx_Zq Bundle.tN "UNASSIGNED_STACK" Bundle.steD A s' s'.heap := by rw [hhp]; exact vx_Zq.moved hW0.alike (hU.kept hS.2.1)
  have hN' : vx_Zq Bundle.tN "SUPPRESSED_SENTINEL" Bundle.listD A s' s'.heap := by rw [hhp]; exact vx_Zq.moved hW0.alike (hN.kept hS.2.1)
  have h : ∀ w ∈ Bundle.ownAtoms own ic cls names, w.before args s' = true := vx_own hat' (vx_isRefq hU'.1) (vx_isRefq hN'.1) hU'.2.word hN'.2.word
  have hown' : s'.vm.findClass own = some m.cls := by rw [hvm]; exact hown
  have hins : (Cond.instantiable cls 6).before args s' = true := h _ (by simp [Bundle.ownAtoms])
  obtain ⟨vm₁, cX, kX, hfX, hkX, -, -, X₁, st1⟩ := Y.newCold hexec (own := own) (C := cls) (index := ik) (n := 6) hown' hk' hins hini'
    (g := F0 m pc ls rest) rfl (by rw [hb]; exact d0) (Nat.le_refl _) (Nat.le_refl _)
  generalize hT1 : (T.setVm vm₁).pushCell { cls := cX, slots := kX.instanceTypes.map defaultValue, vm := .none } = T1 at X₁ st1
  have hcat : (Value.ref T.heap.size).category = 1 := rfl
  have hcellA : T1.heap[T.heap.size]? = some (freshCell cX kX) := by rw [← hT1]; exact State.heap_pushCell_size _ _
  have d3' : decode c.code (pc + 3) = .ok (.dup, 1) := by rw [hb]; exact d3
  have d4' : decode c.code (pc + 4) = .ok (.ldc is, 2) := by rw [hb]; exact d4
  have hstr' : vk_R own is text sa s' := vk_R.warm hW0 hstr
  obtain ⟨U, hsteps, hrun, hend, hW, hsame, ce, hce, hO⟩ := X₁.ctorThrowS hexec htr (own := own) (cls := cls) (names := names) (ic := ic) hown' hcls hnames h (fun x hx => nomatch hx) hfX hkX hcellA (by rw [hhp, hT]; exact Nat.le_refl _) (msg := .ref sa) rfl
    (g := { method := m, pc := pc + 6, locals := ls, stack := .ref sa :: .ref T.heap.size :: .ref T.heap.size :: rest, locked := none }) rfl hsize rfl rfl (rest := rest) rfl
    (by rw [hb]; exact d6) (by rw [hb]; exact d9) hout hRframes (by simp only [List.map_cons, List.sum_cons, hcat]; omega) hlocks
  obtain ⟨f1, f2⟩ := vx_frame hsame
  rw [hhp] at f1 f2
  have hWs : s.WarmedH U.vm := State.WarmedH.trans hW0 hW
  have hcl : s.vm.findClass cls = some ce.cls := by
    have h9 := hO.cls
    rw [hvm] at h9
    exact h9
  have hall : s.sameButNew ({ U with vm := s.vm } : State) locs mc ms := by
    subst hA
    obtain ⟨e1, e2⟩ := hsame
    rw [State.setFrames_setFrames] at e1
    have h2 : (T.setVm s.vm).sameButNew ({ U with vm := s.vm } : State) [] (0 + 1) (0 + 6) := ⟨e1, e2⟩
    have h3 := X.same.trans h2
    rw [List.append_nil] at h3
    exact h3.mono hc hs
  refine ⟨U, ?_, .threw T.heap.size, hrun, hend, Or.inr ⟨T.heap.size, rfl, cls, ce, locs, hx U hWs.alike f1 (fun q hq => f2 q hq (fun z hz => nomatch hz)), hce, hO.vm, hcl, hWs, hall, hf⟩⟩
  refine st1 _ ?_
  show Steps p.tables e below (T1.setTop { method := m, pc := pc + 3, locals := ls, stack := .ref T.heap.size :: rest, locked := none }) _
  jvm_step X₁.here [X₁.here.top, hexec, d3', Value.category]
  exact X₁.ldcString hexec (own := own) (text := text) (index := is) (a := sa) hown' hstr'.1 hstr'.2
    (g := { method := m, pc := pc + 4, locals := ls, stack := .ref T.heap.size :: .ref T.heap.size :: rest, locked := none }) rfl d4' _ hsteps
/-- 'throw new E("text")', the text by a wide index -/
theorem vx_throwSW {cc : ByteArray} {pc : Nat} (hexec : p.tables.exec = Jvm.exec) (hb : c.code = cc) (hl : l.stackTraces = false) {own cls text : String} {names : List String} {ik is ic mc ms sa : Nat} {A : Nat → Prop}
    (hown : s.vm.findClass own = some m.cls) (hcls : Bundle.fit cls = true) (hnames : ∀ n ∈ names, Bundle.fit n = true)
    (hk : (Cond.classLink own ik cls).before args s = true) (hini : (Cond.initialized cls).before args s = true) (hstr : vk_R own is text sa s) (hat : ∀ w ∈ vx_atS own ic cls names, w.before args s = true)
    (hgood : ∀ w ∈ Cond.classLink own ik cls :: Cond.initialized cls :: vx_atS own ic cls names, vx_ot w = true)
    (hU : vx_Zq Bundle.tN "UNASSIGNED_STACK" Bundle.steD A s s.heap) (hN : vx_Zq Bundle.tN "SUPPRESSED_SENTINEL" Bundle.listD A s s.heap) (hS : va_S A s.heap H locs) (hsize : ls.size = c.maxLocals)
    (d0 : decode cc pc = .ok (.new ik, 3)) (d3 : decode cc (pc + 3) = .ok (.dup, 1)) (d4 : decode cc (pc + 4) = .ok (.ldc_w is, 3)) (d7 : decode cc (pc + 7) = .ok (.invokespecial ic, 3)) (d10 : decode cc (pc + 10) = .ok (.athrow, 1))
    (hout : ∀ x ∈ c.exceptionTable.toList, covers x (pc + 10) = false)
    (hRframes : names.length + 3 < R.frames) (hRlocals : (rest.map fun v => v.category).sum + (13 * (names.length + 1) + 43) ≤ R.locals) (hRcells : cells + 1 ≤ R.cells) (hRslots : slots + 6 ≤ R.slots) (hlocks : meth.locks = false)
    (hx : ∀ t : State, s.vm.Alike t.vm → H.size ≤ t.heap.size → (∀ q : Nat, q < H.size → t.heap[q]? = H[q]?) → XC cls s t)
    (hf : ∀ z ∈ locs, free z.base) (hc : cells + 1 ≤ mc) (hs : slots + 6 ≤ ms) :
    W p l e R s m args below meth c H locs cells slots (vx_MQ below Qc XC args s mc ms free) (F0 m pc ls rest) := by
  intro T hT X
  have htr : e.platform.stackTraces = false := (show e.platform.stackTraces = l.stackTraces by rw [X.admits.platform]).trans hl
  have Y := vx_rebase X (R' := { frames := R.frames, locals := R.locals, cells := 1, slots := 6 }) (Nat.le_refl _) (Nat.le_refl _) hRcells hRslots
  obtain ⟨s', hA⟩ : ∃ z, z = (T.setVm s.vm).setFrames (.invoking m args :: below) := ⟨_, rfl⟩
  rw [← hA] at Y
  have hvm : s'.vm = s.vm := by rw [hA]; rfl
  have hhp : s'.heap = H := by rw [hA]; exact hT
  have hW0 : s.WarmedH s'.vm := by rw [hvm]; exact State.WarmedH.refl s
  have hat' : ∀ w ∈ vx_atS own ic cls names, w.before args s' = true := fun w hw => vx_ot_at hW0 hvm.symm (hgood w (List.mem_cons_of_mem _ (List.mem_cons_of_mem _ hw))) (hat w hw)
  have hk' : (Cond.classLink own ik cls).before args s' = true := vx_ot_at hW0 hvm.symm (hgood _ List.mem_cons_self) hk
  have hini' : (Cond.initialized cls).before args s' = true := vx_ot_at hW0 hvm.symm (hgood _ (List.mem_cons_of_mem _ List.mem_cons_self)) hini
  have hU' : vx_Zq Bundle.tN "UNASSIGNED_STACK" Bundle.steD A s' s'.heap := by rw [hhp]; exact vx_Zq.moved hW0.alike (hU.kept hS.2.1)
  have hN' : vx_Zq Bundle.tN "SUPPRESSED_SENTINEL" Bundle.listD A s' s'.heap := by rw [hhp]; exact vx_Zq.moved hW0.alike (hN.kept hS.2.1)
  have h : ∀ w ∈ Bundle.ownAtoms own ic cls names, w.before args s' = true := vx_own hat' (vx_isRefq hU'.1) (vx_isRefq hN'.1) hU'.2.word hN'.2.word
  have hown' : s'.vm.findClass own = some m.cls := by rw [hvm]; exact hown
  have hins : (Cond.instantiable cls 6).before args s' = true := h _ (by simp [Bundle.ownAtoms])
  obtain ⟨vm₁, cX, kX, hfX, hkX, -, -, X₁, st1⟩ := Y.newCold hexec (own := own) (C := cls) (index := ik) (n := 6) hown' hk' hins hini'
    (g := F0 m pc ls rest) rfl (by rw [hb]; exact d0) (Nat.le_refl _) (Nat.le_refl _)
  generalize hT1 : (T.setVm vm₁).pushCell { cls := cX, slots := kX.instanceTypes.map defaultValue, vm := .none } = T1 at X₁ st1
  have hcat : (Value.ref T.heap.size).category = 1 := rfl
  have hcellA : T1.heap[T.heap.size]? = some (freshCell cX kX) := by rw [← hT1]; exact State.heap_pushCell_size _ _
  have d3' : decode c.code (pc + 3) = .ok (.dup, 1) := by rw [hb]; exact d3
  have d4' : decode c.code (pc + 4) = .ok (.ldc_w is, 3) := by rw [hb]; exact d4
  have hstr' : vk_R own is text sa s' := vk_R.warm hW0 hstr
  obtain ⟨U, hsteps, hrun, hend, hW, hsame, ce, hce, hO⟩ := X₁.ctorThrowS hexec htr (own := own) (cls := cls) (names := names) (ic := ic) hown' hcls hnames h (fun x hx => nomatch hx) hfX hkX hcellA (by rw [hhp, hT]; exact Nat.le_refl _) (msg := .ref sa) rfl
    (g := { method := m, pc := pc + 7, locals := ls, stack := .ref sa :: .ref T.heap.size :: .ref T.heap.size :: rest, locked := none }) rfl hsize rfl rfl (rest := rest) rfl
    (by rw [hb]; exact d7) (by rw [hb]; exact d10) hout hRframes (by simp only [List.map_cons, List.sum_cons, hcat]; omega) hlocks
  obtain ⟨f1, f2⟩ := vx_frame hsame
  rw [hhp] at f1 f2
  have hWs : s.WarmedH U.vm := State.WarmedH.trans hW0 hW
  have hcl : s.vm.findClass cls = some ce.cls := by
    have h9 := hO.cls
    rw [hvm] at h9
    exact h9
  have hall : s.sameButNew ({ U with vm := s.vm } : State) locs mc ms := by
    subst hA
    obtain ⟨e1, e2⟩ := hsame
    rw [State.setFrames_setFrames] at e1
    have h2 : (T.setVm s.vm).sameButNew ({ U with vm := s.vm } : State) [] (0 + 1) (0 + 6) := ⟨e1, e2⟩
    have h3 := X.same.trans h2
    rw [List.append_nil] at h3
    exact h3.mono hc hs
  refine ⟨U, ?_, .threw T.heap.size, hrun, hend, Or.inr ⟨T.heap.size, rfl, cls, ce, locs, hx U hWs.alike f1 (fun q hq => f2 q hq (fun z hz => nomatch hz)), hce, hO.vm, hcl, hWs, hall, hf⟩⟩
  refine st1 _ ?_
  show Steps p.tables e below (T1.setTop { method := m, pc := pc + 3, locals := ls, stack := .ref T.heap.size :: rest, locked := none }) _
  jvm_step X₁.here [X₁.here.top, hexec, d3', Value.category]
  exact X₁.ldcStringW hexec (own := own) (text := text) (index := is) (a := sa) hown' hstr'.1 hstr'.2
    (g := { method := m, pc := pc + 4, locals := ls, stack := .ref T.heap.size :: .ref T.heap.size :: rest, locked := none }) rfl d4' _ hsteps
end Ends
section Bodies
variable {l : Launch}
theorem vx_ofW {y : MethodName} {ws ws' : List Cond} {rm : Room} {Pc : Array Value → State → Prop} {Qc : Array Value → State → Outcome → State → Prop} {XC : String → State → State → Prop} {mc ms : Nat} {free : Addr → Prop} {cc : ByteArray} {maxL : Nat} {ret : Option FieldType}
    (hy : plainName y.cls = true) (hw : ws = Cond.code y cc maxL ret :: ws')
    (body : ∀ p e s m args below meth c s₁, BodyLoose p l y (headSpec ws rm) cc maxL ret e s m args below meth c s₁ → c.maxLocals = maxL → (∀ x ∈ c.exceptionTable.toList, False) → Pc args s →
      W p l e (headSpec ws rm).room s m args below meth c s.heap [] 0 0 (vx_MQ below Qc XC args s mc ms free) (entryFrame m args maxL)) : vx_Met l y ws rm Pc Qc XC mc ms free := by
  refine MetFree.of_bodyS (code := cc) (maxLocals := maxL) (ret := ret) hy ?_ ?_
  · intro args s m h hn
    obtain ⟨meth, c, h1, h2, h3, h4, h5, h6, -, -⟩ := Cond.code_spec hn (atoms_spec (ws := ws) h _ (by rw [hw]; exact List.mem_cons_self))
    exact ⟨meth, c, h1, h2, h3, h4, h5, h6⟩
  · intro p e s m args below meth c s₁ B hml hP _
    have hh0 : s₁.heap = s.heap := by rw [B.state]; rfl
    have ht : ∀ x ∈ c.exceptionTable.toList, False := by
      obtain ⟨meth9, c9, h1, h2, -, -, -, -, h7, -⟩ := Cond.code_spec B.named (atoms_spec (ws := ws) B.pre _ (by rw [hw]; exact List.mem_cons_self))
      cases Option.some.inj (h1.symm.trans B.method)
      cases Option.some.inj (h2.symm.trans (Stand.of_body B).code)
      intro x hx
      rw [Array.isEmpty_iff.mp h7] at hx
      cases hx
    obtain ⟨t, a1, o, b1, b2, b3⟩ := body p e s m args below meth c s₁ B hml ht hP s₁ hh0 (Stand.of_body B)
    exact ⟨t, o, a1, b1, b2, b3⟩
/-- the table of a body with handlers -/
theorem vx_table {p : Program} {x y : MethodName} {S : Spec} {cc bytes : ByteArray} {maxL maxL' : Nat} {ret ret' : Option FieldType} {e : Env} {s s₁ : State} {m : MethodId} {args : Array Value} {below : List Frame} {meth : Method} {c : Code} {hh : List (Nat × Nat × Nat × Nat)}
    (B : BodyLoose p l y S cc maxL ret e s m args below meth c s₁) (h : (Cond.codeWith y bytes maxL' ret' hh).before args s = true) : c.exceptionTable.toList = tableOf hh := by
  obtain ⟨m9, meth9, c9, hn9, h1, h2, -, -, h6, -⟩ := Cond.codeWith_spec h
  cases Option.some.inj (hn9.symm.trans B.named)
  cases Option.some.inj (h1.symm.trans B.method)
  cases Option.some.inj (h2.symm.trans (Stand.of_body B).code)
  rw [← h6, table_eq]
end Bodies
end VXA
/-! ===== END ===== -/
/-! ===== BEGIN a static call of a method with an exception table ===== -/
section VXS
variable {p : Program} {l : Launch} {e : Env} {R : Room} {s : State} {m : MethodId} {args : Array Value} {below : List Frame} {meth : Method} {c : Code} {T : State} {H : Heap} {locs : List Loc} {cells slots : Nat}
abbrev vx_CSW (R : Room) (s : State) (args : Array Value) (own : String) (index : Nat) (y : MethodName) (bytes : ByteArray) (maxL : Nat) (ret : Option FieldType) (hh : List (Nat × Nat × Nat × Nat)) (ws : List Cond) (rm : Room) (mc ms n : Nat) : Prop :=
  (rm.cells = mc ∧ rm.slots = ms ∧ rm.frames + 1 ≤ R.frames ∧ 8 + (maxL + 11) + rm.locals ≤ R.locals ∧ (∀ w ∈ ws, ∀ (a' : Array Value) (U : State), s.WarmedH U.vm → w.before a' U = true) ∧ Cond.codeWith y bytes maxL ret hh ∈ ws) ∧
  (Cond.codeWith y bytes maxL ret hh).before args s = true ∧ (Cond.initialized y.cls).before args s = true ∧ (y.cls ≠ "java/lang/invoke/MethodHandle" ∧ y.cls ≠ "java/lang/invoke/VarHandle") ∧
  (∀ sig, parseMethodDescriptor y.desc = some sig → n = sig.parameters.length) ∧ (Cond.methodLink own index y).before args s = true ∧ (Cond.static y).before args s = true
theorem vx_cwSW {own : String} {index maxL mc ms : Nat} {y : MethodName} {bytes : ByteArray} {ret : Option FieldType} {hh : List (Nat × Nat × Nat × Nat)} {Ts ws ws' : List Cond} {rm : Room} (n : Nat) (ht : ∀ w ∈ Ts, w.before args s = true) (hT : GoodIn Ts (va_wsS own index y ws)) (hw : ws = Cond.codeWith y bytes maxL ret hh :: ws') (hrc : rm.cells = mc) (hrs : rm.slots = ms)
    (hd : y.cls ≠ "java/lang/invoke/MethodHandle" ∧ y.cls ≠ "java/lang/invoke/VarHandle" ∧ (parseMethodDescriptor y.desc).map (fun d => d.parameters.length) = some n) (hR : rm.frames + 1 ≤ R.frames ∧ 8 + (maxL + 11) + rm.locals ≤ R.locals) :
    vx_CSW R s args own index y bytes maxL ret hh ws rm mc ms n := by
  have ok : ∀ w ∈ va_wsS own index y ws, w.before args s = true := fun w h => ht w (hT w h).1
  have hG : GoodIn Ts ws := fun w h => hT w (by unfold va_wsS; exact List.mem_append_right _ h)
  have hc : Cond.codeWith y bytes maxL ret hh ∈ ws := by rw [hw]; exact List.mem_cons_self
  refine ⟨⟨hrc, hrs, hR.1, hR.2, pay_in ht hG, hc⟩, ht _ (hG _ hc).1, ok _ (by simp [va_wsS]), ⟨hd.1, hd.2.1⟩, fun sig h => ?_, ok _ (by simp [va_wsS]), ok _ (by simp [va_wsS])⟩
  have h2 := hd.2.2
  rw [h] at h2
  exact (Option.some.inj h2).symm
theorem vx_callSW (X : Stand p l e R s m args below meth c T locs cells slots) (hexec : p.tables.exec = Jvm.exec) {own : String} {index : Nat} {y : MethodName} {bytes : ByteArray} {maxL : Nat} {ret : Option FieldType} {hh : List (Nat × Nat × Nat × Nat)}
    (hown : s.vm.findClass own = some m.cls) (hlink : (Cond.methodLink own index y).before args s = true) (hstat : (Cond.static y).before args s = true) (hinit : (Cond.initialized y.cls).before args s = true)
    (hcode : (Cond.codeWith y bytes maxL ret hh).before args s = true) (hy : y.cls ≠ "java/lang/invoke/MethodHandle" ∧ y.cls ≠ "java/lang/invoke/VarHandle")
    {W9 : Nat} {Pre : Pt → Array Value → Prop} {Post : Pt → Array Value → Option Value → Pt → Prop} (hK : Back l R p e below s args y 3 W9 Pre Post)
    {g : JFrame} (hg : g.method = m) (hsize : g.locals.size = c.maxLocals) {argsL rest : List Value} (hlen : ∀ sig, parseMethodDescriptor y.desc = some sig → argsL.length = sig.parameters.length)
    (hstack : g.stack = argsL.reverse ++ rest) (hW : 2 * g.monitorRoom + (rest.map fun v => v.category).sum ≤ W9) (hdg : decode c.code g.pc = .ok (.invokestatic index, 3))
    (hpre : ∀ vm₁, s.WarmedH vm₁ → Pre ⟨T.setVm vm₁, locs, cells, slots⟩ argsL.toArray) :
    ∃ (v : Option Value) (vm₁ : Vm) (B : Pt), s.WarmedH vm₁ ∧ Stand p l e R s m args below meth c B.U B.locs B.cells B.slots ∧ Post ⟨T.setVm vm₁, locs, cells, slots⟩ argsL.toArray v B ∧
      ∀ target, Steps p.tables e below (B.U.setTop { g with pc := g.pc + 3, stack := v.toList ++ rest }) target → Steps p.tables e below (T.setTop g) target := by
  obtain ⟨mk, methM, cM, hnamed, hmethM, -, -, -, -, -, -, hsigM⟩ := Cond.codeWith_spec hcode
  have hstatic : methM.isStatic = true := Cond.static_spec hnamed hmethM hstat
  obtain ⟨kP, hkP, -⟩ := className_of_methodNamed hnamed
  have hinitP : kP.init = .initialized := Cond.initialized_spec (findClass_of_methodNamed hnamed) hkP hinit
  obtain ⟨vm₁, X₁, hstep₁⟩ := X.invokestatic hexec hown hlink hnamed hmethM hstatic hkP hinitP hy (g := g) hg (argsL := argsL) (rest := rest) (hlen _ hsigM) hstack hdg
  obtain ⟨v, B, X', hpost, hsteps⟩ := hK m meth c ⟨T.setVm vm₁, locs, cells, slots⟩ { g with stack := rest } (.invokestatic index) mk argsL.toArray X₁ hg hsize hdg hW (X₁.named hnamed) (hpre vm₁ X₁.warmed)
  exact ⟨v, vm₁, B, X₁.warmed, X', hpost, fun target h => hstep₁ _ fun acts => by rw [doInvoke_state]; exact hsteps.trans h⟩
theorem vx_runSW {y : MethodName} {bytes cc : ByteArray} {maxL nL mc ms n index : Nat} {ret : Option FieldType} {hh : List (Nat × Nat × Nat × Nat)} {ws : List Cond} {rm : Room} {Pc : Array Value → State → Prop} {Qc : Array Value → State → Outcome → State → Prop} {free : Addr → Prop} {Ts : List Cond} {own : String} {As rest : List Value} {g : JFrame}
    (S : CallFix p m c cc nL s args Ts own) (hM : Met l y ws rm Pc Qc mc ms free) (cw : vx_CSW R s args own index y bytes maxL ret hh ws rm mc ms n) (hp : PreS s H Pc As)
    (hg : g.method = m) (hn : As.length = n) (hsize : g.locals.size = nL) (hstack : g.stack = As.reverse ++ rest) (hW : 2 * g.monitorRoom + (rest.map fun v => v.category).sum ≤ 8) (hdg : decode cc g.pc = .ok (.invokestatic index, 3)) (hf : cells + mc ≤ R.cells ∧ slots + ms ≤ R.slots) :
    va_Run p l e R s m args below meth c H locs cells slots mc ms g rest (Qc As.toArray) (free) := by
  obtain ⟨⟨hrc, hrs, hfr, hlo, hws, hcw⟩, hcode, hini, hy, hlen, hl, hstt⟩ := cw
  have hK : Back l R p e below s args y 3 8 (PreOf R mc ms Pc) (PostOf Qc mc ms free) := va_backW (hh := hh) (bytes := bytes) (maxL := maxL) (ret := ret) hM hp.1 hrc hrs hfr hlo hws hcw (fun a' U hW => word_at hW (Or.inl (by first | rfl | simp [Cond.onTables, Cond.keeps, Cond.steady])) hini)
  obtain ⟨hx, hb, hml, ho, -⟩ := S
  intro T hT X
  obtain ⟨v, vm₁, ⟨U', l2, c2, s2⟩, hW₁, X', ⟨g', mk, t, L, e1, e2, hq, h1, hL, h2, h3⟩, st⟩ := vx_callSW X hx (hh := hh) (bytes := bytes) (maxL := maxL) (ret := ret) ho hl hstt hini hcode hy hK hg (hsize.trans hml.symm) (argsL := As) (rest := rest) (fun sig h => hn.trans (hlen sig h)) hstack hW (by rw [hb]; exact hdg)
    (fun vm₁ hW₁ => ⟨hf.1, hf.2, hp.2 (T.setVm vm₁) hT hW₁⟩)
  dsimp only [Pt.U, Pt.locs, Pt.cells, Pt.slots] at X' e1 e2 h1 h2 h3 st
  subst h1; subst h2; subst h3
  exact ⟨v, (T.setVm vm₁).calling g' mk As.toArray, t, U', L, hT, X', hL, e1, e2, hq, st⟩
/-- not caught here, past rows that name other classes: it goes on to the caller -/
theorem vx_outP {p : Program} {l : Launch} {e : Env} {R : Room} {s : State} {m : MethodId} {args : Array Value} {below : List Frame} {meth : Method} {c : Code} {H : Heap} {locs : List Loc} {cells slots : Nat} {free : Addr → Prop} {ls : Array Slot} {rest : List Value} {Qc : Array Value → State → Outcome → State → Prop} {XC : String → State → State → Prop}
    {pc : Nat} {own E : String} {ce : Cell} {q : Addr} {mc ms : Nat} (hown : s.vm.findClass own = some m.cls) (hlocks : meth.locks = false)
    (hpass : ∀ z ∈ c.exceptionTable.toList, covers z pc = false ∨ (z.catchType ≠ 0 ∧ ∃ nm : String, (Cond.classLink own z.catchType nm).before args s = true ∧ va_Nc E nm s)) (hcell : H[q]? = some ce) (hv : ce.vm = .none) (hcl : s.vm.findClass E = some ce.cls)
    (hx : ∀ t : State, t.heap = H → s.vm.Alike t.vm → XC E s t) (hf : ∀ z ∈ locs, free z.base) (hc : cells ≤ mc) (hs : slots ≤ ms) :
    vx_W p l e R s m args below meth c H locs cells slots (vx_MQ below Qc XC args s mc ms free) (F0 m pc ls rest) q := by
  intro T hT X
  have hpl : e.platform.magicAccessors = ({} : Platform).magicAccessors := by rw [X.admits.platform]
  obtain ⟨vm', hW', X', st⟩ := X.outThrough hlocks q (g := F0 m pc ls rest) rfl rfl rfl (cell := ce) (by rw [hT]; exact hcell) (by rw [hv]; rfl)
    (by obtain ⟨k9, h9, -⟩ := Vm.findClass_spec hcl; exact ⟨k9, h9⟩) (fun z hz => by
      rcases hpass z hz with h | ⟨hz0, nm, hl1, hn1⟩
      · exact Or.inl h
      · obtain ⟨c6, hc6, hcl6⟩ := Cond.classLink_spec hown hl1 e.platform hpl
        obtain ⟨a8, b8, h1, h2, h3⟩ := hn1
        cases Option.some.inj (h1.symm.trans hcl)
        cases Option.some.inj (h2.symm.trans hc6)
        exact Or.inr ⟨hz0, _, hcl6, h3⟩)
  obtain ⟨g₀, hfr⟩ := X'.frames_eq
  have hcell9 : ((T.setVm vm').setFrames (.throwing q :: below)).heap[q]? = some ce := by
    show T.heap[q]? = some ce
    rw [hT]; exact hcell
  have hend : Ended ((T.setVm vm').setFrames (.throwing q :: below)) below (.threw q) := State.frames_setFrames _ (State.cur_lt_of_frames hfr)
  refine ⟨(T.setVm vm').setFrames (.throwing q :: below), ?_, .threw q, X'.here.running, hend, Or.inr ⟨q, rfl, E, ce, locs, hx _ hT (X'.ends _).1.alike, hcell9, hv, hcl, (X'.ends _).1, (X'.ends _).2.mono hc hs, hf⟩⟩
  rw [X.pushThrowing_eq]
  exact st
/-- a thing of a world lies in the heap -/
theorem vx_lt {D : va_G} {cl : List vw_C} {ws : va_W} {H1 : Heap} (h : va_P D cl ws H1) {k : Nat} {q : Nat × va_E} (hk : ws[k]? = some q) : q.1 < H1.size := (h k q hk).lt
end VXS
/-! ===== END ===== -/
/-! ===== BEGIN methods with a table of their own: called by a name, returning or throwing ===== -/
section VXH
/-! vx_backW, vx_callVX, vx_callSX, vx_callVW, vx_runVW, vx_runVX, vx_runSX, vx_ofWH follow the same proofs as their sisters above (Free/Laws.lean, Shelf42/LK1.lean); vx_outP calls Shelf42/NT130.lean (outThrough). -/
section
variable {l : Launch} {R : Room} {p : Program} {e : Env} {below : List Frame} {s : State} {sargs : Array Value} {y : MethodName} {len W9 : Nat}
theorem vx_backW {ws : List Cond} {rm : Room} {Pc : Array Value → State → Prop} {Qc : Array Value → State → Outcome → State → Prop} {XC : String → State → State → Prop} {mc ms : Nat} {free : Addr → Prop} {bytes : ByteArray} {maxL : Nat} {ret : Option FieldType} {hh : List (Nat × Nat × Nat × Nat)}
    (hM : vx_Met l y ws rm Pc Qc XC mc ms free) (hblind : FrameBlind Pc) (hrc : rm.cells = mc) (hrs : rm.slots = ms)
    (hframes : rm.frames + 1 ≤ R.frames) (hlocals : W9 + (maxL + 11) + rm.locals ≤ R.locals)
    (hws : ∀ w ∈ ws, ∀ a' U, s.WarmedH U.vm → w.before a' U = true) (hcode : Cond.codeWith y bytes maxL ret hh ∈ ws) (hinit : ∀ a' U, s.WarmedH U.vm → (Cond.initialized y.cls).before a' U = true) :
    vx_Back l R p e below s sargs y len W9 (PreOf R mc ms Pc) (PostOf Qc mc ms free) (vx_Post XC mc ms free) := by
  intro m meth c A g ig mk a X hg hsize hdg hW hn hp
  have h1 : (headSpec ws rm).pre.before a A.U = true := atoms_intro fun w hw => hws w hw _ _ X.warmed
  have h2 : (Cond.codeWith y bytes maxL ret hh).before a A.U = true := hws _ hcode _ _ X.warmed
  have h3 : (Cond.initialized y.cls).before a A.U = true := hinit _ _ X.warmed
  have h4 : A.cells + (headSpec ws rm).room.cells ≤ R.cells := by rw [show (headSpec ws rm).room.cells = mc from hrc]; exact hp.1
  have h5 : A.slots + (headSpec ws rm).room.slots ≤ R.slots := by rw [show (headSpec ws rm).room.slots = ms from hrs]; exact hp.2.1
  have hPc : Pc a (A.U.calling g mk a) := hblind _ _ _ _ hp.2.2
  obtain ⟨U, Ls, c0, s0⟩ := A
  dsimp only [Pt.U, Pt.locs, Pt.cells, Pt.slots] at h1 h2 h3 h4 h5 X hn hPc ⊢
  obtain ⟨m9, methY, cY, hn9, hmY, hcY, -, hlY, -⟩ := Cond.codeWith_spec h2
  cases Option.some.inj (hn9.symm.trans hn)
  obtain ⟨kY, hkY, -⟩ := className_of_methodNamed hn
  have hinitY : kY.init = .initialized := Cond.initialized_spec (findClass_of_methodNamed hn) hkY h3
  have h : At U g.method c below := by rw [hg]; exact X.here
  have hlocals9 : W9 + (maxL + 11) + (headSpec ws rm).room.locals ≤ R.locals := hlocals
  have happ : (headSpec ws rm).appliesLoose y e.platform (U.calling g mk a) = true :=
    Spec.appliesLoose_calling (g := g) h hdg hn hkY hinitY
      (X.room_calling (g := g) (R' := (headSpec ws rm).room) hsize hmY hcY hframes (by rw [hlY]; omega) h4 h5) h1
  obtain ⟨mid, hmid⟩ := h.above
  have hfr : (U.setTop g).frames = (.java g :: mid) ++ below := by rw [State.frames_setTop' g h.top, hmid]; rfl
  obtain ⟨o, s₂, hsteps, -, hend, hq⟩ := Steps.callFree hM p X.admits X.cas X.clock (acts := []) hfr happ hPc trivial
  have hq' : vx_Q Qc XC mc ms free a (U.calling g mk a) o s₂ := hq
  rw [State.frames_setTop' g h.top] at hend
  obtain ⟨g₀, hg0⟩ := Option.isSome_iff_exists.mp h.top
  obtain ⟨r, hr⟩ := State.topJava?_eq_some.mp hg0
  have hr' : (({ U with heap := s₂.heap, slotsUsed := s₂.slotsUsed } : State).setVm s₂.vm).frames = .java g₀ :: r := hr
  rcases hq' with ⟨hqc, L, hfe, hL⟩ | ⟨q, rfl, E, ce, L, hx, hce, hcv, hcl, hW₂, hsm, hL⟩
  · obtain ⟨⟨v, rfl⟩, hW₂, e2, q2, q3, q4, q5, q6⟩ := id hfe
    have e3 : s₂ = ({ (U.calling g mk a).setFrames s₂.frames with heap := s₂.heap, slotsUsed := s₂.slotsUsed } : State).setVm s₂.vm := by
      have : s₂ = ({ s₂ with vm := (U.calling g mk a).vm } : State).setVm s₂.vm := rfl
      rw [e2] at this
      exact this
    obtain ⟨c₂, i₂, len₂, hc₂, hd₂, hf₂⟩ := hend
    have hW' : U.WarmedH s₂.vm := hW₂
    have hcc : c₂ = c := by
      have h1 : s₂.code? g.method = U.code? g.method := by
        rw [State.code?_eq, State.code?_eq, hW'.alike.method?]
      exact Option.some.inj (hc₂.symm.trans (h1.trans h.code))
    subst hcc
    have hlen : len₂ = len := by rw [hdg] at hd₂; cases hd₂; rfl
    subst hlen
    have hs₂ : s₂ = (({ U with heap := s₂.heap, slotsUsed := s₂.slotsUsed } : State).setVm s₂.vm).setTop { g with pc := g.pc + len₂, stack := v.toList ++ g.stack } := by
      refine e3.trans ?_
      rw [hf₂, State.calling_eq h.top, State.setFrames_setFrames, State.setTop_of_frames _ hr', hr]
      rfl
    have hsame : U.sameButNew ({ U with heap := s₂.heap, slotsUsed := s₂.slotsUsed } : State) L mc ms := by
      refine ⟨?_, q2, q3, q4, q5, q6⟩
      obtain ⟨t, ht, -⟩ := State.frames_cons hr
      show ({ U with heap := s₂.heap, slotsUsed := s₂.slotsUsed } : State) = { U.setFrames U.frames with heap := s₂.heap, slotsUsed := s₂.slotsUsed }
      rw [State.setFrames_self ht]
    subst hg
    refine Or.inl ⟨v, ⟨(({ U with heap := s₂.heap, slotsUsed := s₂.slotsUsed } : State).setVm s₂.vm), Ls ++ L, c0 + mc, s0 + ms⟩,
      ⟨X.admits, X.cas, X.clock, X.frames, X.room, X.hears, X.method, X.code, (X.here.setHeapUsed s₂.heap s₂.slotsUsed).setVm hW'.alike, X.tail, State.WarmedH.trans X.warmed hW', X.limits, X.bytes, X.same.trans (hsame.setVm s.vm)⟩,
      ⟨g, mk, s₂, L, rfl, rfl, hqc, rfl, hL, rfl, rfl⟩, ?_⟩
    show Steps p.tables e below _ ((({ U with heap := s₂.heap, slotsUsed := s₂.slotsUsed } : State).setVm s₂.vm).setTop { g with pc := g.pc + len₂, stack := v.toList ++ g.stack })
    rw [← hs₂]
    exact hsteps
  · obtain ⟨e2, q2, q3, q4, q5, q6⟩ := id hsm
    have e3 : s₂ = ({ (U.calling g mk a).setFrames s₂.frames with heap := s₂.heap, slotsUsed := s₂.slotsUsed } : State).setVm s₂.vm := by
      have : s₂ = ({ s₂ with vm := (U.calling g mk a).vm } : State).setVm s₂.vm := rfl
      rw [e2] at this
      exact this
    have hf₂ : s₂.frames = .throwing q :: .java g :: U.frames.tail := hend
    have hW' : U.WarmedH s₂.vm := hW₂
    have hs₂ : s₂ = ((({ U with heap := s₂.heap, slotsUsed := s₂.slotsUsed } : State).setVm s₂.vm).setTop g).pushFrame (.throwing q) := by
      refine e3.trans ?_
      rw [hf₂, State.calling_eq h.top, State.setFrames_setFrames, State.pushFrame, State.frames_setTop _ hr', State.setTop_of_frames _ hr', State.setFrames_setFrames, hr]
      rfl
    have hsame : U.sameButNew ({ U with heap := s₂.heap, slotsUsed := s₂.slotsUsed } : State) L mc ms := by
      refine ⟨?_, q2, q3, q4, q5, q6⟩
      obtain ⟨t, ht, -⟩ := State.frames_cons hr
      show ({ U with heap := s₂.heap, slotsUsed := s₂.slotsUsed } : State) = { U.setFrames U.frames with heap := s₂.heap, slotsUsed := s₂.slotsUsed }
      rw [State.setFrames_self ht]
    subst hg
    refine Or.inr ⟨q, ⟨(({ U with heap := s₂.heap, slotsUsed := s₂.slotsUsed } : State).setVm s₂.vm), Ls ++ L, c0 + mc, s0 + ms⟩,
      ⟨X.admits, X.cas, X.clock, X.frames, X.room, X.hears, X.method, X.code, (X.here.setHeapUsed s₂.heap s₂.slotsUsed).setVm hW'.alike, X.tail, State.WarmedH.trans X.warmed hW', X.limits, X.bytes, X.same.trans (hsame.setVm s.vm)⟩,
      ⟨g, mk, s₂, L, E, ce, rfl, rfl, hx, hce, hcv, hcl, rfl, hL, rfl, rfl⟩, ?_⟩
    show Steps p.tables e below _ (((({ U with heap := s₂.heap, slotsUsed := s₂.slotsUsed } : State).setVm s₂.vm).setTop g).pushFrame (.throwing q))
    rw [← hs₂]
    exact hsteps
end
variable {p : Program} {l : Launch} {e : Env} {R : Room} {s : State} {m : MethodId} {args : Array Value} {below : List Frame} {meth : Method} {c : Code} {T : State} {H : Heap} {locs : List Loc} {cells slots : Nat}
theorem vx_callVX (X : Stand p l e R s m args below meth c T locs cells slots) (hexec : p.tables.exec = Jvm.exec) {own C : String} {index : Nat} {y : MethodName} {bytes : ByteArray} {maxL : Nat} {ret : Option FieldType} {hh : List (Nat × Nat × Nat × Nat)}
    (hown : s.vm.findClass own = some m.cls) (hlink : (Cond.methodLink own index y).before args s = true) (hinst : (Cond.instanceMethod y).before args s = true) (hsel : (Cond.selects C y y).before args s = true)
    (hcode : (Cond.codeWith y bytes maxL ret hh).before args s = true) (hy : y.cls ≠ "java/lang/invoke/MethodHandle" ∧ y.cls ≠ "java/lang/invoke/VarHandle")
    {W9 : Nat} {Pre : Pt → Array Value → Prop} {Post : Pt → Array Value → Option Value → Pt → Prop} {PostX : Pt → Array Value → Addr → Pt → Prop} (hK : vx_Back l R p e below s args y 3 W9 Pre Post PostX)
    {b : Addr} {cellB : Cell} (hcell : T.heap[b]? = some cellB) (hobj : cellB.vm.isStatics = false) (hcls : s.vm.findClass C = some cellB.cls)
    {g : JFrame} (hg : g.method = m) (hsize : g.locals.size = c.maxLocals) {argsL rest : List Value} (hlen : ∀ sig, parseMethodDescriptor y.desc = some sig → argsL.length = sig.parameters.length)
    (hstack : g.stack = argsL.reverse ++ .ref b :: rest) (hW : 2 * g.monitorRoom + (rest.map fun v => v.category).sum ≤ W9) (hdg : decode c.code g.pc = .ok (.invokevirtual index, 3))
    (hpre : ∀ vm₁, s.WarmedH vm₁ → Pre ⟨T.setVm vm₁, locs, cells, slots⟩ (Value.ref b :: argsL).toArray) :
    (∃ (v : Option Value) (vm₁ : Vm) (B : Pt), s.WarmedH vm₁ ∧ Stand p l e R s m args below meth c B.U B.locs B.cells B.slots ∧ Post ⟨T.setVm vm₁, locs, cells, slots⟩ (Value.ref b :: argsL).toArray v B ∧
      ∀ target, Steps p.tables e below (B.U.setTop { g with pc := g.pc + 3, stack := v.toList ++ rest }) target → Steps p.tables e below (T.setTop g) target) ∨
    (∃ (q : Addr) (vm₁ : Vm) (B : Pt), s.WarmedH vm₁ ∧ Stand p l e R s m args below meth c B.U B.locs B.cells B.slots ∧ PostX ⟨T.setVm vm₁, locs, cells, slots⟩ (Value.ref b :: argsL).toArray q B ∧
      Steps p.tables e below (T.setTop g) ((B.U.setTop { g with stack := rest }).pushFrame (.throwing q))) := by
  obtain ⟨mk, methM, hnamed, hmethM, hstM, habM⟩ := Cond.instanceMethod_spec hinst
  obtain ⟨m8, methM', cM, hn8, hmethM', -, -, -, -, -, -, hsigM⟩ := Cond.codeWith_spec hcode
  cases Option.some.inj (hn8.symm.trans hnamed)
  cases hmethM.symm.trans hmethM'
  obtain ⟨c2, r2, m2, q1, q2, q3, q4, kP, hkP, hkPi⟩ := Cond.selects_spec hsel
  cases hcls.symm.trans q1
  cases (State.methodFound?_of_named hnamed hy).symm.trans q2
  cases hnamed.symm.trans q3
  have hselP : selectMethod e.platform s.vm cellB.cls mk = .method mk := by rw [Launch.admits_selectMethod X.admits]; exact q4
  obtain ⟨vm₁, X₁, hstep₁⟩ := X.invokevirtual hexec hown hlink hnamed hmethM hstM hkP hkPi hy (a := b) (cell := cellB) hcell
    (fun z h => by rw [h] at hobj; cases hobj) hselP hmethM habM hkP hkPi (g := g) hg (argsL := argsL) (rest := rest) (hlen _ hsigM) hstack hdg
  rcases hK m meth c ⟨T.setVm vm₁, locs, cells, slots⟩ { g with stack := rest } (.invokevirtual index) mk (Value.ref b :: argsL).toArray X₁ hg hsize hdg hW (X₁.named hnamed) (hpre vm₁ X₁.warmed) with ⟨v, B, X', hpost, hsteps⟩ | ⟨q, B, X', hpost, hsteps⟩
  · exact Or.inl ⟨v, vm₁, B, X₁.warmed, X', hpost, fun target h => hstep₁ _ fun acts => by rw [doInvoke_state]; exact hsteps.trans h⟩
  · exact Or.inr ⟨q, vm₁, B, X₁.warmed, X', hpost, hstep₁ _ fun acts => by rw [doInvoke_state]; exact hsteps⟩
theorem vx_callSX (X : Stand p l e R s m args below meth c T locs cells slots) (hexec : p.tables.exec = Jvm.exec) {own : String} {index : Nat} {y : MethodName} {bytes : ByteArray} {maxL : Nat} {ret : Option FieldType} {hh : List (Nat × Nat × Nat × Nat)}
    (hown : s.vm.findClass own = some m.cls) (hlink : (Cond.methodLink own index y).before args s = true) (hstat : (Cond.static y).before args s = true) (hinit : (Cond.initialized y.cls).before args s = true)
    (hcode : (Cond.codeWith y bytes maxL ret hh).before args s = true) (hy : y.cls ≠ "java/lang/invoke/MethodHandle" ∧ y.cls ≠ "java/lang/invoke/VarHandle")
    {W9 : Nat} {Pre : Pt → Array Value → Prop} {Post : Pt → Array Value → Option Value → Pt → Prop} {PostX : Pt → Array Value → Addr → Pt → Prop} (hK : vx_Back l R p e below s args y 3 W9 Pre Post PostX)
    {g : JFrame} (hg : g.method = m) (hsize : g.locals.size = c.maxLocals) {argsL rest : List Value} (hlen : ∀ sig, parseMethodDescriptor y.desc = some sig → argsL.length = sig.parameters.length)
    (hstack : g.stack = argsL.reverse ++ rest) (hW : 2 * g.monitorRoom + (rest.map fun v => v.category).sum ≤ W9) (hdg : decode c.code g.pc = .ok (.invokestatic index, 3))
    (hpre : ∀ vm₁, s.WarmedH vm₁ → Pre ⟨T.setVm vm₁, locs, cells, slots⟩ argsL.toArray) :
    (∃ (v : Option Value) (vm₁ : Vm) (B : Pt), s.WarmedH vm₁ ∧ Stand p l e R s m args below meth c B.U B.locs B.cells B.slots ∧ Post ⟨T.setVm vm₁, locs, cells, slots⟩ argsL.toArray v B ∧
      ∀ target, Steps p.tables e below (B.U.setTop { g with pc := g.pc + 3, stack := v.toList ++ rest }) target → Steps p.tables e below (T.setTop g) target) ∨
    (∃ (q : Addr) (vm₁ : Vm) (B : Pt), s.WarmedH vm₁ ∧ Stand p l e R s m args below meth c B.U B.locs B.cells B.slots ∧ PostX ⟨T.setVm vm₁, locs, cells, slots⟩ argsL.toArray q B ∧
      Steps p.tables e below (T.setTop g) ((B.U.setTop { g with stack := rest }).pushFrame (.throwing q))) := by
  obtain ⟨mk, methM, cM, hnamed, hmethM, -, -, -, -, -, -, hsigM⟩ := Cond.codeWith_spec hcode
  have hstatic : methM.isStatic = true := Cond.static_spec hnamed hmethM hstat
  obtain ⟨kP, hkP, -⟩ := className_of_methodNamed hnamed
  have hinitP : kP.init = .initialized := Cond.initialized_spec (findClass_of_methodNamed hnamed) hkP hinit
  obtain ⟨vm₁, X₁, hstep₁⟩ := X.invokestatic hexec hown hlink hnamed hmethM hstatic hkP hinitP hy (g := g) hg (argsL := argsL) (rest := rest) (hlen _ hsigM) hstack hdg
  rcases hK m meth c ⟨T.setVm vm₁, locs, cells, slots⟩ { g with stack := rest } (.invokestatic index) mk argsL.toArray X₁ hg hsize hdg hW (X₁.named hnamed) (hpre vm₁ X₁.warmed) with ⟨v, B, X', hpost, hsteps⟩ | ⟨q, B, X', hpost, hsteps⟩
  · exact Or.inl ⟨v, vm₁, B, X₁.warmed, X', hpost, fun target h => hstep₁ _ fun acts => by rw [doInvoke_state]; exact hsteps.trans h⟩
  · exact Or.inr ⟨q, vm₁, B, X₁.warmed, X', hpost, hstep₁ _ fun acts => by rw [doInvoke_state]; exact hsteps⟩
theorem vx_callVW (X : Stand p l e R s m args below meth c T locs cells slots) (hexec : p.tables.exec = Jvm.exec) {own C : String} {index : Nat} {y : MethodName} {bytes : ByteArray} {maxL : Nat} {ret : Option FieldType} {hh : List (Nat × Nat × Nat × Nat)}
    (hown : s.vm.findClass own = some m.cls) (hlink : (Cond.methodLink own index y).before args s = true) (hinst : (Cond.instanceMethod y).before args s = true) (hsel : (Cond.selects C y y).before args s = true)
    (hcode : (Cond.codeWith y bytes maxL ret hh).before args s = true) (hy : y.cls ≠ "java/lang/invoke/MethodHandle" ∧ y.cls ≠ "java/lang/invoke/VarHandle")
    {W9 : Nat} {Pre : Pt → Array Value → Prop} {Post : Pt → Array Value → Option Value → Pt → Prop} (hK : Back l R p e below s args y 3 W9 Pre Post)
    {b : Addr} {cellB : Cell} (hcell : T.heap[b]? = some cellB) (hobj : cellB.vm.isStatics = false) (hcls : s.vm.findClass C = some cellB.cls)
    {g : JFrame} (hg : g.method = m) (hsize : g.locals.size = c.maxLocals) {argsL rest : List Value} (hlen : ∀ sig, parseMethodDescriptor y.desc = some sig → argsL.length = sig.parameters.length)
    (hstack : g.stack = argsL.reverse ++ .ref b :: rest) (hW : 2 * g.monitorRoom + (rest.map fun v => v.category).sum ≤ W9) (hdg : decode c.code g.pc = .ok (.invokevirtual index, 3))
    (hpre : ∀ vm₁, s.WarmedH vm₁ → Pre ⟨T.setVm vm₁, locs, cells, slots⟩ (Value.ref b :: argsL).toArray) :
    ∃ (v : Option Value) (vm₁ : Vm) (B : Pt), s.WarmedH vm₁ ∧ Stand p l e R s m args below meth c B.U B.locs B.cells B.slots ∧ Post ⟨T.setVm vm₁, locs, cells, slots⟩ (Value.ref b :: argsL).toArray v B ∧
      ∀ target, Steps p.tables e below (B.U.setTop { g with pc := g.pc + 3, stack := v.toList ++ rest }) target → Steps p.tables e below (T.setTop g) target := by
  obtain ⟨mk, methM, hnamed, hmethM, hstM, habM⟩ := Cond.instanceMethod_spec hinst
  obtain ⟨m8, methM', cM, hn8, hmethM', -, -, -, -, -, -, hsigM⟩ := Cond.codeWith_spec hcode
  cases Option.some.inj (hn8.symm.trans hnamed)
  cases hmethM.symm.trans hmethM'
  obtain ⟨c2, r2, m2, q1, q2, q3, q4, kP, hkP, hkPi⟩ := Cond.selects_spec hsel
  cases hcls.symm.trans q1
  cases (State.methodFound?_of_named hnamed hy).symm.trans q2
  cases hnamed.symm.trans q3
  have hselP : selectMethod e.platform s.vm cellB.cls mk = .method mk := by rw [Launch.admits_selectMethod X.admits]; exact q4
  obtain ⟨vm₁, X₁, hstep₁⟩ := X.invokevirtual hexec hown hlink hnamed hmethM hstM hkP hkPi hy (a := b) (cell := cellB) hcell
    (fun z h => by rw [h] at hobj; cases hobj) hselP hmethM habM hkP hkPi (g := g) hg (argsL := argsL) (rest := rest) (hlen _ hsigM) hstack hdg
  obtain ⟨v, B, X', hpost, hsteps⟩ := hK m meth c ⟨T.setVm vm₁, locs, cells, slots⟩ { g with stack := rest } (.invokevirtual index) mk (Value.ref b :: argsL).toArray X₁ hg hsize hdg hW (X₁.named hnamed) (hpre vm₁ X₁.warmed)
  exact ⟨v, vm₁, B, X₁.warmed, X', hpost, fun target h => hstep₁ _ fun acts => by rw [doInvoke_state]; exact hsteps.trans h⟩
abbrev vx_CVW (R : Room) (s : State) (args : Array Value) (own C : String) (index : Nat) (y : MethodName) (bytes : ByteArray) (maxL : Nat) (ret : Option FieldType) (hh : List (Nat × Nat × Nat × Nat)) (ws : List Cond) (rm : Room) (mc ms n : Nat) : Prop :=
  (rm.cells = mc ∧ rm.slots = ms ∧ rm.frames + 1 ≤ R.frames ∧ 8 + (maxL + 11) + rm.locals ≤ R.locals ∧ (∀ w ∈ ws, ∀ (a' : Array Value) (U : State), s.WarmedH U.vm → w.before a' U = true) ∧ Cond.codeWith y bytes maxL ret hh ∈ ws) ∧
  (Cond.codeWith y bytes maxL ret hh).before args s = true ∧ (Cond.initialized y.cls).before args s = true ∧ (y.cls ≠ "java/lang/invoke/MethodHandle" ∧ y.cls ≠ "java/lang/invoke/VarHandle") ∧
  (∀ sig, parseMethodDescriptor y.desc = some sig → n = sig.parameters.length) ∧ (Cond.methodLink own index y).before args s = true ∧ (Cond.instanceMethod y).before args s = true ∧ (Cond.selects C y y).before args s = true
theorem vx_cwVW {own C : String} {index maxL mc ms : Nat} {y : MethodName} {bytes : ByteArray} {ret : Option FieldType} {hh : List (Nat × Nat × Nat × Nat)} {Ts ws ws' : List Cond} {rm : Room} (n : Nat) (ht : ∀ w ∈ Ts, w.before args s = true) (hT : GoodIn Ts (wsV own index C y ws)) (hw : ws = Cond.codeWith y bytes maxL ret hh :: ws') (hrc : rm.cells = mc) (hrs : rm.slots = ms)
    (hd : y.cls = C ∧ y.cls ≠ "java/lang/invoke/MethodHandle" ∧ y.cls ≠ "java/lang/invoke/VarHandle" ∧ (parseMethodDescriptor y.desc).map (fun d => d.parameters.length) = some n) (hR : rm.frames + 1 ≤ R.frames ∧ 8 + (maxL + 11) + rm.locals ≤ R.locals) :
    vx_CVW R s args own C index y bytes maxL ret hh ws rm mc ms n := by
  obtain ⟨hC, hd⟩ := hd
  subst hC
  have ok : ∀ w ∈ wsV own index y.cls y ws, w.before args s = true := fun w h => ht w (hT w h).1
  have hG : GoodIn Ts ws := fun w h => hT w (by unfold wsV; exact List.mem_append_right _ h)
  have hc : Cond.codeWith y bytes maxL ret hh ∈ ws := by rw [hw]; exact List.mem_cons_self
  refine ⟨⟨hrc, hrs, hR.1, hR.2, pay_in ht hG, hc⟩, ht _ (hG _ hc).1, ok _ (by simp [wsV]), ⟨hd.1, hd.2.1⟩, fun sig h => ?_, ok _ (by simp [wsV]), ok _ (by simp [wsV]), ok _ (by simp [wsV])⟩
  have h2 := hd.2.2
  rw [h] at h2
  exact (Option.some.inj h2).symm
theorem vx_runVW {y : MethodName} {bytes cc : ByteArray} {maxL nL mc ms n index : Nat} {ret : Option FieldType} {hh : List (Nat × Nat × Nat × Nat)} {ws : List Cond} {rm : Room} {Pc : Array Value → State → Prop} {Qc : Array Value → State → Outcome → State → Prop} {free : Addr → Prop} {Ts : List Cond} {own C : String} {b : Addr} {As rest : List Value} {g : JFrame}
    (S : CallFix p m c cc nL s args Ts own) (hM : Met l y ws rm Pc Qc mc ms free) (cw : vx_CVW R s args own C index y bytes maxL ret hh ws rm mc ms n) (hp : PreV s H C b Pc As)
    (hg : g.method = m) (hn : As.length = n) (hsize : g.locals.size = nL) (hstack : g.stack = As.reverse ++ .ref b :: rest) (hW : 2 * g.monitorRoom + (rest.map fun v => v.category).sum ≤ 8) (hdg : decode cc g.pc = .ok (.invokevirtual index, 3)) (hf : cells + mc ≤ R.cells ∧ slots + ms ≤ R.slots) :
    va_Run p l e R s m args below meth c H locs cells slots mc ms g rest (Qc (Value.ref b :: As).toArray) free := by
  obtain ⟨⟨hrc, hrs, hfr, hlo, hws, hcw⟩, hcode, hini, hy, hlen, hl, hin, hse⟩ := cw
  have hK : Back l R p e below s args y 3 8 (PreOf R mc ms Pc) (PostOf Qc mc ms free) := va_backW (hh := hh) (bytes := bytes) (maxL := maxL) (ret := ret) hM hp.1 hrc hrs hfr hlo hws hcw (fun a' U hW => word_at hW (Or.inl (by first | rfl | simp [Cond.onTables, Cond.keeps, Cond.steady])) hini)
  obtain ⟨hx, hb, hml, ho, -⟩ := S
  obtain ⟨-, ⟨cellB, hcB, hoB, hclB⟩, hPc⟩ := hp
  intro T hT X
  obtain ⟨v, vm₁, ⟨U', l2, c2, s2⟩, hW₁, X', ⟨g', mk, t, L, e1, e2, hq, h1, hL, h2, h3⟩, st⟩ := vx_callVW X hx (C := C) (hh := hh) (bytes := bytes) (maxL := maxL) (ret := ret) ho hl hin hse hcode hy hK (by rw [hT]; exact hcB) hoB hclB hg (hsize.trans hml.symm) (argsL := As) (rest := rest) (fun sig h => hn.trans (hlen sig h)) hstack hW (by rw [hb]; exact hdg)
    (fun vm₁ hW₁ => ⟨hf.1, hf.2, hPc (T.setVm vm₁) hT hW₁⟩)
  dsimp only [Pt.U, Pt.locs, Pt.cells, Pt.slots] at X' e1 e2 h1 h2 h3 st
  subst h1; subst h2; subst h3
  exact ⟨v, (T.setVm vm₁).calling g' mk (Value.ref b :: As).toArray, t, U', L, hT, X', hL, e1, e2, hq, st⟩
section
variable {y : MethodName} {bytes cc : ByteArray} {maxL nL mc ms n index : Nat} {ret : Option FieldType} {ws : List Cond} {rm : Room} {Pc : Array Value → State → Prop} {Qc : Array Value → State → Outcome → State → Prop} {XC : String → State → State → Prop} {free : Addr → Prop} {Ts : List Cond} {own C : String} {b : Addr} {As rest : List Value} {g : JFrame}
theorem vx_runVX {hh : List (Nat × Nat × Nat × Nat)} (S : CallFix p m c cc nL s args Ts own) (hM : vx_Met l y ws rm Pc Qc XC mc ms free) (cw : vx_CVW R s args own C index y bytes maxL ret hh ws rm mc ms n) (hp : PreV s H C b Pc As)
    (hg : g.method = m) (hn : As.length = n) (hsize : g.locals.size = nL) (hstack : g.stack = As.reverse ++ .ref b :: rest) (hW : 2 * g.monitorRoom + (rest.map fun v => v.category).sum ≤ 8) (hdg : decode cc g.pc = .ok (.invokevirtual index, 3)) (hf : cells + mc ≤ R.cells ∧ slots + ms ≤ R.slots) :
    vx_Run p l e R s m args below meth c H locs cells slots mc ms g rest (Qc (Value.ref b :: As).toArray) XC free := by
  obtain ⟨⟨hrc, hrs, hfr, hlo, hws, hcw⟩, hcode, hini, hy, hlen, hl, hin, hse⟩ := cw
  have hK : vx_Back l R p e below s args y 3 8 (PreOf R mc ms Pc) (PostOf Qc mc ms free) (vx_Post XC mc ms free) := vx_backW (hh := hh) (bytes := bytes) (maxL := maxL) (ret := ret) hM hp.1 hrc hrs hfr hlo hws hcw (fun a' U hW => word_at hW (Or.inl (by first | rfl | simp [Cond.onTables, Cond.keeps, Cond.steady])) hini)
  obtain ⟨hx, hb, hml, ho, -⟩ := S
  obtain ⟨-, ⟨cellB, hcB, hoB, hclB⟩, hPc⟩ := hp
  intro T hT X
  rcases vx_callVX X hx (C := C) (hh := hh) (bytes := bytes) (maxL := maxL) (ret := ret) ho hl hin hse hcode hy hK (by rw [hT]; exact hcB) hoB hclB hg (hsize.trans hml.symm) (argsL := As) (rest := rest) (fun sig h => hn.trans (hlen sig h)) hstack hW (by rw [hb]; exact hdg)
    (fun vm₁ hW₁ => ⟨hf.1, hf.2, hPc (T.setVm vm₁) hT hW₁⟩) with ⟨v, vm₁, ⟨U', l2, c2, s2⟩, hW₁, X', ⟨g', mk, t, L, e1, e2, hq, h1, hL, h2, h3⟩, st⟩ | ⟨q, vm₁, ⟨U', l2, c2, s2⟩, hW₁, X', ⟨g', mk, t, L, E, ce, e1, e2, hq, hce, hcv, hcl, h1, hL, h2, h3⟩, st⟩
  · dsimp only [Pt.U, Pt.locs, Pt.cells, Pt.slots] at X' e1 e2 h1 h2 h3 st
    subst h1; subst h2; subst h3
    exact Or.inl ⟨v, (T.setVm vm₁).calling g' mk (Value.ref b :: As).toArray, t, U', L, hT, X', hL, e1, e2, hq, st⟩
  · dsimp only [Pt.U, Pt.locs, Pt.cells, Pt.slots] at X' e1 e2 h1 h2 h3 st hcl
    subst h1; subst h2; subst h3
    exact Or.inr ⟨q, (T.setVm vm₁).calling g' mk (Value.ref b :: As).toArray, t, U', L, E, ce, hT, X', hL, e1, e2, hq, hce, hcv, vx_cls hW₁ hcl, st⟩
theorem vx_runSX {hh : List (Nat × Nat × Nat × Nat)} (S : CallFix p m c cc nL s args Ts own) (hM : vx_Met l y ws rm Pc Qc XC mc ms free) (cw : vx_CSW R s args own index y bytes maxL ret hh ws rm mc ms n) (hp : PreS s H Pc As)
    (hg : g.method = m) (hn : As.length = n) (hsize : g.locals.size = nL) (hstack : g.stack = As.reverse ++ rest) (hW : 2 * g.monitorRoom + (rest.map fun v => v.category).sum ≤ 8) (hdg : decode cc g.pc = .ok (.invokestatic index, 3)) (hf : cells + mc ≤ R.cells ∧ slots + ms ≤ R.slots) :
    vx_Run p l e R s m args below meth c H locs cells slots mc ms g rest (Qc As.toArray) XC free := by
  obtain ⟨⟨hrc, hrs, hfr, hlo, hws, hcw⟩, hcode, hini, hy, hlen, hl, hstt⟩ := cw
  have hK : vx_Back l R p e below s args y 3 8 (PreOf R mc ms Pc) (PostOf Qc mc ms free) (vx_Post XC mc ms free) := vx_backW (hh := hh) (bytes := bytes) (maxL := maxL) (ret := ret) hM hp.1 hrc hrs hfr hlo hws hcw (fun a' U hW => word_at hW (Or.inl (by first | rfl | simp [Cond.onTables, Cond.keeps, Cond.steady])) hini)
  obtain ⟨hx, hb, hml, ho, -⟩ := S
  intro T hT X
  rcases vx_callSX X hx (hh := hh) (bytes := bytes) (maxL := maxL) (ret := ret) ho hl hstt hini hcode hy hK hg (hsize.trans hml.symm) (argsL := As) (rest := rest) (fun sig h => hn.trans (hlen sig h)) hstack hW (by rw [hb]; exact hdg)
    (fun vm₁ hW₁ => ⟨hf.1, hf.2, hp.2 (T.setVm vm₁) hT hW₁⟩) with ⟨v, vm₁, ⟨U', l2, c2, s2⟩, hW₁, X', ⟨g', mk, t, L, e1, e2, hq, h1, hL, h2, h3⟩, st⟩ | ⟨q, vm₁, ⟨U', l2, c2, s2⟩, hW₁, X', ⟨g', mk, t, L, E, ce, e1, e2, hq, hce, hcv, hcl, h1, hL, h2, h3⟩, st⟩
  · dsimp only [Pt.U, Pt.locs, Pt.cells, Pt.slots] at X' e1 e2 h1 h2 h3 st
    subst h1; subst h2; subst h3
    exact Or.inl ⟨v, (T.setVm vm₁).calling g' mk As.toArray, t, U', L, hT, X', hL, e1, e2, hq, st⟩
  · dsimp only [Pt.U, Pt.locs, Pt.cells, Pt.slots] at X' e1 e2 h1 h2 h3 st hcl
    subst h1; subst h2; subst h3
    exact Or.inr ⟨q, (T.setVm vm₁).calling g' mk As.toArray, t, U', L, E, ce, hT, X', hL, e1, e2, hq, hce, hcv, vx_cls hW₁ hcl, st⟩
end
end VXH
theorem vx_ofWH {l : Launch} {y : MethodName} {ws ws' : List Cond} {rm : Room} {Pc : Array Value → State → Prop} {Qc : Array Value → State → Outcome → State → Prop} {XC : String → State → State → Prop} {mc ms : Nat} {free : Addr → Prop} {cc : ByteArray} {maxL : Nat} {ret : Option FieldType} {hh : List (Nat × Nat × Nat × Nat)}
    (hy : plainName y.cls = true) (hw : ws = Cond.codeWith y cc maxL ret hh :: ws')
    (body : ∀ p e s m args below meth c s₁, BodyLoose p l y (headSpec ws rm) cc maxL ret e s m args below meth c s₁ → c.maxLocals = maxL → Pc args s →
      W p l e (headSpec ws rm).room s m args below meth c s.heap [] 0 0 (vx_MQ below Qc XC args s mc ms free) (entryFrame m args maxL)) : vx_Met l y ws rm Pc Qc XC mc ms free := by
  refine MetFree.of_bodyS (code := cc) (maxLocals := maxL) (ret := ret) hy ?_ ?_
  · intro args s m h hn
    obtain ⟨m9, meth, c, hn9, h1, h2, h3, h4, -, h5, h6, -⟩ := Cond.codeWith_spec (atoms_spec (ws := ws) h _ (by rw [hw]; exact List.mem_cons_self))
    cases hn.symm.trans hn9
    exact ⟨meth, c, h1, h2, h3, h4, h5, h6⟩
  · intro p e s m args below meth c s₁ B hml hP _
    have hh0 : s₁.heap = s.heap := by rw [B.state]; rfl
    obtain ⟨t, a1, o, b1, b2, b3⟩ := body p e s m args below meth c s₁ B hml hP s₁ hh0 (Stand.of_body B)
    exact ⟨t, o, a1, b1, b2, b3⟩
/-! ===== END ===== -/
end
section
/-! ===== BEGIN printed: names, fields, word lists, decode rows ===== -/
def RX0 : String := "TollGateway$Call"
def TX0 : u_T := fun k => match k with
  | 0 => ("TollGateway$Call", "key", "LTollGateway$Key;", true)
  | 1 => ("TollGateway$Call", "worth", "I", true)
  | 2 => ("TollGateway$Call", "weight", "I", true)
  | 3 => ("TollGateway$Call", "dueTick", "I", true)
  | 4 => ("TollGateway$Call", "cost", "I", false)
  | 5 => ("TollGateway$Call", "endTick", "I", false)
  | _ => ("TollGateway$Call", "wasDisputed", "Z", false)
def tyX0 : Nat → FieldType := fun k => match k with
  | 0 => .object "TollGateway$Key"
  | 1 => .int
  | 2 => .int
  | 3 => .int
  | 4 => .int
  | 5 => .int
  | _ => .boolean
abbrev wsX00 : List Cond := u_ws RX0 TX0 7
theorem nmX0 : ∀ a, a < 7 → ∀ b, b < 7 → a ≠ b → (TX0 a).2.1 ≠ (TX0 b).2.1 := by decide +kernel
theorem tyX0_ok : ∀ k, k < 7 → parseFieldDescriptor (TX0 k).2.2.1 = some (tyX0 k) := by decide +kernel
abbrev cX0_init : ByteArray := prog_2_method_1_code
def yX0_init : MethodName := ⟨RX0, "<init>", "(LTollGateway$Key;III)V"⟩
abbrev cX0_hasEnded : ByteArray := prog_2_method_2_code
def yX0_hasEnded : MethodName := ⟨RX0, "hasEnded", "()Z"⟩
abbrev cX0_settle : ByteArray := prog_2_method_3_code
def yX0_settle : MethodName := ⟨RX0, "settle", "(II)V"⟩
abbrev cX0_costOf : ByteArray := prog_2_method_4_code
def yX0_costOf : MethodName := ⟨RX0, "costOf", "(I)I"⟩
abbrev cX0_giveBack : ByteArray := prog_2_method_5_code
def yX0_giveBack : MethodName := ⟨RX0, "giveBack", "()I"⟩
def RX1 : String := "TollGateway$Key"
def TX1 : u_T := fun k => match k with
  | 0 => ("TollGateway$Key", "plan", "LTollGateway$Plan;", false)
  | 1 => ("TollGateway$Key", "tokens", "I", false)
  | 2 => ("TollGateway$Key", "trustLine", "I", false)
  | 3 => ("TollGateway$Key", "credit", "I", false)
  | 4 => ("TollGateway$Key", "debt", "I", false)
  | 5 => ("TollGateway$Key", "held", "I", false)
  | 6 => ("TollGateway$Key", "openHolds", "I", false)
  | 7 => ("TollGateway$Key", "spent", "I", false)
  | _ => ("TollGateway$Key", "paid", "I", false)
def tyX1 : Nat → FieldType := fun k => match k with
  | 0 => .object "TollGateway$Plan"
  | 1 => .int
  | 2 => .int
  | 3 => .int
  | 4 => .int
  | 5 => .int
  | 6 => .int
  | 7 => .int
  | _ => .int
abbrev wsX10 : List Cond := u_ws RX1 TX1 9
theorem nmX1 : ∀ a, a < 9 → ∀ b, b < 9 → a ≠ b → (TX1 a).2.1 ≠ (TX1 b).2.1 := by decide +kernel
theorem tyX1_ok : ∀ k, k < 9 → parseFieldDescriptor (TX1 k).2.2.1 = some (tyX1 k) := by decide +kernel
abbrev cX1_init : ByteArray := prog_3_method_1_code
def yX1_init : MethodName := ⟨RX1, "<init>", "(LTollGateway$Plan;)V"⟩
abbrev cX1_receive : ByteArray := prog_3_method_2_code
def yX1_receive : MethodName := ⟨RX1, "receive", "(I)V"⟩
abbrev cX1_canCover : ByteArray := prog_3_method_3_code
def yX1_canCover : MethodName := ⟨RX1, "canCover", "(I)Z"⟩
abbrev cX1_openHold : ByteArray := prog_3_method_4_code
def yX1_openHold : MethodName := ⟨RX1, "openHold", "(I)V"⟩
abbrev cX1_closeHold : ByteArray := prog_3_method_5_code
def yX1_closeHold : MethodName := ⟨RX1, "closeHold", "(II)V"⟩
abbrev cX1_refillsSlowly : ByteArray := prog_3_method_6_code
def yX1_refillsSlowly : MethodName := ⟨RX1, "refillsSlowly", "()Z"⟩
abbrev cX1_refillBucket : ByteArray := prog_3_method_7_code
def yX1_refillBucket : MethodName := ⟨RX1, "refillBucket", "()V"⟩
def RX2 : String := "TollGateway$Plan"
def TX2 : u_T := fun k => match k with
  | 0 => ("TollGateway$Plan", "number", "I", true)
  | 1 => ("TollGateway$Plan", "size", "I", false)
  | 2 => ("TollGateway$Plan", "refill", "I", false)
  | _ => ("TollGateway$Plan", "slowRefill", "I", false)
def tyX2 : Nat → FieldType := fun k => match k with
  | 0 => .int
  | 1 => .int
  | 2 => .int
  | _ => .int
abbrev wsX20 : List Cond := u_ws RX2 TX2 4
theorem nmX2 : ∀ a, a < 4 → ∀ b, b < 4 → a ≠ b → (TX2 a).2.1 ≠ (TX2 b).2.1 := by decide +kernel
theorem tyX2_ok : ∀ k, k < 4 → parseFieldDescriptor (TX2 k).2.2.1 = some (tyX2 k) := by decide +kernel
abbrev cX2_init : ByteArray := prog_4_method_1_code
def yX2_init : MethodName := ⟨RX2, "<init>", "(I)V"⟩
def RX3 : String := "TollGateway$Route"
def TX3 : u_T := fun k => match k with
  | 0 => ("TollGateway$Route", "price", "I", false)
  | _ => ("TollGateway$Route", "weight", "I", false)
def tyX3 : Nat → FieldType := fun k => match k with
  | 0 => .int
  | _ => .int
abbrev wsX30 : List Cond := u_ws RX3 TX3 2
theorem nmX3 : ∀ a, a < 2 → ∀ b, b < 2 → a ≠ b → (TX3 a).2.1 ≠ (TX3 b).2.1 := by decide +kernel
theorem tyX3_ok : ∀ k, k < 2 → parseFieldDescriptor (TX3 k).2.2.1 = some (tyX3 k) := by decide +kernel
abbrev cX3_init : ByteArray := prog_5_method_1_code
def yX3_init : MethodName := ⟨RX3, "<init>", "()V"⟩
def RX4 : String := "TollGateway"
def TX4 : u_T := fun k => match k with
  | 0 => ("TollGateway", "plans", "[LTollGateway$Plan;", true)
  | 1 => ("TollGateway", "routes", "[LTollGateway$Route;", true)
  | 2 => ("TollGateway", "keys", "Ljava/util/ArrayList;", true)
  | 3 => ("TollGateway", "letThrough", "Ljava/util/ArrayList;", true)
  | 4 => ("TollGateway", "tick", "I", false)
  | _ => ("TollGateway", "nextToRunOut", "I", false)
def tyX4 : Nat → FieldType := fun k => match k with
  | 0 => .array (.object "TollGateway$Plan")
  | 1 => .array (.object "TollGateway$Route")
  | 2 => .object "java/util/ArrayList"
  | 3 => .object "java/util/ArrayList"
  | 4 => .int
  | _ => .int
abbrev wsX40 : List Cond := u_ws RX4 TX4 6
theorem nmX4 : ∀ a, a < 6 → ∀ b, b < 6 → a ≠ b → (TX4 a).2.1 ≠ (TX4 b).2.1 := by decide +kernel
theorem tyX4_ok : ∀ k, k < 6 → parseFieldDescriptor (TX4 k).2.2.1 = some (tyX4 k) := by decide +kernel
abbrev cX4_init : ByteArray := prog_1_method_1_code
def yX4_init : MethodName := ⟨RX4, "<init>", "()V"⟩
abbrev cX4_setPlan : ByteArray := prog_1_method_2_code
def yX4_setPlan : MethodName := ⟨RX4, "setPlan", "(IIII)V"⟩
abbrev cX4_setRoute : ByteArray := prog_1_method_3_code
def yX4_setRoute : MethodName := ⟨RX4, "setRoute", "(III)V"⟩
abbrev cX4_addKey : ByteArray := prog_1_method_4_code
def yX4_addKey : MethodName := ⟨RX4, "addKey", "(I)I"⟩
abbrev cX4_setKeyPlan : ByteArray := prog_1_method_5_code
def yX4_setKeyPlan : MethodName := ⟨RX4, "setKeyPlan", "(II)I"⟩
abbrev cX4_setTrust : ByteArray := prog_1_method_6_code
def yX4_setTrust : MethodName := ⟨RX4, "setTrust", "(II)I"⟩
abbrev cX4_pay : ByteArray := prog_1_method_7_code
def yX4_pay : MethodName := ⟨RX4, "pay", "(II)I"⟩
abbrev cX4_call : ByteArray := prog_1_method_8_code
def yX4_call : MethodName := ⟨RX4, "call", "(III)I"⟩
abbrev cX4_end : ByteArray := prog_1_method_9_code
def yX4_end : MethodName := ⟨RX4, "end", "(II)I"⟩
abbrev cX4_dispute : ByteArray := prog_1_method_10_code
def yX4_dispute : MethodName := ⟨RX4, "dispute", "(I)I"⟩
abbrev cX4_pass : ByteArray := prog_1_method_11_code
def yX4_pass : MethodName := ⟨RX4, "pass", "(I)I"⟩
abbrev cX4_now : ByteArray := prog_1_method_12_code
def yX4_now : MethodName := ⟨RX4, "now", "()I"⟩
abbrev cX4_calls : ByteArray := prog_1_method_13_code
def yX4_calls : MethodName := ⟨RX4, "calls", "()I"⟩
abbrev cX4_credit : ByteArray := prog_1_method_14_code
def yX4_credit : MethodName := ⟨RX4, "credit", "(I)I"⟩
abbrev cX4_debt : ByteArray := prog_1_method_15_code
def yX4_debt : MethodName := ⟨RX4, "debt", "(I)I"⟩
abbrev cX4_held : ByteArray := prog_1_method_16_code
def yX4_held : MethodName := ⟨RX4, "held", "(I)I"⟩
abbrev cX4_tokens : ByteArray := prog_1_method_17_code
def yX4_tokens : MethodName := ⟨RX4, "tokens", "(I)I"⟩
abbrev cX4_isSlowed : ByteArray := prog_1_method_18_code
def yX4_isSlowed : MethodName := ⟨RX4, "isSlowed", "(I)Z"⟩
abbrev cX4_cost : ByteArray := prog_1_method_19_code
def yX4_cost : MethodName := ⟨RX4, "cost", "(I)I"⟩
abbrev cX4_spent : ByteArray := prog_1_method_20_code
def yX4_spent : MethodName := ⟨RX4, "spent", "(I)I"⟩
abbrev cX4_paid : ByteArray := prog_1_method_21_code
def yX4_paid : MethodName := ⟨RX4, "paid", "(I)I"⟩
abbrev cX4_planAt : ByteArray := prog_1_method_22_code
def yX4_planAt : MethodName := ⟨RX4, "planAt", "(I)LTollGateway$Plan;"⟩
abbrev cX4_routeAt : ByteArray := prog_1_method_23_code
def yX4_routeAt : MethodName := ⟨RX4, "routeAt", "(I)LTollGateway$Route;"⟩
abbrev cX4_keyAt : ByteArray := prog_1_method_24_code
def yX4_keyAt : MethodName := ⟨RX4, "keyAt", "(I)LTollGateway$Key;"⟩
abbrev cX4_callAt : ByteArray := prog_1_method_25_code
def yX4_callAt : MethodName := ⟨RX4, "callAt", "(I)LTollGateway$Call;"⟩
abbrev cX4_refuseOutside : ByteArray := prog_1_method_26_code
def yX4_refuseOutside : MethodName := ⟨RX4, "refuseOutside", "(III)V"⟩
abbrev cX4_runOutHolds : ByteArray := prog_1_method_27_code
def yX4_runOutHolds : MethodName := ⟨RX4, "runOutHolds", "()I"⟩
abbrev cX4_refillBuckets : ByteArray := prog_1_method_28_code
def yX4_refillBuckets : MethodName := ⟨RX4, "refillBuckets", "()V"⟩
def RX5 : String := "TollGatewayModel"
def TX5 : u_T := fun k => match k with
  | 0 => ("TollGatewayModel", "thrown", "I", false)
  | 1 => ("TollGatewayModel", "sizes", "[I", true)
  | 2 => ("TollGatewayModel", "refills", "[I", true)
  | 3 => ("TollGatewayModel", "slows", "[I", true)
  | 4 => ("TollGatewayModel", "prices", "[I", true)
  | 5 => ("TollGatewayModel", "weights", "[I", true)
  | 6 => ("TollGatewayModel", "keys", "I", false)
  | 7 => ("TollGatewayModel", "plans", "[I", true)
  | 8 => ("TollGatewayModel", "credits", "[I", true)
  | 9 => ("TollGatewayModel", "lines", "[I", true)
  | 10 => ("TollGatewayModel", "debts", "[I", true)
  | 11 => ("TollGatewayModel", "tokens", "[I", true)
  | 12 => ("TollGatewayModel", "paid", "[I", true)
  | 13 => ("TollGatewayModel", "calls", "I", false)
  | 14 => ("TollGatewayModel", "callers", "[I", true)
  | 15 => ("TollGatewayModel", "worths", "[I", true)
  | 16 => ("TollGatewayModel", "took", "[I", true)
  | 17 => ("TollGatewayModel", "begun", "[I", true)
  | 18 => ("TollGatewayModel", "costs", "[I", true)
  | 19 => ("TollGatewayModel", "endedAt", "[I", true)
  | 20 => ("TollGatewayModel", "hasEnded", "[Z", true)
  | 21 => ("TollGatewayModel", "isDisputed", "[Z", true)
  | _ => ("TollGatewayModel", "tick", "I", false)
def tyX5 : Nat → FieldType := fun k => match k with
  | 0 => .int
  | 1 => .array .int
  | 2 => .array .int
  | 3 => .array .int
  | 4 => .array .int
  | 5 => .array .int
  | 6 => .int
  | 7 => .array .int
  | 8 => .array .int
  | 9 => .array .int
  | 10 => .array .int
  | 11 => .array .int
  | 12 => .array .int
  | 13 => .int
  | 14 => .array .int
  | 15 => .array .int
  | 16 => .array .int
  | 17 => .array .int
  | 18 => .array .int
  | 19 => .array .int
  | 20 => .array .boolean
  | 21 => .array .boolean
  | _ => .int
abbrev wsX50 : List Cond := u_ws RX5 TX5 23
theorem nmX5 : ∀ a, a < 23 → ∀ b, b < 23 → a ≠ b → (TX5 a).2.1 ≠ (TX5 b).2.1 := by decide +kernel
theorem tyX5_ok : ∀ k, k < 23 → parseFieldDescriptor (TX5 k).2.2.1 = some (tyX5 k) := by decide +kernel
abbrev cX5_init : ByteArray := prog_7_method_1_code
def yX5_init : MethodName := ⟨RX5, "<init>", "()V"⟩
abbrev cX5_thrown : ByteArray := prog_7_method_2_code
def yX5_thrown : MethodName := ⟨RX5, "thrown", "()I"⟩
abbrev cX5_goesWell : ByteArray := prog_7_method_3_code
def yX5_goesWell : MethodName := ⟨RX5, "goesWell", "(I)Z"⟩
abbrev cX5_in : ByteArray := prog_7_method_4_code
def yX5_in : MethodName := ⟨RX5, "in", "(III)Z"⟩
abbrev cX5_isPlan : ByteArray := prog_7_method_5_code
def yX5_isPlan : MethodName := ⟨RX5, "isPlan", "(I)Z"⟩
abbrev cX5_isRoute : ByteArray := prog_7_method_6_code
def yX5_isRoute : MethodName := ⟨RX5, "isRoute", "(I)Z"⟩
abbrev cX5_isKey : ByteArray := prog_7_method_7_code
def yX5_isKey : MethodName := ⟨RX5, "isKey", "(I)Z"⟩
abbrev cX5_isCall : ByteArray := prog_7_method_8_code
def yX5_isCall : MethodName := ⟨RX5, "isCall", "(I)Z"⟩
abbrev cX5_setPlan : ByteArray := prog_7_method_9_code
def yX5_setPlan : MethodName := ⟨RX5, "setPlan", "(IIII)V"⟩
abbrev cX5_setRoute : ByteArray := prog_7_method_10_code
def yX5_setRoute : MethodName := ⟨RX5, "setRoute", "(III)V"⟩
abbrev cX5_addKey : ByteArray := prog_7_method_11_code
def yX5_addKey : MethodName := ⟨RX5, "addKey", "(I)I"⟩
abbrev cX5_setKeyPlan : ByteArray := prog_7_method_12_code
def yX5_setKeyPlan : MethodName := ⟨RX5, "setKeyPlan", "(II)I"⟩
abbrev cX5_setTrust : ByteArray := prog_7_method_13_code
def yX5_setTrust : MethodName := ⟨RX5, "setTrust", "(II)I"⟩
abbrev cX5_give : ByteArray := prog_7_method_14_code
def yX5_give : MethodName := ⟨RX5, "give", "(II)V"⟩
abbrev cX5_pay : ByteArray := prog_7_method_15_code
def yX5_pay : MethodName := ⟨RX5, "pay", "(II)I"⟩
abbrev cX5_leftOf : ByteArray := prog_7_method_16_code
def yX5_leftOf : MethodName := ⟨RX5, "leftOf", "(I)I"⟩
abbrev cX5_call : ByteArray := prog_7_method_17_code
def yX5_call : MethodName := ⟨RX5, "call", "(III)I"⟩
abbrev cX5_settle : ByteArray := prog_7_method_18_code
def yX5_settle : MethodName := ⟨RX5, "settle", "(II)V"⟩
abbrev cX5_end : ByteArray := prog_7_method_19_code
def yX5_end : MethodName := ⟨RX5, "end", "(II)I"⟩
abbrev cX5_dispute : ByteArray := prog_7_method_20_code
def yX5_dispute : MethodName := ⟨RX5, "dispute", "(I)I"⟩
abbrev cX5_isSlow : ByteArray := prog_7_method_21_code
def yX5_isSlow : MethodName := ⟨RX5, "isSlow", "(I)Z"⟩
abbrev cX5_passOne : ByteArray := prog_7_method_22_code
def yX5_passOne : MethodName := ⟨RX5, "passOne", "()I"⟩
abbrev cX5_pass : ByteArray := prog_7_method_23_code
def yX5_pass : MethodName := ⟨RX5, "pass", "(I)I"⟩
abbrev cX5_now : ByteArray := prog_7_method_24_code
def yX5_now : MethodName := ⟨RX5, "now", "()I"⟩
abbrev cX5_calls : ByteArray := prog_7_method_25_code
def yX5_calls : MethodName := ⟨RX5, "calls", "()I"⟩
abbrev cX5_credit : ByteArray := prog_7_method_26_code
def yX5_credit : MethodName := ⟨RX5, "credit", "(I)I"⟩
abbrev cX5_debt : ByteArray := prog_7_method_27_code
def yX5_debt : MethodName := ⟨RX5, "debt", "(I)I"⟩
abbrev cX5_held : ByteArray := prog_7_method_28_code
def yX5_held : MethodName := ⟨RX5, "held", "(I)I"⟩
abbrev cX5_tokens : ByteArray := prog_7_method_29_code
def yX5_tokens : MethodName := ⟨RX5, "tokens", "(I)I"⟩
abbrev cX5_isSlowed : ByteArray := prog_7_method_30_code
def yX5_isSlowed : MethodName := ⟨RX5, "isSlowed", "(I)Z"⟩
abbrev cX5_cost : ByteArray := prog_7_method_31_code
def yX5_cost : MethodName := ⟨RX5, "cost", "(I)I"⟩
abbrev cX5_spent : ByteArray := prog_7_method_32_code
def yX5_spent : MethodName := ⟨RX5, "spent", "(I)I"⟩
abbrev cX5_paid : ByteArray := prog_7_method_33_code
def yX5_paid : MethodName := ⟨RX5, "paid", "(I)I"⟩
def RJx145de : String := "java/io/Serializable"
def TJx145de : u_T := fun k => match k with
  | _ => ("", "", "", false)
def tyJx145de : Nat → FieldType := fun k => match k with
  | _ => .int
abbrev wsJx145de0 : List Cond := u_ws RJx145de TJx145de 0
theorem nmJx145de : ∀ a, a < 0 → ∀ b, b < 0 → a ≠ b → (TJx145de a).2.1 ≠ (TJx145de b).2.1 := by decide +kernel
theorem tyJx145de_ok : ∀ k, k < 0 → parseFieldDescriptor (TJx145de k).2.2.1 = some (tyJx145de k) := by decide +kernel
def RJx8e188 : String := "java/lang/Cloneable"
def TJx8e188 : u_T := fun k => match k with
  | _ => ("", "", "", false)
def tyJx8e188 : Nat → FieldType := fun k => match k with
  | _ => .int
abbrev wsJx8e1880 : List Cond := u_ws RJx8e188 TJx8e188 0
theorem nmJx8e188 : ∀ a, a < 0 → ∀ b, b < 0 → a ≠ b → (TJx8e188 a).2.1 ≠ (TJx8e188 b).2.1 := by decide +kernel
theorem tyJx8e188_ok : ∀ k, k < 0 → parseFieldDescriptor (TJx8e188 k).2.2.1 = some (tyJx8e188 k) := by decide +kernel
def RJxab1ab : String := "java/lang/Iterable"
def TJxab1ab : u_T := fun k => match k with
  | _ => ("", "", "", false)
def tyJxab1ab : Nat → FieldType := fun k => match k with
  | _ => .int
abbrev wsJxab1ab0 : List Cond := u_ws RJxab1ab TJxab1ab 0
theorem nmJxab1ab : ∀ a, a < 0 → ∀ b, b < 0 → a ≠ b → (TJxab1ab a).2.1 ≠ (TJxab1ab b).2.1 := by decide +kernel
theorem tyJxab1ab_ok : ∀ k, k < 0 → parseFieldDescriptor (TJxab1ab k).2.2.1 = some (tyJxab1ab k) := by decide +kernel
def RJ9 : String := "java/lang/Math"
def TJ9 : u_T := fun k => match k with
  | _ => ("", "", "", false)
def tyJ9 : Nat → FieldType := fun k => match k with
  | _ => .int
abbrev wsJ90 : List Cond := u_ws RJ9 TJ9 0
theorem nmJ9 : ∀ a, a < 0 → ∀ b, b < 0 → a ≠ b → (TJ9 a).2.1 ≠ (TJ9 b).2.1 := by decide +kernel
theorem tyJ9_ok : ∀ k, k < 0 → parseFieldDescriptor (TJ9 k).2.2.1 = some (tyJ9 k) := by decide +kernel
abbrev cJ9_max_7cf53 : ByteArray := prog_15_method_65_code
def yJ9_max_7cf53 : MethodName := ⟨RJ9, "max", "(II)I"⟩
abbrev cJ9_min_7cf53 : ByteArray := prog_15_method_69_code
def yJ9_min_7cf53 : MethodName := ⟨RJ9, "min", "(II)I"⟩
def RJ0 : String := "java/lang/String"
def TJ0 : u_T := fun k => match k with
  | _ => ("", "", "", false)
def tyJ0 : Nat → FieldType := fun k => match k with
  | _ => .int
abbrev wsJ00 : List Cond := u_ws RJ0 TJ0 0
theorem nmJ0 : ∀ a, a < 0 → ∀ b, b < 0 → a ≠ b → (TJ0 a).2.1 ≠ (TJ0 b).2.1 := by decide +kernel
theorem tyJ0_ok : ∀ k, k < 0 → parseFieldDescriptor (TJ0 k).2.2.1 = some (tyJ0 k) := by decide +kernel
def RJ10 : String := "java/lang/System"
def TJ10 : u_T := fun k => match k with
  | _ => ("", "", "", false)
def tyJ10 : Nat → FieldType := fun k => match k with
  | _ => .int
abbrev wsJ100 : List Cond := u_ws RJ10 TJ10 0
theorem nmJ10 : ∀ a, a < 0 → ∀ b, b < 0 → a ≠ b → (TJ10 a).2.1 ≠ (TJ10 b).2.1 := by decide +kernel
theorem tyJ10_ok : ∀ k, k < 0 → parseFieldDescriptor (TJ10 k).2.2.1 = some (tyJ10 k) := by decide +kernel
def RJxa1e45 : String := "java/util/AbstractCollection"
def TJxa1e45 : u_T := fun k => match k with
  | _ => ("", "", "", false)
def tyJxa1e45 : Nat → FieldType := fun k => match k with
  | _ => .int
abbrev wsJxa1e450 : List Cond := u_ws RJxa1e45 TJxa1e45 0
theorem nmJxa1e45 : ∀ a, a < 0 → ∀ b, b < 0 → a ≠ b → (TJxa1e45 a).2.1 ≠ (TJxa1e45 b).2.1 := by decide +kernel
theorem tyJxa1e45_ok : ∀ k, k < 0 → parseFieldDescriptor (TJxa1e45 k).2.2.1 = some (tyJxa1e45 k) := by decide +kernel
abbrev cJxa1e45_init_da8c8 : ByteArray := prog_20_method_1_code
def yJxa1e45_init_da8c8 : MethodName := ⟨RJxa1e45, "<init>", "()V"⟩
def RJxc12de : String := "java/util/AbstractList"
def TJxc12de : u_T := fun k => match k with
  | _ => ("", "", "", false)
def tyJxc12de : Nat → FieldType := fun k => match k with
  | _ => .int
abbrev wsJxc12de0 : List Cond := u_ws RJxc12de TJxc12de 0
theorem nmJxc12de : ∀ a, a < 0 → ∀ b, b < 0 → a ≠ b → (TJxc12de a).2.1 ≠ (TJxc12de b).2.1 := by decide +kernel
theorem tyJxc12de_ok : ∀ k, k < 0 → parseFieldDescriptor (TJxc12de k).2.2.1 = some (tyJxc12de k) := by decide +kernel
abbrev cJxc12de_init_da8c8 : ByteArray := prog_21_method_1_code
def yJxc12de_init_da8c8 : MethodName := ⟨RJxc12de, "<init>", "()V"⟩
def RJx4a65c : String := "java/util/ArrayList"
def TJx4a65c : u_T := fun k => match k with
  | 0 => ("java/util/AbstractList", "modCount", "I", false)
  | 1 => ("java/util/ArrayList", "elementData", "[Ljava/lang/Object;", false)
  | _ => ("java/util/ArrayList", "size", "I", false)
def tyJx4a65c : Nat → FieldType := fun k => match k with
  | 0 => .int
  | 1 => .array (.object "java/lang/Object")
  | _ => .int
abbrev wsJx4a65c0 : List Cond := u_ws RJx4a65c TJx4a65c 3
theorem nmJx4a65c : ∀ a, a < 3 → ∀ b, b < 3 → a ≠ b → (TJx4a65c a).2.1 ≠ (TJx4a65c b).2.1 := by decide +kernel
theorem tyJx4a65c_ok : ∀ k, k < 3 → parseFieldDescriptor (TJx4a65c k).2.2.1 = some (tyJx4a65c k) := by decide +kernel
abbrev cJx4a65c_init_da8c8 : ByteArray := prog_22_method_2_code
def yJx4a65c_init_da8c8 : MethodName := ⟨RJx4a65c, "<init>", "()V"⟩
abbrev cJx4a65c_grow_92f84 : ByteArray := prog_22_method_6_code
def yJx4a65c_grow_92f84 : MethodName := ⟨RJx4a65c, "grow", "(I)[Ljava/lang/Object;"⟩
abbrev cJx4a65c_grow_d5877 : ByteArray := prog_22_method_7_code
def yJx4a65c_grow_d5877 : MethodName := ⟨RJx4a65c, "grow", "()[Ljava/lang/Object;"⟩
abbrev cJx4a65c_size_8abf5 : ByteArray := prog_22_method_8_code
def yJx4a65c_size_8abf5 : MethodName := ⟨RJx4a65c, "size", "()I"⟩
abbrev cJx4a65c_elementData_915e3 : ByteArray := prog_22_method_18_code
def yJx4a65c_elementData_915e3 : MethodName := ⟨RJx4a65c, "elementData", "(I)Ljava/lang/Object;"⟩
abbrev cJx4a65c_get_915e3 : ByteArray := prog_22_method_20_code
def yJx4a65c_get_915e3 : MethodName := ⟨RJx4a65c, "get", "(I)Ljava/lang/Object;"⟩
abbrev cJx4a65c_add_72be8 : ByteArray := prog_22_method_24_code
def yJx4a65c_add_72be8 : MethodName := ⟨RJx4a65c, "add", "(Ljava/lang/Object;[Ljava/lang/Object;I)V"⟩
abbrev cJx4a65c_add_9ea2d : ByteArray := prog_22_method_25_code
def yJx4a65c_add_9ea2d : MethodName := ⟨RJx4a65c, "add", "(Ljava/lang/Object;)Z"⟩
def RJ7 : String := "java/util/Arrays"
def TJ7 : u_T := fun k => match k with
  | _ => ("", "", "", false)
def tyJ7 : Nat → FieldType := fun k => match k with
  | _ => .int
abbrev wsJ70 : List Cond := u_ws RJ7 TJ7 0
theorem nmJ7 : ∀ a, a < 0 → ∀ b, b < 0 → a ≠ b → (TJ7 a).2.1 ≠ (TJ7 b).2.1 := by decide +kernel
theorem tyJ7_ok : ∀ k, k < 0 → parseFieldDescriptor (TJ7 k).2.2.1 = some (tyJ7 k) := by decide +kernel
abbrev cJ7_copyOf_1904c : ByteArray := prog_23_method_119_code
def yJ7_copyOf_1904c : MethodName := ⟨RJ7, "copyOf", "([Ljava/lang/Object;I)[Ljava/lang/Object;"⟩
abbrev cJ7_copyOf_6403c : ByteArray := prog_23_method_120_code
def yJ7_copyOf_6403c : MethodName := ⟨RJ7, "copyOf", "([Ljava/lang/Object;ILjava/lang/Class;)[Ljava/lang/Object;"⟩
def RJx5ef63 : String := "java/util/Collection"
def TJx5ef63 : u_T := fun k => match k with
  | _ => ("", "", "", false)
def tyJx5ef63 : Nat → FieldType := fun k => match k with
  | _ => .int
abbrev wsJx5ef630 : List Cond := u_ws RJx5ef63 TJx5ef63 0
theorem nmJx5ef63 : ∀ a, a < 0 → ∀ b, b < 0 → a ≠ b → (TJx5ef63 a).2.1 ≠ (TJx5ef63 b).2.1 := by decide +kernel
theorem tyJx5ef63_ok : ∀ k, k < 0 → parseFieldDescriptor (TJx5ef63 k).2.2.1 = some (tyJx5ef63 k) := by decide +kernel
def RJxbd725 : String := "java/util/List"
def TJxbd725 : u_T := fun k => match k with
  | _ => ("", "", "", false)
def tyJxbd725 : Nat → FieldType := fun k => match k with
  | _ => .int
abbrev wsJxbd7250 : List Cond := u_ws RJxbd725 TJxbd725 0
theorem nmJxbd725 : ∀ a, a < 0 → ∀ b, b < 0 → a ≠ b → (TJxbd725 a).2.1 ≠ (TJxbd725 b).2.1 := by decide +kernel
theorem tyJxbd725_ok : ∀ k, k < 0 → parseFieldDescriptor (TJxbd725 k).2.2.1 = some (tyJxbd725 k) := by decide +kernel
def RJ15 : String := "java/util/Objects"
def TJ15 : u_T := fun k => match k with
  | _ => ("", "", "", false)
def tyJ15 : Nat → FieldType := fun k => match k with
  | _ => .int
abbrev wsJ150 : List Cond := u_ws RJ15 TJ15 0
theorem nmJ15 : ∀ a, a < 0 → ∀ b, b < 0 → a ≠ b → (TJ15 a).2.1 ≠ (TJ15 b).2.1 := by decide +kernel
theorem tyJ15_ok : ∀ k, k < 0 → parseFieldDescriptor (TJ15 k).2.2.1 = some (tyJ15 k) := by decide +kernel
abbrev cJ15_checkIndex_7cf53 : ByteArray := prog_26_method_17_code
def yJ15_checkIndex_7cf53 : MethodName := ⟨RJ15, "checkIndex", "(II)I"⟩
def RJxf0a74 : String := "java/util/RandomAccess"
def TJxf0a74 : u_T := fun k => match k with
  | _ => ("", "", "", false)
def tyJxf0a74 : Nat → FieldType := fun k => match k with
  | _ => .int
abbrev wsJxf0a740 : List Cond := u_ws RJxf0a74 TJxf0a74 0
theorem nmJxf0a74 : ∀ a, a < 0 → ∀ b, b < 0 → a ≠ b → (TJxf0a74 a).2.1 ≠ (TJxf0a74 b).2.1 := by decide +kernel
theorem tyJxf0a74_ok : ∀ k, k < 0 → parseFieldDescriptor (TJxf0a74 k).2.2.1 = some (tyJxf0a74 k) := by decide +kernel
def RJxa66e6 : String := "java/util/SequencedCollection"
def TJxa66e6 : u_T := fun k => match k with
  | _ => ("", "", "", false)
def tyJxa66e6 : Nat → FieldType := fun k => match k with
  | _ => .int
abbrev wsJxa66e60 : List Cond := u_ws RJxa66e6 TJxa66e6 0
theorem nmJxa66e6 : ∀ a, a < 0 → ∀ b, b < 0 → a ≠ b → (TJxa66e6 a).2.1 ≠ (TJxa66e6 b).2.1 := by decide +kernel
theorem tyJxa66e6_ok : ∀ k, k < 0 → parseFieldDescriptor (TJxa66e6 k).2.2.1 = some (tyJxa66e6 k) := by decide +kernel
def RJ8 : String := "jdk/internal/util/ArraysSupport"
def TJ8 : u_T := fun k => match k with
  | _ => ("", "", "", false)
def tyJ8 : Nat → FieldType := fun k => match k with
  | _ => .int
abbrev wsJ80 : List Cond := u_ws RJ8 TJ8 0
theorem nmJ8 : ∀ a, a < 0 → ∀ b, b < 0 → a ≠ b → (TJ8 a).2.1 ≠ (TJ8 b).2.1 := by decide +kernel
theorem tyJ8_ok : ∀ k, k < 0 → parseFieldDescriptor (TJ8 k).2.2.1 = some (tyJ8 k) := by decide +kernel
abbrev cJ8_newLength_cabcc : ByteArray := prog_29_method_27_code
def yJ8_newLength_cabcc : MethodName := ⟨RJ8, "newLength", "(III)I"⟩
abbrev cJ8_hugeLength_7cf53 : ByteArray := prog_29_method_28_code
def yJ8_hugeLength_7cf53 : MethodName := ⟨RJ8, "hugeLength", "(II)I"⟩
def RJ3 : String := "jdk/internal/util/Preconditions"
def TJ3 : u_T := fun k => match k with
  | _ => ("", "", "", false)
def tyJ3 : Nat → FieldType := fun k => match k with
  | _ => .int
abbrev wsJ30 : List Cond := u_ws RJ3 TJ3 0
theorem nmJ3 : ∀ a, a < 0 → ∀ b, b < 0 → a ≠ b → (TJ3 a).2.1 ≠ (TJ3 b).2.1 := by decide +kernel
theorem tyJ3_ok : ∀ k, k < 0 → parseFieldDescriptor (TJ3 k).2.2.1 = some (tyJ3 k) := by decide +kernel
abbrev cJ3_checkIndex_8e157 : ByteArray := prog_30_method_11_code
def yJ3_checkIndex_8e157 : MethodName := ⟨RJ3, "checkIndex", "(IILjava/util/function/BiFunction;)I"⟩
def RL : String := "TollGatewayLaw"
abbrev cL_setPlan : ByteArray := method_3_code
def yL_setPlan : MethodName := ⟨RL, "setPlan", "(LTollGateway;IIII)I"⟩
abbrev cL_setRoute : ByteArray := method_4_code
def yL_setRoute : MethodName := ⟨RL, "setRoute", "(LTollGateway;III)I"⟩
abbrev cL_addKey : ByteArray := method_5_code
def yL_addKey : MethodName := ⟨RL, "addKey", "(LTollGateway;I[J)I"⟩
abbrev cL_setKeyPlan : ByteArray := method_6_code
def yL_setKeyPlan : MethodName := ⟨RL, "setKeyPlan", "(LTollGateway;II[J)I"⟩
abbrev cL_setTrust : ByteArray := method_7_code
def yL_setTrust : MethodName := ⟨RL, "setTrust", "(LTollGateway;II[J)I"⟩
abbrev cL_pay : ByteArray := method_8_code
def yL_pay : MethodName := ⟨RL, "pay", "(LTollGateway;II[J)I"⟩
abbrev cL_call : ByteArray := method_9_code
def yL_call : MethodName := ⟨RL, "call", "(LTollGateway;III[J)I"⟩
abbrev cL_end : ByteArray := method_10_code
def yL_end : MethodName := ⟨RL, "end", "(LTollGateway;II[J)I"⟩
abbrev cL_dispute : ByteArray := method_11_code
def yL_dispute : MethodName := ⟨RL, "dispute", "(LTollGateway;I[J)I"⟩
abbrev cL_pass : ByteArray := method_12_code
def yL_pass : MethodName := ⟨RL, "pass", "(LTollGateway;I[J)I"⟩
abbrev cL_credit : ByteArray := method_13_code
def yL_credit : MethodName := ⟨RL, "credit", "(LTollGateway;I[J)I"⟩
abbrev cL_debt : ByteArray := method_14_code
def yL_debt : MethodName := ⟨RL, "debt", "(LTollGateway;I[J)I"⟩
abbrev cL_held : ByteArray := method_15_code
def yL_held : MethodName := ⟨RL, "held", "(LTollGateway;I[J)I"⟩
abbrev cL_tokens : ByteArray := method_16_code
def yL_tokens : MethodName := ⟨RL, "tokens", "(LTollGateway;I[J)I"⟩
abbrev cL_isSlowed : ByteArray := method_17_code
def yL_isSlowed : MethodName := ⟨RL, "isSlowed", "(LTollGateway;I[J)I"⟩
abbrev cL_cost : ByteArray := method_18_code
def yL_cost : MethodName := ⟨RL, "cost", "(LTollGateway;I[J)I"⟩
abbrev cL_spent : ByteArray := method_19_code
def yL_spent : MethodName := ⟨RL, "spent", "(LTollGateway;I[J)I"⟩
abbrev cL_paid : ByteArray := method_20_code
def yL_paid : MethodName := ⟨RL, "paid", "(LTollGateway;I[J)I"⟩
abbrev cL_law : ByteArray := code
def yL_law : MethodName := ⟨RL, "law", "([I)Z"⟩
def wsX0_init : List Cond := .code yX0_init cX0_init 5 none :: ([.methodLink RX0 3 objectInit, .instanceMethod objectInit, .code objectInit ⟨#[0xb1]⟩ 1 none, .fieldLink RX0 9 "TollGateway$Call" "cost" "I", .fieldLink RX0 15 "TollGateway$Call" "key" "LTollGateway$Key;", .fieldLink RX0 19 "TollGateway$Call" "worth" "I", .fieldLink RX0 22 "TollGateway$Call" "weight" "I", .fieldLink RX0 25 "TollGateway$Call" "dueTick" "I"] ++ wsX00)
def wsX0_hasEnded : List Cond := .code yX0_hasEnded cX0_hasEnded 1 (some .boolean) :: ([.fieldLink RX0 9 "TollGateway$Call" "cost" "I"] ++ wsX00)
def wsX0_costOf : List Cond := .code yX0_costOf cX0_costOf 2 (some .int) :: ([.fieldLink RX0 19 "TollGateway$Call" "worth" "I"] ++ wsX00)
def wsX1_receive : List Cond := .code yX1_receive cX1_receive 3 none :: ([.fieldLink RX1 22 "TollGateway$Key" "debt" "I", .methodLink RX1 25 Lib.Math.min.name, .static Lib.Math.min.name, .initialized "java/lang/Math", .code Lib.Math.min.name Lib.Math.min.code 2 (some .int), .fieldLink RX1 31 "TollGateway$Key" "credit" "I"] ++ wsX10)
def wsX1_closeHold : List Cond := .code yX1_closeHold cX1_closeHold 3 none :: ([.fieldLink RX1 40 "TollGateway$Key" "held" "I", .fieldLink RX1 43 "TollGateway$Key" "openHolds" "I", .fieldLink RX1 46 "TollGateway$Key" "spent" "I", .methodLink RX1 49 yX1_receive, .instanceMethod yX1_receive, .selects RX1 yX1_receive yX1_receive, .initialized RX1, .code yX1_receive cX1_receive 3 none, .fieldLink RX1 22 "TollGateway$Key" "debt" "I", .methodLink RX1 25 Lib.Math.min.name, .static Lib.Math.min.name, .initialized "java/lang/Math", .code Lib.Math.min.name Lib.Math.min.code 2 (some .int), .fieldLink RX1 31 "TollGateway$Key" "credit" "I"] ++ wsX10)
def wsX0_settle_r1 : List Cond := [Cond.fieldLink RX0 9 "TollGateway$Call" "cost" "I", Cond.fieldLink RX0 32 "TollGateway$Call" "endTick" "I", Cond.fieldLink RX0 15 "TollGateway$Call" "key" "LTollGateway$Key;", Cond.fieldLink RX0 19 "TollGateway$Call" "worth" "I", Cond.methodLink RX0 28 yX0_costOf, Cond.instanceMethod yX0_costOf, Cond.selects RX0 yX0_costOf yX0_costOf, Cond.initialized RX0, Cond.code yX0_costOf cX0_costOf 2 (some .int), Cond.instanceMethod yX1_closeHold, Cond.initialized RX1, Cond.selects RX1 yX1_closeHold yX1_closeHold, Cond.code yX1_closeHold cX1_closeHold 3 none, Cond.fieldLink RX1 40 "TollGateway$Key" "held" "I", Cond.fieldLink RX1 43 "TollGateway$Key" "openHolds" "I", Cond.fieldLink RX1 46 "TollGateway$Key" "spent" "I", Cond.methodLink RX1 49 yX1_receive, Cond.instanceMethod yX1_receive, Cond.selects RX1 yX1_receive yX1_receive, Cond.code yX1_receive cX1_receive 3 none, Cond.fieldLink RX1 22 "TollGateway$Key" "debt" "I", Cond.methodLink RX1 25 Lib.Math.min.name, Cond.static Lib.Math.min.name, Cond.initialized "java/lang/Math"]
def wsX0_settle_r2 : List Cond := [Cond.code Lib.Math.min.name Lib.Math.min.code 2 (some .int), Cond.fieldLink RX1 31 "TollGateway$Key" "credit" "I"]
def wsX0_settle : List Cond := .code yX0_settle cX0_settle 3 none :: ((wsX0_settle_r1 ++ wsX0_settle_r2) ++ wsX00 ++ wsX10)
def wsX0_giveBack : List Cond := .code yX0_giveBack cX0_giveBack 2 (some .int) :: ([.fieldLink RX0 9 "TollGateway$Call" "cost" "I", .fieldLink RX0 41 "TollGateway$Call" "wasDisputed" "Z", .fieldLink RX0 15 "TollGateway$Call" "key" "LTollGateway$Key;", .fieldLink RX0 22 "TollGateway$Call" "weight" "I", .instanceMethod yX1_receive, .initialized RX1, .selects RX1 yX1_receive yX1_receive, .code yX1_receive cX1_receive 3 none, .fieldLink RX1 22 "TollGateway$Key" "debt" "I", .methodLink RX1 25 Lib.Math.min.name, .static Lib.Math.min.name, .initialized "java/lang/Math", .code Lib.Math.min.name Lib.Math.min.code 2 (some .int), .fieldLink RX1 31 "TollGateway$Key" "credit" "I"] ++ wsX00 ++ wsX10)
def wsX1_init : List Cond := .code yX1_init cX1_init 2 none :: ([.methodLink RX1 1 objectInit, .instanceMethod objectInit, .code objectInit ⟨#[0xb1]⟩ 1 none, .fieldLink RX1 7 "TollGateway$Key" "plan" "LTollGateway$Plan;", .fieldLink RX1 19 "TollGateway$Key" "tokens" "I"] ++ wsX10 ++ wsX20)
def wsX1_canCover : List Cond := .code yX1_canCover cX1_canCover 3 (some .boolean) :: ([.fieldLink RX1 34 "TollGateway$Key" "trustLine" "I", .fieldLink RX1 22 "TollGateway$Key" "debt" "I", .methodLink RX1 37 Lib.Math.max.name, .static Lib.Math.max.name, .initialized "java/lang/Math", .code Lib.Math.max.name Lib.Math.max.code 2 (some .int), .fieldLink RX1 31 "TollGateway$Key" "credit" "I"] ++ wsX10)
def wsX1_openHold : List Cond := .code yX1_openHold cX1_openHold 3 none :: ([.fieldLink RX1 31 "TollGateway$Key" "credit" "I", .methodLink RX1 25 Lib.Math.min.name, .static Lib.Math.min.name, .initialized "java/lang/Math", .code Lib.Math.min.name Lib.Math.min.code 2 (some .int), .fieldLink RX1 22 "TollGateway$Key" "debt" "I", .fieldLink RX1 40 "TollGateway$Key" "held" "I", .fieldLink RX1 43 "TollGateway$Key" "openHolds" "I"] ++ wsX10)
def wsX1_refillsSlowly : List Cond := .code yX1_refillsSlowly cX1_refillsSlowly 1 (some .boolean) :: ([.fieldLink RX1 31 "TollGateway$Key" "credit" "I", .fieldLink RX1 43 "TollGateway$Key" "openHolds" "I"] ++ wsX10)
def wsX1_refillBucket : List Cond := .code yX1_refillBucket cX1_refillBucket 2 none :: ([.fieldLink RX1 19 "TollGateway$Key" "tokens" "I", .fieldLink RX1 7 "TollGateway$Key" "plan" "LTollGateway$Plan;", .methodLink RX1 25 Lib.Math.min.name, .static Lib.Math.min.name, .initialized "java/lang/Math", .code Lib.Math.min.name Lib.Math.min.code 2 (some .int), .methodLink RX1 53 yX1_refillsSlowly, .instanceMethod yX1_refillsSlowly, .selects RX1 yX1_refillsSlowly yX1_refillsSlowly, .initialized RX1, .code yX1_refillsSlowly cX1_refillsSlowly 1 (some .boolean), .fieldLink RX1 31 "TollGateway$Key" "credit" "I", .fieldLink RX1 43 "TollGateway$Key" "openHolds" "I"] ++ wsX10 ++ wsX20)
def wsX2_init : List Cond := .code yX2_init cX2_init 2 none :: ([.methodLink RX2 1 objectInit, .instanceMethod objectInit, .code objectInit ⟨#[0xb1]⟩ 1 none, .fieldLink RX2 7 "TollGateway$Plan" "size" "I", .fieldLink RX2 13 "TollGateway$Plan" "refill" "I", .fieldLink RX2 16 "TollGateway$Plan" "slowRefill" "I", .fieldLink RX2 19 "TollGateway$Plan" "number" "I"] ++ wsX20)
def wsX3_init : List Cond := .code yX3_init cX3_init 1 none :: ([.methodLink RX3 1 objectInit, .instanceMethod objectInit, .code objectInit ⟨#[0xb1]⟩ 1 none, .fieldLink RX3 7 "TollGateway$Route" "price" "I", .fieldLink RX3 13 "TollGateway$Route" "weight" "I"] ++ wsX30)
def wsJxa1e45_init_da8c8 : List Cond := .code yJxa1e45_init_da8c8 cJxa1e45_init_da8c8 1 none :: ([.methodLink RJxa1e45 1 objectInit, .instanceMethod objectInit, .code objectInit ⟨#[0xb1]⟩ 1 none])
def wsJxc12de_init_da8c8 : List Cond := .code yJxc12de_init_da8c8 cJxc12de_init_da8c8 1 none :: ([.fieldLink RJxc12de 7 "java/util/AbstractList" "modCount" "I", .methodLink RJxc12de 1 yJxa1e45_init_da8c8, .instanceMethod yJxa1e45_init_da8c8, .initialized RJxa1e45, .code yJxa1e45_init_da8c8 cJxa1e45_init_da8c8 1 none, .methodLink RJxa1e45 1 objectInit, .instanceMethod objectInit, .code objectInit ⟨#[0xb1]⟩ 1 none] ++ wsJx4a65c0)
def wsJx4a65c_init_da8c8 : List Cond := .code yJx4a65c_init_da8c8 cJx4a65c_init_da8c8 1 none :: ([.fieldLink RJx4a65c 39 "java/util/ArrayList" "DEFAULTCAPACITY_EMPTY_ELEMENTDATA" "[Ljava/lang/Object;", .fieldLink RJx4a65c 9 "java/util/ArrayList" "elementData" "[Ljava/lang/Object;", .methodLink RJx4a65c 1 yJxc12de_init_da8c8, .instanceMethod yJxc12de_init_da8c8, .initialized RJxc12de, .code yJxc12de_init_da8c8 cJxc12de_init_da8c8 1 none, .fieldLink RJxc12de 7 "java/util/AbstractList" "modCount" "I", .methodLink RJxc12de 1 yJxa1e45_init_da8c8, .instanceMethod yJxa1e45_init_da8c8, .initialized RJxa1e45, .code yJxa1e45_init_da8c8 cJxa1e45_init_da8c8 1 none, .methodLink RJxa1e45 1 objectInit, .instanceMethod objectInit, .code objectInit ⟨#[0xb1]⟩ 1 none] ++ wsJx4a65c0)
def wsX4_init_r1 : List Cond := [Cond.methodLink RX4 1 objectInit, Cond.instanceMethod objectInit, Cond.code objectInit ⟨#[0xb1]⟩ 1 none, Cond.classLink RX4 9 RX2, Cond.fieldLink RX4 11 "TollGateway" "plans" "[LTollGateway$Plan;", Cond.classLink RX4 15 RX3, Cond.fieldLink RX4 17 "TollGateway" "routes" "[LTollGateway$Route;", Cond.classLink RX4 21 RJx4a65c, Cond.instantiable RJx4a65c 3, Cond.initialized RJx4a65c, Cond.fieldLink RX4 24 "TollGateway" "keys" "Ljava/util/ArrayList;", Cond.fieldLink RX4 28 "TollGateway" "letThrough" "Ljava/util/ArrayList;", Cond.instantiable RX2 4, Cond.initialized RX2, Cond.instantiable RX3 2, Cond.initialized RX3, Cond.methodLink RX4 23 yJx4a65c_init_da8c8, Cond.instanceMethod yJx4a65c_init_da8c8, Cond.code yJx4a65c_init_da8c8 cJx4a65c_init_da8c8 1 none, Cond.fieldLink RJx4a65c 39 "java/util/ArrayList" "DEFAULTCAPACITY_EMPTY_ELEMENTDATA" "[Ljava/lang/Object;", Cond.fieldLink RJx4a65c 9 "java/util/ArrayList" "elementData" "[Ljava/lang/Object;", Cond.methodLink RJx4a65c 1 yJxc12de_init_da8c8, Cond.instanceMethod yJxc12de_init_da8c8, Cond.initialized RJxc12de]
def wsX4_init_r2 : List Cond := [Cond.code yJxc12de_init_da8c8 cJxc12de_init_da8c8 1 none, Cond.fieldLink RJxc12de 7 "java/util/AbstractList" "modCount" "I", Cond.methodLink RJxc12de 1 yJxa1e45_init_da8c8, Cond.instanceMethod yJxa1e45_init_da8c8, Cond.initialized RJxa1e45, Cond.code yJxa1e45_init_da8c8 cJxa1e45_init_da8c8 1 none, Cond.methodLink RJxa1e45 1 objectInit, Cond.instanceMethod yX2_init, Cond.code yX2_init cX2_init 2 none, Cond.methodLink RX2 1 objectInit, Cond.fieldLink RX2 7 "TollGateway$Plan" "size" "I", Cond.fieldLink RX2 13 "TollGateway$Plan" "refill" "I", Cond.fieldLink RX2 16 "TollGateway$Plan" "slowRefill" "I", Cond.fieldLink RX2 19 "TollGateway$Plan" "number" "I", Cond.instanceMethod yX3_init, Cond.code yX3_init cX3_init 1 none, Cond.methodLink RX3 1 objectInit, Cond.fieldLink RX3 7 "TollGateway$Route" "price" "I", Cond.fieldLink RX3 13 "TollGateway$Route" "weight" "I"]
def wsX4_init : List Cond := .code yX4_init cX4_init 2 none :: ((wsX4_init_r1 ++ wsX4_init_r2) ++ wsX40 ++ wsJx4a65c0 ++ wsX20 ++ wsX30)
def wsX4_planAt : List Cond := .code yX4_planAt cX4_planAt 2 (some (.object "TollGateway$Plan")) :: ([.classLink RX4 177 "java/lang/IllegalArgumentException", .initialized "java/lang/IllegalArgumentException", .fieldLink RX4 11 "TollGateway" "plans" "[LTollGateway$Plan;"] ++ wsX40 ++ (vx_atS RX4 181 "java/lang/IllegalArgumentException" ["java/lang/RuntimeException", "java/lang/Exception"]).filter goodWord)
def wsX4_refuseOutside : List Cond := .code yX4_refuseOutside cX4_refuseOutside 3 none :: ([.classLink RX4 177 "java/lang/IllegalArgumentException", .initialized "java/lang/IllegalArgumentException"] ++ (vx_atS RX4 181 "java/lang/IllegalArgumentException" ["java/lang/RuntimeException", "java/lang/Exception"]).filter goodWord)
def wsX4_setPlan : List Cond := .code yX4_setPlan cX4_setPlan 6 none :: ([.methodLink RX4 35 yX4_planAt, .instanceMethod yX4_planAt, .selects RX4 yX4_planAt yX4_planAt, .initialized RX4, .code yX4_planAt cX4_planAt 2 (some (.object "TollGateway$Plan")), .classLink RX4 177 "java/lang/IllegalArgumentException", .initialized "java/lang/IllegalArgumentException", .fieldLink RX4 11 "TollGateway" "plans" "[LTollGateway$Plan;", .methodLink RX4 39 yX4_refuseOutside, .static yX4_refuseOutside, .code yX4_refuseOutside cX4_refuseOutside 3 none] ++ wsX20 ++ wsX40 ++ (vx_atS RX4 181 "java/lang/IllegalArgumentException" ["java/lang/RuntimeException", "java/lang/Exception"]).filter goodWord)
def wsX4_routeAt : List Cond := .code yX4_routeAt cX4_routeAt 2 (some (.object "TollGateway$Route")) :: ([.classLink RX4 177 "java/lang/IllegalArgumentException", .initialized "java/lang/IllegalArgumentException", .fieldLink RX4 17 "TollGateway" "routes" "[LTollGateway$Route;"] ++ wsX40 ++ (vx_atS RX4 181 "java/lang/IllegalArgumentException" ["java/lang/RuntimeException", "java/lang/Exception"]).filter goodWord)
def wsX4_setRoute : List Cond := .code yX4_setRoute cX4_setRoute 5 none :: ([.methodLink RX4 53 yX4_routeAt, .instanceMethod yX4_routeAt, .selects RX4 yX4_routeAt yX4_routeAt, .initialized RX4, .code yX4_routeAt cX4_routeAt 2 (some (.object "TollGateway$Route")), .classLink RX4 177 "java/lang/IllegalArgumentException", .initialized "java/lang/IllegalArgumentException", .fieldLink RX4 17 "TollGateway" "routes" "[LTollGateway$Route;", .methodLink RX4 39 yX4_refuseOutside, .static yX4_refuseOutside, .code yX4_refuseOutside cX4_refuseOutside 3 none] ++ wsX30 ++ wsX40 ++ (vx_atS RX4 181 "java/lang/IllegalArgumentException" ["java/lang/RuntimeException", "java/lang/Exception"]).filter goodWord)
def wsJx4a65c_size_8abf5 : List Cond := .code yJx4a65c_size_8abf5 cJx4a65c_size_8abf5 1 (some .int) :: ([.fieldLink RJx4a65c 48 "java/util/ArrayList" "size" "I"] ++ wsJx4a65c0)
def wsJ8_hugeLength_7cf53 : List Cond := .code yJ8_hugeLength_7cf53 cJ8_hugeLength_7cf53 3 (some .int) :: ([.constant RJ8 200 (2147483639)])
def wsJ8_newLength_cabcc : List Cond := .code yJ8_newLength_cabcc cJ8_newLength_cabcc 4 (some .int) :: ([.methodLink RJ8 194 Lib.Math.max.name, .static Lib.Math.max.name, .initialized "java/lang/Math", .code Lib.Math.max.name Lib.Math.max.code 2 (some .int), .constant RJ8 200 (2147483639), .methodLink RJ8 201 yJ8_hugeLength_7cf53, .static yJ8_hugeLength_7cf53, .initialized RJ8, .code yJ8_hugeLength_7cf53 cJ8_hugeLength_7cf53 3 (some .int)])
def wsJ7_copyOf_6403c : List Cond := .code yJ7_copyOf_6403c cJ7_copyOf_6403c 4 (some (.array (.object "java/lang/Object"))) :: ([.classLink RJ7 110 "[Ljava/lang/Object;", .classLink RJ7 2 "java/lang/Object", .methodLink RJ7 304 Lib.Math.min.name, .static Lib.Math.min.name, .initialized "java/lang/Math", .code Lib.Math.min.name Lib.Math.min.code 2 (some .int), .methodLink RJ7 150 arraycopyName, .native arraycopyName, .static arraycopyName, .initialized "java/lang/System"])
def wsJ7_copyOf_1904c : List Cond := .code yJ7_copyOf_1904c cJ7_copyOf_1904c 2 (some (.array (.object "java/lang/Object"))) :: ([.methodLink RJ7 86 ⟨"java/lang/Object", "getClass", "()Ljava/lang/Class;"⟩, .selects "[Ljava/lang/Object;" ⟨"java/lang/Object", "getClass", "()Ljava/lang/Class;"⟩ ⟨"java/lang/Object", "getClass", "()Ljava/lang/Class;"⟩, .instanceMethod ⟨"java/lang/Object", "getClass", "()Ljava/lang/Class;"⟩, .native ⟨"java/lang/Object", "getClass", "()Ljava/lang/Class;"⟩, .methodLink RJ7 300 yJ7_copyOf_6403c, .static yJ7_copyOf_6403c, .initialized RJ7, .code yJ7_copyOf_6403c cJ7_copyOf_6403c 4 (some (.array (.object "java/lang/Object"))), .classLink RJ7 110 "[Ljava/lang/Object;", .classLink RJ7 2 "java/lang/Object", .methodLink RJ7 304 Lib.Math.min.name, .static Lib.Math.min.name, .initialized "java/lang/Math", .code Lib.Math.min.name Lib.Math.min.code 2 (some .int), .methodLink RJ7 150 arraycopyName, .native arraycopyName, .static arraycopyName, .initialized "java/lang/System"])
def wsJx4a65c_grow_92f84_r1 : List Cond := [Cond.fieldLink RJx4a65c 9 "java/util/ArrayList" "elementData" "[Ljava/lang/Object;", Cond.fieldLink RJx4a65c 39 "java/util/ArrayList" "DEFAULTCAPACITY_EMPTY_ELEMENTDATA" "[Ljava/lang/Object;", Cond.methodLink RJx4a65c 79 Lib.Math.max.name, Cond.static Lib.Math.max.name, Cond.initialized "java/lang/Math", Cond.code Lib.Math.max.name Lib.Math.max.code 2 (some .int), Cond.classLink RJx4a65c 7 "java/lang/Object", Cond.methodLink RJx4a65c 73 yJ8_newLength_cabcc, Cond.static yJ8_newLength_cabcc, Cond.initialized RJ8, Cond.code yJ8_newLength_cabcc cJ8_newLength_cabcc 4 (some .int), Cond.methodLink RJ8 194 Lib.Math.max.name, Cond.constant RJ8 200 (2147483639), Cond.methodLink RJ8 201 yJ8_hugeLength_7cf53, Cond.static yJ8_hugeLength_7cf53, Cond.code yJ8_hugeLength_7cf53 cJ8_hugeLength_7cf53 3 (some .int), Cond.methodLink RJx4a65c 66 yJ7_copyOf_1904c, Cond.static yJ7_copyOf_1904c, Cond.initialized RJ7, Cond.code yJ7_copyOf_1904c cJ7_copyOf_1904c 2 (some (.array (.object "java/lang/Object"))), Cond.methodLink RJ7 86 ⟨"java/lang/Object", "getClass", "()Ljava/lang/Class;"⟩, Cond.selects "[Ljava/lang/Object;" ⟨"java/lang/Object", "getClass", "()Ljava/lang/Class;"⟩ ⟨"java/lang/Object", "getClass", "()Ljava/lang/Class;"⟩, Cond.instanceMethod ⟨"java/lang/Object", "getClass", "()Ljava/lang/Class;"⟩, Cond.native ⟨"java/lang/Object", "getClass", "()Ljava/lang/Class;"⟩]
def wsJx4a65c_grow_92f84_r2 : List Cond := [Cond.methodLink RJ7 300 yJ7_copyOf_6403c, Cond.static yJ7_copyOf_6403c, Cond.code yJ7_copyOf_6403c cJ7_copyOf_6403c 4 (some (.array (.object "java/lang/Object"))), Cond.classLink RJ7 110 "[Ljava/lang/Object;", Cond.classLink RJ7 2 "java/lang/Object", Cond.methodLink RJ7 304 Lib.Math.min.name, Cond.static Lib.Math.min.name, Cond.code Lib.Math.min.name Lib.Math.min.code 2 (some .int), Cond.methodLink RJ7 150 arraycopyName, Cond.native arraycopyName, Cond.static arraycopyName, Cond.initialized "java/lang/System"]
def wsJx4a65c_grow_92f84 : List Cond := .code yJx4a65c_grow_92f84 cJx4a65c_grow_92f84 4 (some (.array (.object "java/lang/Object"))) :: ((wsJx4a65c_grow_92f84_r1 ++ wsJx4a65c_grow_92f84_r2) ++ wsJx4a65c0)
def wsJx4a65c_grow_d5877_r1 : List Cond := [Cond.fieldLink RJx4a65c 48 "java/util/ArrayList" "size" "I", Cond.methodLink RJx4a65c 69 yJx4a65c_grow_92f84, Cond.instanceMethod yJx4a65c_grow_92f84, Cond.selects RJx4a65c yJx4a65c_grow_92f84 yJx4a65c_grow_92f84, Cond.initialized RJx4a65c, Cond.code yJx4a65c_grow_92f84 cJx4a65c_grow_92f84 4 (some (.array (.object "java/lang/Object"))), Cond.fieldLink RJx4a65c 9 "java/util/ArrayList" "elementData" "[Ljava/lang/Object;", Cond.fieldLink RJx4a65c 39 "java/util/ArrayList" "DEFAULTCAPACITY_EMPTY_ELEMENTDATA" "[Ljava/lang/Object;", Cond.methodLink RJx4a65c 79 Lib.Math.max.name, Cond.static Lib.Math.max.name, Cond.initialized "java/lang/Math", Cond.code Lib.Math.max.name Lib.Math.max.code 2 (some .int), Cond.classLink RJx4a65c 7 "java/lang/Object", Cond.methodLink RJx4a65c 73 yJ8_newLength_cabcc, Cond.static yJ8_newLength_cabcc, Cond.initialized RJ8, Cond.code yJ8_newLength_cabcc cJ8_newLength_cabcc 4 (some .int), Cond.methodLink RJ8 194 Lib.Math.max.name, Cond.constant RJ8 200 (2147483639), Cond.methodLink RJ8 201 yJ8_hugeLength_7cf53, Cond.static yJ8_hugeLength_7cf53, Cond.code yJ8_hugeLength_7cf53 cJ8_hugeLength_7cf53 3 (some .int), Cond.methodLink RJx4a65c 66 yJ7_copyOf_1904c, Cond.static yJ7_copyOf_1904c]
def wsJx4a65c_grow_d5877_r2 : List Cond := [Cond.initialized RJ7, Cond.code yJ7_copyOf_1904c cJ7_copyOf_1904c 2 (some (.array (.object "java/lang/Object"))), Cond.methodLink RJ7 86 ⟨"java/lang/Object", "getClass", "()Ljava/lang/Class;"⟩, Cond.selects "[Ljava/lang/Object;" ⟨"java/lang/Object", "getClass", "()Ljava/lang/Class;"⟩ ⟨"java/lang/Object", "getClass", "()Ljava/lang/Class;"⟩, Cond.instanceMethod ⟨"java/lang/Object", "getClass", "()Ljava/lang/Class;"⟩, Cond.native ⟨"java/lang/Object", "getClass", "()Ljava/lang/Class;"⟩, Cond.methodLink RJ7 300 yJ7_copyOf_6403c, Cond.static yJ7_copyOf_6403c, Cond.code yJ7_copyOf_6403c cJ7_copyOf_6403c 4 (some (.array (.object "java/lang/Object"))), Cond.classLink RJ7 110 "[Ljava/lang/Object;", Cond.classLink RJ7 2 "java/lang/Object", Cond.methodLink RJ7 304 Lib.Math.min.name, Cond.static Lib.Math.min.name, Cond.code Lib.Math.min.name Lib.Math.min.code 2 (some .int), Cond.methodLink RJ7 150 arraycopyName, Cond.native arraycopyName, Cond.static arraycopyName, Cond.initialized "java/lang/System"]
def wsJx4a65c_grow_d5877 : List Cond := .code yJx4a65c_grow_d5877 cJx4a65c_grow_d5877 1 (some (.array (.object "java/lang/Object"))) :: ((wsJx4a65c_grow_d5877_r1 ++ wsJx4a65c_grow_d5877_r2) ++ wsJx4a65c0)
def wsJx4a65c_add_72be8_r1 : List Cond := [Cond.fieldLink RJx4a65c 48 "java/util/ArrayList" "size" "I", Cond.methodLink RJx4a65c 129 yJx4a65c_grow_d5877, Cond.instanceMethod yJx4a65c_grow_d5877, Cond.selects RJx4a65c yJx4a65c_grow_d5877 yJx4a65c_grow_d5877, Cond.initialized RJx4a65c, Cond.code yJx4a65c_grow_d5877 cJx4a65c_grow_d5877 1 (some (.array (.object "java/lang/Object"))), Cond.methodLink RJx4a65c 69 yJx4a65c_grow_92f84, Cond.instanceMethod yJx4a65c_grow_92f84, Cond.selects RJx4a65c yJx4a65c_grow_92f84 yJx4a65c_grow_92f84, Cond.code yJx4a65c_grow_92f84 cJx4a65c_grow_92f84 4 (some (.array (.object "java/lang/Object"))), Cond.fieldLink RJx4a65c 9 "java/util/ArrayList" "elementData" "[Ljava/lang/Object;", Cond.fieldLink RJx4a65c 39 "java/util/ArrayList" "DEFAULTCAPACITY_EMPTY_ELEMENTDATA" "[Ljava/lang/Object;", Cond.methodLink RJx4a65c 79 Lib.Math.max.name, Cond.static Lib.Math.max.name, Cond.initialized "java/lang/Math", Cond.code Lib.Math.max.name Lib.Math.max.code 2 (some .int), Cond.classLink RJx4a65c 7 "java/lang/Object", Cond.methodLink RJx4a65c 73 yJ8_newLength_cabcc, Cond.static yJ8_newLength_cabcc, Cond.initialized RJ8, Cond.code yJ8_newLength_cabcc cJ8_newLength_cabcc 4 (some .int), Cond.methodLink RJ8 194 Lib.Math.max.name, Cond.constant RJ8 200 (2147483639), Cond.methodLink RJ8 201 yJ8_hugeLength_7cf53]
def wsJx4a65c_add_72be8_r2 : List Cond := [Cond.static yJ8_hugeLength_7cf53, Cond.code yJ8_hugeLength_7cf53 cJ8_hugeLength_7cf53 3 (some .int), Cond.methodLink RJx4a65c 66 yJ7_copyOf_1904c, Cond.static yJ7_copyOf_1904c, Cond.initialized RJ7, Cond.code yJ7_copyOf_1904c cJ7_copyOf_1904c 2 (some (.array (.object "java/lang/Object"))), Cond.methodLink RJ7 86 ⟨"java/lang/Object", "getClass", "()Ljava/lang/Class;"⟩, Cond.selects "[Ljava/lang/Object;" ⟨"java/lang/Object", "getClass", "()Ljava/lang/Class;"⟩ ⟨"java/lang/Object", "getClass", "()Ljava/lang/Class;"⟩, Cond.instanceMethod ⟨"java/lang/Object", "getClass", "()Ljava/lang/Class;"⟩, Cond.native ⟨"java/lang/Object", "getClass", "()Ljava/lang/Class;"⟩, Cond.methodLink RJ7 300 yJ7_copyOf_6403c, Cond.static yJ7_copyOf_6403c, Cond.code yJ7_copyOf_6403c cJ7_copyOf_6403c 4 (some (.array (.object "java/lang/Object"))), Cond.classLink RJ7 110 "[Ljava/lang/Object;", Cond.classLink RJ7 2 "java/lang/Object", Cond.methodLink RJ7 304 Lib.Math.min.name, Cond.static Lib.Math.min.name, Cond.code Lib.Math.min.name Lib.Math.min.code 2 (some .int), Cond.methodLink RJ7 150 arraycopyName, Cond.native arraycopyName, Cond.static arraycopyName, Cond.initialized "java/lang/System"]
def wsJx4a65c_add_72be8 : List Cond := .code yJx4a65c_add_72be8 cJx4a65c_add_72be8 4 none :: ((wsJx4a65c_add_72be8_r1 ++ wsJx4a65c_add_72be8_r2) ++ wsJx4a65c0)
def wsJx4a65c_add_9ea2d_r1 : List Cond := [Cond.fieldLink RJx4a65c 63 "java/util/ArrayList" "modCount" "I", Cond.sameField "java/util/ArrayList" "java/util/AbstractList" "modCount" "I", Cond.fieldLink RJx4a65c 9 "java/util/ArrayList" "elementData" "[Ljava/lang/Object;", Cond.fieldLink RJx4a65c 48 "java/util/ArrayList" "size" "I", Cond.methodLink RJx4a65c 131 yJx4a65c_add_72be8, Cond.instanceMethod yJx4a65c_add_72be8, Cond.selects RJx4a65c yJx4a65c_add_72be8 yJx4a65c_add_72be8, Cond.initialized RJx4a65c, Cond.code yJx4a65c_add_72be8 cJx4a65c_add_72be8 4 none, Cond.methodLink RJx4a65c 129 yJx4a65c_grow_d5877, Cond.instanceMethod yJx4a65c_grow_d5877, Cond.selects RJx4a65c yJx4a65c_grow_d5877 yJx4a65c_grow_d5877, Cond.code yJx4a65c_grow_d5877 cJx4a65c_grow_d5877 1 (some (.array (.object "java/lang/Object"))), Cond.methodLink RJx4a65c 69 yJx4a65c_grow_92f84, Cond.instanceMethod yJx4a65c_grow_92f84, Cond.selects RJx4a65c yJx4a65c_grow_92f84 yJx4a65c_grow_92f84, Cond.code yJx4a65c_grow_92f84 cJx4a65c_grow_92f84 4 (some (.array (.object "java/lang/Object"))), Cond.fieldLink RJx4a65c 39 "java/util/ArrayList" "DEFAULTCAPACITY_EMPTY_ELEMENTDATA" "[Ljava/lang/Object;", Cond.methodLink RJx4a65c 79 Lib.Math.max.name, Cond.static Lib.Math.max.name, Cond.initialized "java/lang/Math", Cond.code Lib.Math.max.name Lib.Math.max.code 2 (some .int), Cond.classLink RJx4a65c 7 "java/lang/Object", Cond.methodLink RJx4a65c 73 yJ8_newLength_cabcc]
def wsJx4a65c_add_9ea2d_r2 : List Cond := [Cond.static yJ8_newLength_cabcc, Cond.initialized RJ8, Cond.code yJ8_newLength_cabcc cJ8_newLength_cabcc 4 (some .int), Cond.methodLink RJ8 194 Lib.Math.max.name, Cond.constant RJ8 200 (2147483639), Cond.methodLink RJ8 201 yJ8_hugeLength_7cf53, Cond.static yJ8_hugeLength_7cf53, Cond.code yJ8_hugeLength_7cf53 cJ8_hugeLength_7cf53 3 (some .int), Cond.methodLink RJx4a65c 66 yJ7_copyOf_1904c, Cond.static yJ7_copyOf_1904c, Cond.initialized RJ7, Cond.code yJ7_copyOf_1904c cJ7_copyOf_1904c 2 (some (.array (.object "java/lang/Object"))), Cond.methodLink RJ7 86 ⟨"java/lang/Object", "getClass", "()Ljava/lang/Class;"⟩, Cond.selects "[Ljava/lang/Object;" ⟨"java/lang/Object", "getClass", "()Ljava/lang/Class;"⟩ ⟨"java/lang/Object", "getClass", "()Ljava/lang/Class;"⟩, Cond.instanceMethod ⟨"java/lang/Object", "getClass", "()Ljava/lang/Class;"⟩, Cond.native ⟨"java/lang/Object", "getClass", "()Ljava/lang/Class;"⟩, Cond.methodLink RJ7 300 yJ7_copyOf_6403c, Cond.static yJ7_copyOf_6403c, Cond.code yJ7_copyOf_6403c cJ7_copyOf_6403c 4 (some (.array (.object "java/lang/Object"))), Cond.classLink RJ7 110 "[Ljava/lang/Object;", Cond.classLink RJ7 2 "java/lang/Object", Cond.methodLink RJ7 304 Lib.Math.min.name, Cond.static Lib.Math.min.name, Cond.code Lib.Math.min.name Lib.Math.min.code 2 (some .int)]
def wsJx4a65c_add_9ea2d_r3 : List Cond := [Cond.methodLink RJ7 150 arraycopyName, Cond.native arraycopyName, Cond.static arraycopyName, Cond.initialized "java/lang/System"]
def wsJx4a65c_add_9ea2d : List Cond := .code yJx4a65c_add_9ea2d cJx4a65c_add_9ea2d 2 (some .boolean) :: ((wsJx4a65c_add_9ea2d_r1 ++ (wsJx4a65c_add_9ea2d_r2 ++ wsJx4a65c_add_9ea2d_r3)) ++ wsJx4a65c0)
def wsX4_addKey_r1 : List Cond := [Cond.classLink RX4 66 "java/lang/IllegalStateException", Cond.initialized "java/lang/IllegalStateException", Cond.fieldLink RX4 24 "TollGateway" "keys" "Ljava/util/ArrayList;", Cond.classLink RX4 73 RX1, Cond.instantiable RX1 9, Cond.initialized RX1, Cond.methodLink RX4 35 yX4_planAt, Cond.instanceMethod yX4_planAt, Cond.selects RX4 yX4_planAt yX4_planAt, Cond.initialized RX4, Cond.code yX4_planAt cX4_planAt 2 (some (.object "TollGateway$Plan")), Cond.classLink RX4 177 "java/lang/IllegalArgumentException", Cond.initialized "java/lang/IllegalArgumentException", Cond.fieldLink RX4 11 "TollGateway" "plans" "[LTollGateway$Plan;", Cond.methodLink RX4 63 yJx4a65c_size_8abf5, Cond.instanceMethod yJx4a65c_size_8abf5, Cond.selects RJx4a65c yJx4a65c_size_8abf5 yJx4a65c_size_8abf5, Cond.initialized RJx4a65c, Cond.code yJx4a65c_size_8abf5 cJx4a65c_size_8abf5 1 (some .int), Cond.fieldLink RJx4a65c 48 "java/util/ArrayList" "size" "I", Cond.instanceMethod yX1_init, Cond.code yX1_init cX1_init 2 none, Cond.methodLink RX1 1 objectInit, Cond.instanceMethod objectInit]
def wsX4_addKey_r2 : List Cond := [Cond.code objectInit ⟨#[0xb1]⟩ 1 none, Cond.fieldLink RX1 7 "TollGateway$Key" "plan" "LTollGateway$Plan;", Cond.fieldLink RX1 19 "TollGateway$Key" "tokens" "I", Cond.methodLink RX4 78 yJx4a65c_add_9ea2d, Cond.instanceMethod yJx4a65c_add_9ea2d, Cond.selects RJx4a65c yJx4a65c_add_9ea2d yJx4a65c_add_9ea2d, Cond.code yJx4a65c_add_9ea2d cJx4a65c_add_9ea2d 2 (some .boolean), Cond.fieldLink RJx4a65c 63 "java/util/ArrayList" "modCount" "I", Cond.sameField "java/util/ArrayList" "java/util/AbstractList" "modCount" "I", Cond.fieldLink RJx4a65c 9 "java/util/ArrayList" "elementData" "[Ljava/lang/Object;", Cond.methodLink RJx4a65c 131 yJx4a65c_add_72be8, Cond.instanceMethod yJx4a65c_add_72be8, Cond.selects RJx4a65c yJx4a65c_add_72be8 yJx4a65c_add_72be8, Cond.code yJx4a65c_add_72be8 cJx4a65c_add_72be8 4 none, Cond.methodLink RJx4a65c 129 yJx4a65c_grow_d5877, Cond.instanceMethod yJx4a65c_grow_d5877, Cond.selects RJx4a65c yJx4a65c_grow_d5877 yJx4a65c_grow_d5877, Cond.code yJx4a65c_grow_d5877 cJx4a65c_grow_d5877 1 (some (.array (.object "java/lang/Object"))), Cond.methodLink RJx4a65c 69 yJx4a65c_grow_92f84, Cond.instanceMethod yJx4a65c_grow_92f84, Cond.selects RJx4a65c yJx4a65c_grow_92f84 yJx4a65c_grow_92f84, Cond.code yJx4a65c_grow_92f84 cJx4a65c_grow_92f84 4 (some (.array (.object "java/lang/Object"))), Cond.fieldLink RJx4a65c 39 "java/util/ArrayList" "DEFAULTCAPACITY_EMPTY_ELEMENTDATA" "[Ljava/lang/Object;", Cond.methodLink RJx4a65c 79 Lib.Math.max.name]
def wsX4_addKey_r3 : List Cond := [Cond.static Lib.Math.max.name, Cond.initialized "java/lang/Math", Cond.code Lib.Math.max.name Lib.Math.max.code 2 (some .int), Cond.classLink RJx4a65c 7 "java/lang/Object", Cond.methodLink RJx4a65c 73 yJ8_newLength_cabcc, Cond.static yJ8_newLength_cabcc, Cond.initialized RJ8, Cond.code yJ8_newLength_cabcc cJ8_newLength_cabcc 4 (some .int), Cond.methodLink RJ8 194 Lib.Math.max.name, Cond.constant RJ8 200 (2147483639), Cond.methodLink RJ8 201 yJ8_hugeLength_7cf53, Cond.static yJ8_hugeLength_7cf53, Cond.code yJ8_hugeLength_7cf53 cJ8_hugeLength_7cf53 3 (some .int), Cond.methodLink RJx4a65c 66 yJ7_copyOf_1904c, Cond.static yJ7_copyOf_1904c, Cond.initialized RJ7, Cond.code yJ7_copyOf_1904c cJ7_copyOf_1904c 2 (some (.array (.object "java/lang/Object"))), Cond.methodLink RJ7 86 ⟨"java/lang/Object", "getClass", "()Ljava/lang/Class;"⟩, Cond.selects "[Ljava/lang/Object;" ⟨"java/lang/Object", "getClass", "()Ljava/lang/Class;"⟩ ⟨"java/lang/Object", "getClass", "()Ljava/lang/Class;"⟩, Cond.instanceMethod ⟨"java/lang/Object", "getClass", "()Ljava/lang/Class;"⟩, Cond.native ⟨"java/lang/Object", "getClass", "()Ljava/lang/Class;"⟩, Cond.methodLink RJ7 300 yJ7_copyOf_6403c, Cond.static yJ7_copyOf_6403c, Cond.code yJ7_copyOf_6403c cJ7_copyOf_6403c 4 (some (.array (.object "java/lang/Object")))]
def wsX4_addKey_r4 : List Cond := [Cond.classLink RJ7 110 "[Ljava/lang/Object;", Cond.classLink RJ7 2 "java/lang/Object", Cond.methodLink RJ7 304 Lib.Math.min.name, Cond.static Lib.Math.min.name, Cond.code Lib.Math.min.name Lib.Math.min.code 2 (some .int), Cond.methodLink RJ7 150 arraycopyName, Cond.native arraycopyName, Cond.static arraycopyName, Cond.initialized "java/lang/System"]
def wsX4_addKey : List Cond := .code yX4_addKey cX4_addKey 3 (some .int) :: ((wsX4_addKey_r1 ++ (wsX4_addKey_r2 ++ (wsX4_addKey_r3 ++ wsX4_addKey_r4))) ++ wsX40 ++ wsX10 ++ wsJx4a65c0 ++ wsX20 ++ (vx_atS RX4 70 "java/lang/IllegalStateException" ["java/lang/RuntimeException", "java/lang/Exception"]).filter goodWord ++ (vx_atS RX4 181 "java/lang/IllegalArgumentException" ["java/lang/RuntimeException", "java/lang/Exception"]).filter goodWord)
def wsJ3_checkIndex_8e157 : List Cond := .code yJ3_checkIndex_8e157 cJ3_checkIndex_8e157 3 (some .int) :: ([])
def wsJ15_checkIndex_7cf53 : List Cond := .code yJ15_checkIndex_7cf53 cJ15_checkIndex_7cf53 2 (some .int) :: ([.methodLink RJ15 105 yJ3_checkIndex_8e157, .static yJ3_checkIndex_8e157, .initialized RJ3, .code yJ3_checkIndex_8e157 cJ3_checkIndex_8e157 3 (some .int)])
def wsJx4a65c_elementData_915e3 : List Cond := .code yJx4a65c_elementData_915e3 cJx4a65c_elementData_915e3 2 (some (.object "java/lang/Object")) :: ([.fieldLink RJx4a65c 9 "java/util/ArrayList" "elementData" "[Ljava/lang/Object;"] ++ wsJx4a65c0)
def wsJx4a65c_get_915e3 : List Cond := .code yJx4a65c_get_915e3 cJx4a65c_get_915e3 2 (some (.object "java/lang/Object")) :: ([.fieldLink RJx4a65c 48 "java/util/ArrayList" "size" "I", .methodLink RJx4a65c 118 yJ15_checkIndex_7cf53, .static yJ15_checkIndex_7cf53, .initialized RJ15, .code yJ15_checkIndex_7cf53 cJ15_checkIndex_7cf53 2 (some .int), .methodLink RJ15 105 yJ3_checkIndex_8e157, .static yJ3_checkIndex_8e157, .initialized RJ3, .code yJ3_checkIndex_8e157 cJ3_checkIndex_8e157 3 (some .int), .methodLink RJx4a65c 123 yJx4a65c_elementData_915e3, .instanceMethod yJx4a65c_elementData_915e3, .selects RJx4a65c yJx4a65c_elementData_915e3 yJx4a65c_elementData_915e3, .initialized RJx4a65c, .code yJx4a65c_elementData_915e3 cJx4a65c_elementData_915e3 2 (some (.object "java/lang/Object")), .fieldLink RJx4a65c 9 "java/util/ArrayList" "elementData" "[Ljava/lang/Object;"] ++ wsJx4a65c0)
def wsX4_keyAt_r1 : List Cond := [Cond.classLink RX4 184 "java/lang/IndexOutOfBoundsException", Cond.initialized "java/lang/IndexOutOfBoundsException", Cond.fieldLink RX4 24 "TollGateway" "keys" "Ljava/util/ArrayList;", Cond.classLink RX4 73 "TollGateway$Key", Cond.methodLink RX4 63 yJx4a65c_size_8abf5, Cond.instanceMethod yJx4a65c_size_8abf5, Cond.selects RJx4a65c yJx4a65c_size_8abf5 yJx4a65c_size_8abf5, Cond.initialized RJx4a65c, Cond.code yJx4a65c_size_8abf5 cJx4a65c_size_8abf5 1 (some .int), Cond.fieldLink RJx4a65c 48 "java/util/ArrayList" "size" "I", Cond.methodLink RX4 189 yJx4a65c_get_915e3, Cond.instanceMethod yJx4a65c_get_915e3, Cond.selects RJx4a65c yJx4a65c_get_915e3 yJx4a65c_get_915e3, Cond.code yJx4a65c_get_915e3 cJx4a65c_get_915e3 2 (some (.object "java/lang/Object")), Cond.methodLink RJx4a65c 118 yJ15_checkIndex_7cf53, Cond.static yJ15_checkIndex_7cf53, Cond.initialized RJ15, Cond.code yJ15_checkIndex_7cf53 cJ15_checkIndex_7cf53 2 (some .int), Cond.methodLink RJ15 105 yJ3_checkIndex_8e157, Cond.static yJ3_checkIndex_8e157, Cond.initialized RJ3, Cond.code yJ3_checkIndex_8e157 cJ3_checkIndex_8e157 3 (some .int), Cond.methodLink RJx4a65c 123 yJx4a65c_elementData_915e3, Cond.instanceMethod yJx4a65c_elementData_915e3]
def wsX4_keyAt_r2 : List Cond := [Cond.selects RJx4a65c yJx4a65c_elementData_915e3 yJx4a65c_elementData_915e3, Cond.code yJx4a65c_elementData_915e3 cJx4a65c_elementData_915e3 2 (some (.object "java/lang/Object")), Cond.fieldLink RJx4a65c 9 "java/util/ArrayList" "elementData" "[Ljava/lang/Object;"]
def wsX4_keyAt : List Cond := .code yX4_keyAt cX4_keyAt 2 (some (.object "TollGateway$Key")) :: ((wsX4_keyAt_r1 ++ wsX4_keyAt_r2) ++ wsX40 ++ wsJx4a65c0 ++ (vx_atS RX4 188 "java/lang/IndexOutOfBoundsException" ["java/lang/RuntimeException", "java/lang/Exception"]).filter goodWord)
def wsX4_setKeyPlan_r1 : List Cond := [Cond.methodLink RX4 82 yX4_keyAt, Cond.instanceMethod yX4_keyAt, Cond.selects RX4 yX4_keyAt yX4_keyAt, Cond.initialized RX4, Cond.code yX4_keyAt cX4_keyAt 2 (some (.object "TollGateway$Key")), Cond.classLink RX4 184 "java/lang/IndexOutOfBoundsException", Cond.initialized "java/lang/IndexOutOfBoundsException", Cond.fieldLink RX4 24 "TollGateway" "keys" "Ljava/util/ArrayList;", Cond.classLink RX4 73 "TollGateway$Key", Cond.methodLink RX4 63 yJx4a65c_size_8abf5, Cond.instanceMethod yJx4a65c_size_8abf5, Cond.selects RJx4a65c yJx4a65c_size_8abf5 yJx4a65c_size_8abf5, Cond.initialized RJx4a65c, Cond.code yJx4a65c_size_8abf5 cJx4a65c_size_8abf5 1 (some .int), Cond.fieldLink RJx4a65c 48 "java/util/ArrayList" "size" "I", Cond.methodLink RX4 189 yJx4a65c_get_915e3, Cond.instanceMethod yJx4a65c_get_915e3, Cond.selects RJx4a65c yJx4a65c_get_915e3 yJx4a65c_get_915e3, Cond.code yJx4a65c_get_915e3 cJx4a65c_get_915e3 2 (some (.object "java/lang/Object")), Cond.methodLink RJx4a65c 118 yJ15_checkIndex_7cf53, Cond.static yJ15_checkIndex_7cf53, Cond.initialized RJ15, Cond.code yJ15_checkIndex_7cf53 cJ15_checkIndex_7cf53 2 (some .int), Cond.methodLink RJ15 105 yJ3_checkIndex_8e157]
def wsX4_setKeyPlan_r2 : List Cond := [Cond.static yJ3_checkIndex_8e157, Cond.initialized RJ3, Cond.code yJ3_checkIndex_8e157 cJ3_checkIndex_8e157 3 (some .int), Cond.methodLink RJx4a65c 123 yJx4a65c_elementData_915e3, Cond.instanceMethod yJx4a65c_elementData_915e3, Cond.selects RJx4a65c yJx4a65c_elementData_915e3 yJx4a65c_elementData_915e3, Cond.code yJx4a65c_elementData_915e3 cJx4a65c_elementData_915e3 2 (some (.object "java/lang/Object")), Cond.fieldLink RJx4a65c 9 "java/util/ArrayList" "elementData" "[Ljava/lang/Object;", Cond.methodLink RX4 35 yX4_planAt, Cond.instanceMethod yX4_planAt, Cond.selects RX4 yX4_planAt yX4_planAt, Cond.code yX4_planAt cX4_planAt 2 (some (.object "TollGateway$Plan")), Cond.classLink RX4 177 "java/lang/IllegalArgumentException", Cond.initialized "java/lang/IllegalArgumentException", Cond.fieldLink RX4 11 "TollGateway" "plans" "[LTollGateway$Plan;"]
def wsX4_setKeyPlan : List Cond := .code yX4_setKeyPlan cX4_setKeyPlan 6 (some .int) :: ((wsX4_setKeyPlan_r1 ++ wsX4_setKeyPlan_r2) ++ wsX10 ++ wsX20 ++ wsX40 ++ wsJx4a65c0 ++ (vx_atS RX4 188 "java/lang/IndexOutOfBoundsException" ["java/lang/RuntimeException", "java/lang/Exception"]).filter goodWord ++ (vx_atS RX4 181 "java/lang/IllegalArgumentException" ["java/lang/RuntimeException", "java/lang/Exception"]).filter goodWord)
def wsX4_setTrust_r1 : List Cond := [Cond.methodLink RX4 82 yX4_keyAt, Cond.instanceMethod yX4_keyAt, Cond.selects RX4 yX4_keyAt yX4_keyAt, Cond.initialized RX4, Cond.code yX4_keyAt cX4_keyAt 2 (some (.object "TollGateway$Key")), Cond.classLink RX4 184 "java/lang/IndexOutOfBoundsException", Cond.initialized "java/lang/IndexOutOfBoundsException", Cond.fieldLink RX4 24 "TollGateway" "keys" "Ljava/util/ArrayList;", Cond.classLink RX4 73 "TollGateway$Key", Cond.methodLink RX4 63 yJx4a65c_size_8abf5, Cond.instanceMethod yJx4a65c_size_8abf5, Cond.selects RJx4a65c yJx4a65c_size_8abf5 yJx4a65c_size_8abf5, Cond.initialized RJx4a65c, Cond.code yJx4a65c_size_8abf5 cJx4a65c_size_8abf5 1 (some .int), Cond.fieldLink RJx4a65c 48 "java/util/ArrayList" "size" "I", Cond.methodLink RX4 189 yJx4a65c_get_915e3, Cond.instanceMethod yJx4a65c_get_915e3, Cond.selects RJx4a65c yJx4a65c_get_915e3 yJx4a65c_get_915e3, Cond.code yJx4a65c_get_915e3 cJx4a65c_get_915e3 2 (some (.object "java/lang/Object")), Cond.methodLink RJx4a65c 118 yJ15_checkIndex_7cf53, Cond.static yJ15_checkIndex_7cf53, Cond.initialized RJ15, Cond.code yJ15_checkIndex_7cf53 cJ15_checkIndex_7cf53 2 (some .int), Cond.methodLink RJ15 105 yJ3_checkIndex_8e157]
def wsX4_setTrust_r2 : List Cond := [Cond.static yJ3_checkIndex_8e157, Cond.initialized RJ3, Cond.code yJ3_checkIndex_8e157 cJ3_checkIndex_8e157 3 (some .int), Cond.methodLink RJx4a65c 123 yJx4a65c_elementData_915e3, Cond.instanceMethod yJx4a65c_elementData_915e3, Cond.selects RJx4a65c yJx4a65c_elementData_915e3 yJx4a65c_elementData_915e3, Cond.code yJx4a65c_elementData_915e3 cJx4a65c_elementData_915e3 2 (some (.object "java/lang/Object")), Cond.fieldLink RJx4a65c 9 "java/util/ArrayList" "elementData" "[Ljava/lang/Object;", Cond.methodLink RX4 39 yX4_refuseOutside, Cond.static yX4_refuseOutside, Cond.code yX4_refuseOutside cX4_refuseOutside 3 none, Cond.classLink RX4 177 "java/lang/IllegalArgumentException", Cond.initialized "java/lang/IllegalArgumentException"]
def wsX4_setTrust : List Cond := .code yX4_setTrust cX4_setTrust 5 (some .int) :: ((wsX4_setTrust_r1 ++ wsX4_setTrust_r2) ++ wsX10 ++ wsX40 ++ wsJx4a65c0 ++ (vx_atS RX4 188 "java/lang/IndexOutOfBoundsException" ["java/lang/RuntimeException", "java/lang/Exception"]).filter goodWord ++ (vx_atS RX4 181 "java/lang/IllegalArgumentException" ["java/lang/RuntimeException", "java/lang/Exception"]).filter goodWord)
def wsX4_pay_r1 : List Cond := [Cond.constant RX4 96 (100000), Cond.methodLink RX4 82 yX4_keyAt, Cond.instanceMethod yX4_keyAt, Cond.selects RX4 yX4_keyAt yX4_keyAt, Cond.initialized RX4, Cond.code yX4_keyAt cX4_keyAt 2 (some (.object "TollGateway$Key")), Cond.classLink RX4 184 "java/lang/IndexOutOfBoundsException", Cond.initialized "java/lang/IndexOutOfBoundsException", Cond.fieldLink RX4 24 "TollGateway" "keys" "Ljava/util/ArrayList;", Cond.classLink RX4 73 "TollGateway$Key", Cond.methodLink RX4 63 yJx4a65c_size_8abf5, Cond.instanceMethod yJx4a65c_size_8abf5, Cond.selects RJx4a65c yJx4a65c_size_8abf5 yJx4a65c_size_8abf5, Cond.initialized RJx4a65c, Cond.code yJx4a65c_size_8abf5 cJx4a65c_size_8abf5 1 (some .int), Cond.fieldLink RJx4a65c 48 "java/util/ArrayList" "size" "I", Cond.methodLink RX4 189 yJx4a65c_get_915e3, Cond.instanceMethod yJx4a65c_get_915e3, Cond.selects RJx4a65c yJx4a65c_get_915e3 yJx4a65c_get_915e3, Cond.code yJx4a65c_get_915e3 cJx4a65c_get_915e3 2 (some (.object "java/lang/Object")), Cond.methodLink RJx4a65c 118 yJ15_checkIndex_7cf53, Cond.static yJ15_checkIndex_7cf53, Cond.initialized RJ15, Cond.code yJ15_checkIndex_7cf53 cJ15_checkIndex_7cf53 2 (some .int)]
def wsX4_pay_r2 : List Cond := [Cond.methodLink RJ15 105 yJ3_checkIndex_8e157, Cond.static yJ3_checkIndex_8e157, Cond.initialized RJ3, Cond.code yJ3_checkIndex_8e157 cJ3_checkIndex_8e157 3 (some .int), Cond.methodLink RJx4a65c 123 yJx4a65c_elementData_915e3, Cond.instanceMethod yJx4a65c_elementData_915e3, Cond.selects RJx4a65c yJx4a65c_elementData_915e3 yJx4a65c_elementData_915e3, Cond.code yJx4a65c_elementData_915e3 cJx4a65c_elementData_915e3 2 (some (.object "java/lang/Object")), Cond.fieldLink RJx4a65c 9 "java/util/ArrayList" "elementData" "[Ljava/lang/Object;", Cond.methodLink RX4 39 yX4_refuseOutside, Cond.static yX4_refuseOutside, Cond.code yX4_refuseOutside cX4_refuseOutside 3 none, Cond.classLink RX4 177 "java/lang/IllegalArgumentException", Cond.initialized "java/lang/IllegalArgumentException", Cond.instanceMethod yX1_receive, Cond.initialized RX1, Cond.selects RX1 yX1_receive yX1_receive, Cond.code yX1_receive cX1_receive 3 none, Cond.fieldLink RX1 22 "TollGateway$Key" "debt" "I", Cond.methodLink RX1 25 Lib.Math.min.name, Cond.static Lib.Math.min.name, Cond.initialized "java/lang/Math", Cond.code Lib.Math.min.name Lib.Math.min.code 2 (some .int), Cond.fieldLink RX1 31 "TollGateway$Key" "credit" "I"]
def wsX4_pay : List Cond := .code yX4_pay cX4_pay 4 (some .int) :: ((wsX4_pay_r1 ++ wsX4_pay_r2) ++ wsX10 ++ wsX40 ++ wsJx4a65c0 ++ (vx_atS RX4 188 "java/lang/IndexOutOfBoundsException" ["java/lang/RuntimeException", "java/lang/Exception"]).filter goodWord ++ (vx_atS RX4 181 "java/lang/IllegalArgumentException" ["java/lang/RuntimeException", "java/lang/Exception"]).filter goodWord)
def wsX4_call_r1 : List Cond := [Cond.classLink RX4 66 "java/lang/IllegalStateException", Cond.initialized "java/lang/IllegalStateException", Cond.fieldLink RX4 28 "TollGateway" "letThrough" "Ljava/util/ArrayList;", Cond.classLink RX4 118 RX0, Cond.instantiable RX0 7, Cond.initialized RX0, Cond.fieldLink RX4 120 "TollGateway" "tick" "I", Cond.methodLink RX4 82 yX4_keyAt, Cond.instanceMethod yX4_keyAt, Cond.selects RX4 yX4_keyAt yX4_keyAt, Cond.initialized RX4, Cond.code yX4_keyAt cX4_keyAt 2 (some (.object "TollGateway$Key")), Cond.classLink RX4 184 "java/lang/IndexOutOfBoundsException", Cond.initialized "java/lang/IndexOutOfBoundsException", Cond.fieldLink RX4 24 "TollGateway" "keys" "Ljava/util/ArrayList;", Cond.classLink RX4 73 "TollGateway$Key", Cond.methodLink RX4 63 yJx4a65c_size_8abf5, Cond.instanceMethod yJx4a65c_size_8abf5, Cond.selects RJx4a65c yJx4a65c_size_8abf5 yJx4a65c_size_8abf5, Cond.initialized RJx4a65c, Cond.code yJx4a65c_size_8abf5 cJx4a65c_size_8abf5 1 (some .int), Cond.fieldLink RJx4a65c 48 "java/util/ArrayList" "size" "I", Cond.methodLink RX4 189 yJx4a65c_get_915e3, Cond.instanceMethod yJx4a65c_get_915e3]
def wsX4_call_r2 : List Cond := [Cond.selects RJx4a65c yJx4a65c_get_915e3 yJx4a65c_get_915e3, Cond.code yJx4a65c_get_915e3 cJx4a65c_get_915e3 2 (some (.object "java/lang/Object")), Cond.methodLink RJx4a65c 118 yJ15_checkIndex_7cf53, Cond.static yJ15_checkIndex_7cf53, Cond.initialized RJ15, Cond.code yJ15_checkIndex_7cf53 cJ15_checkIndex_7cf53 2 (some .int), Cond.methodLink RJ15 105 yJ3_checkIndex_8e157, Cond.static yJ3_checkIndex_8e157, Cond.initialized RJ3, Cond.code yJ3_checkIndex_8e157 cJ3_checkIndex_8e157 3 (some .int), Cond.methodLink RJx4a65c 123 yJx4a65c_elementData_915e3, Cond.instanceMethod yJx4a65c_elementData_915e3, Cond.selects RJx4a65c yJx4a65c_elementData_915e3 yJx4a65c_elementData_915e3, Cond.code yJx4a65c_elementData_915e3 cJx4a65c_elementData_915e3 2 (some (.object "java/lang/Object")), Cond.fieldLink RJx4a65c 9 "java/util/ArrayList" "elementData" "[Ljava/lang/Object;", Cond.methodLink RX4 53 yX4_routeAt, Cond.instanceMethod yX4_routeAt, Cond.selects RX4 yX4_routeAt yX4_routeAt, Cond.code yX4_routeAt cX4_routeAt 2 (some (.object "TollGateway$Route")), Cond.classLink RX4 177 "java/lang/IllegalArgumentException", Cond.initialized "java/lang/IllegalArgumentException", Cond.fieldLink RX4 17 "TollGateway" "routes" "[LTollGateway$Route;", Cond.methodLink RX4 39 yX4_refuseOutside, Cond.static yX4_refuseOutside]
def wsX4_call_r3 : List Cond := [Cond.code yX4_refuseOutside cX4_refuseOutside 3 none, Cond.instanceMethod yX1_canCover, Cond.initialized RX1, Cond.selects RX1 yX1_canCover yX1_canCover, Cond.code yX1_canCover cX1_canCover 3 (some .boolean), Cond.fieldLink RX1 34 "TollGateway$Key" "trustLine" "I", Cond.fieldLink RX1 22 "TollGateway$Key" "debt" "I", Cond.methodLink RX1 37 Lib.Math.max.name, Cond.static Lib.Math.max.name, Cond.initialized "java/lang/Math", Cond.code Lib.Math.max.name Lib.Math.max.code 2 (some .int), Cond.fieldLink RX1 31 "TollGateway$Key" "credit" "I", Cond.instanceMethod yX1_openHold, Cond.selects RX1 yX1_openHold yX1_openHold, Cond.code yX1_openHold cX1_openHold 3 none, Cond.methodLink RX1 25 Lib.Math.min.name, Cond.static Lib.Math.min.name, Cond.code Lib.Math.min.name Lib.Math.min.code 2 (some .int), Cond.fieldLink RX1 40 "TollGateway$Key" "held" "I", Cond.fieldLink RX1 43 "TollGateway$Key" "openHolds" "I", Cond.instanceMethod yX0_init, Cond.code yX0_init cX0_init 5 none, Cond.methodLink RX0 3 objectInit, Cond.instanceMethod objectInit]
def wsX4_call_r4 : List Cond := [Cond.code objectInit ⟨#[0xb1]⟩ 1 none, Cond.fieldLink RX0 9 "TollGateway$Call" "cost" "I", Cond.fieldLink RX0 15 "TollGateway$Call" "key" "LTollGateway$Key;", Cond.fieldLink RX0 19 "TollGateway$Call" "worth" "I", Cond.fieldLink RX0 22 "TollGateway$Call" "weight" "I", Cond.fieldLink RX0 25 "TollGateway$Call" "dueTick" "I", Cond.methodLink RX4 78 yJx4a65c_add_9ea2d, Cond.instanceMethod yJx4a65c_add_9ea2d, Cond.selects RJx4a65c yJx4a65c_add_9ea2d yJx4a65c_add_9ea2d, Cond.code yJx4a65c_add_9ea2d cJx4a65c_add_9ea2d 2 (some .boolean), Cond.fieldLink RJx4a65c 63 "java/util/ArrayList" "modCount" "I", Cond.sameField "java/util/ArrayList" "java/util/AbstractList" "modCount" "I", Cond.methodLink RJx4a65c 131 yJx4a65c_add_72be8, Cond.instanceMethod yJx4a65c_add_72be8, Cond.selects RJx4a65c yJx4a65c_add_72be8 yJx4a65c_add_72be8, Cond.code yJx4a65c_add_72be8 cJx4a65c_add_72be8 4 none, Cond.methodLink RJx4a65c 129 yJx4a65c_grow_d5877, Cond.instanceMethod yJx4a65c_grow_d5877, Cond.selects RJx4a65c yJx4a65c_grow_d5877 yJx4a65c_grow_d5877, Cond.code yJx4a65c_grow_d5877 cJx4a65c_grow_d5877 1 (some (.array (.object "java/lang/Object"))), Cond.methodLink RJx4a65c 69 yJx4a65c_grow_92f84, Cond.instanceMethod yJx4a65c_grow_92f84, Cond.selects RJx4a65c yJx4a65c_grow_92f84 yJx4a65c_grow_92f84, Cond.code yJx4a65c_grow_92f84 cJx4a65c_grow_92f84 4 (some (.array (.object "java/lang/Object")))]
def wsX4_call_r5 : List Cond := [Cond.fieldLink RJx4a65c 39 "java/util/ArrayList" "DEFAULTCAPACITY_EMPTY_ELEMENTDATA" "[Ljava/lang/Object;", Cond.methodLink RJx4a65c 79 Lib.Math.max.name, Cond.classLink RJx4a65c 7 "java/lang/Object", Cond.methodLink RJx4a65c 73 yJ8_newLength_cabcc, Cond.static yJ8_newLength_cabcc, Cond.initialized RJ8, Cond.code yJ8_newLength_cabcc cJ8_newLength_cabcc 4 (some .int), Cond.methodLink RJ8 194 Lib.Math.max.name, Cond.constant RJ8 200 (2147483639), Cond.methodLink RJ8 201 yJ8_hugeLength_7cf53, Cond.static yJ8_hugeLength_7cf53, Cond.code yJ8_hugeLength_7cf53 cJ8_hugeLength_7cf53 3 (some .int), Cond.methodLink RJx4a65c 66 yJ7_copyOf_1904c, Cond.static yJ7_copyOf_1904c, Cond.initialized RJ7, Cond.code yJ7_copyOf_1904c cJ7_copyOf_1904c 2 (some (.array (.object "java/lang/Object"))), Cond.methodLink RJ7 86 ⟨"java/lang/Object", "getClass", "()Ljava/lang/Class;"⟩, Cond.selects "[Ljava/lang/Object;" ⟨"java/lang/Object", "getClass", "()Ljava/lang/Class;"⟩ ⟨"java/lang/Object", "getClass", "()Ljava/lang/Class;"⟩, Cond.instanceMethod ⟨"java/lang/Object", "getClass", "()Ljava/lang/Class;"⟩, Cond.native ⟨"java/lang/Object", "getClass", "()Ljava/lang/Class;"⟩, Cond.methodLink RJ7 300 yJ7_copyOf_6403c, Cond.static yJ7_copyOf_6403c, Cond.code yJ7_copyOf_6403c cJ7_copyOf_6403c 4 (some (.array (.object "java/lang/Object"))), Cond.classLink RJ7 110 "[Ljava/lang/Object;"]
def wsX4_call_r6 : List Cond := [Cond.classLink RJ7 2 "java/lang/Object", Cond.methodLink RJ7 304 Lib.Math.min.name, Cond.methodLink RJ7 150 arraycopyName, Cond.native arraycopyName, Cond.static arraycopyName, Cond.initialized "java/lang/System"]
def wsX4_call : List Cond := .code yX4_call cX4_call 7 (some .int) :: ((wsX4_call_r1 ++ (wsX4_call_r2 ++ (wsX4_call_r3 ++ (wsX4_call_r4 ++ (wsX4_call_r5 ++ wsX4_call_r6))))) ++ wsX40 ++ wsX30 ++ wsX10 ++ wsX00 ++ wsJx4a65c0 ++ (vx_atS RX4 70 "java/lang/IllegalStateException" ["java/lang/RuntimeException", "java/lang/Exception"]).filter goodWord ++ (vx_atS RX4 188 "java/lang/IndexOutOfBoundsException" ["java/lang/RuntimeException", "java/lang/Exception"]).filter goodWord ++ (vx_atS RX4 181 "java/lang/IllegalArgumentException" ["java/lang/RuntimeException", "java/lang/Exception"]).filter goodWord)
def wsX4_callAt_r1 : List Cond := [Cond.classLink RX4 184 "java/lang/IndexOutOfBoundsException", Cond.initialized "java/lang/IndexOutOfBoundsException", Cond.fieldLink RX4 28 "TollGateway" "letThrough" "Ljava/util/ArrayList;", Cond.classLink RX4 118 "TollGateway$Call", Cond.methodLink RX4 63 yJx4a65c_size_8abf5, Cond.instanceMethod yJx4a65c_size_8abf5, Cond.selects RJx4a65c yJx4a65c_size_8abf5 yJx4a65c_size_8abf5, Cond.initialized RJx4a65c, Cond.code yJx4a65c_size_8abf5 cJx4a65c_size_8abf5 1 (some .int), Cond.fieldLink RJx4a65c 48 "java/util/ArrayList" "size" "I", Cond.methodLink RX4 189 yJx4a65c_get_915e3, Cond.instanceMethod yJx4a65c_get_915e3, Cond.selects RJx4a65c yJx4a65c_get_915e3 yJx4a65c_get_915e3, Cond.code yJx4a65c_get_915e3 cJx4a65c_get_915e3 2 (some (.object "java/lang/Object")), Cond.methodLink RJx4a65c 118 yJ15_checkIndex_7cf53, Cond.static yJ15_checkIndex_7cf53, Cond.initialized RJ15, Cond.code yJ15_checkIndex_7cf53 cJ15_checkIndex_7cf53 2 (some .int), Cond.methodLink RJ15 105 yJ3_checkIndex_8e157, Cond.static yJ3_checkIndex_8e157, Cond.initialized RJ3, Cond.code yJ3_checkIndex_8e157 cJ3_checkIndex_8e157 3 (some .int), Cond.methodLink RJx4a65c 123 yJx4a65c_elementData_915e3, Cond.instanceMethod yJx4a65c_elementData_915e3]
def wsX4_callAt_r2 : List Cond := [Cond.selects RJx4a65c yJx4a65c_elementData_915e3 yJx4a65c_elementData_915e3, Cond.code yJx4a65c_elementData_915e3 cJx4a65c_elementData_915e3 2 (some (.object "java/lang/Object")), Cond.fieldLink RJx4a65c 9 "java/util/ArrayList" "elementData" "[Ljava/lang/Object;"]
def wsX4_callAt : List Cond := .code yX4_callAt cX4_callAt 2 (some (.object "TollGateway$Call")) :: ((wsX4_callAt_r1 ++ wsX4_callAt_r2) ++ wsX40 ++ wsJx4a65c0 ++ (vx_atS RX4 188 "java/lang/IndexOutOfBoundsException" ["java/lang/RuntimeException", "java/lang/Exception"]).filter goodWord)
def wsX4_end_r1 : List Cond := [Cond.classLink RX4 66 "java/lang/IllegalStateException", Cond.initialized "java/lang/IllegalStateException", Cond.fieldLink RX4 120 "TollGateway" "tick" "I", Cond.methodLink RX4 126 yX4_callAt, Cond.instanceMethod yX4_callAt, Cond.selects RX4 yX4_callAt yX4_callAt, Cond.initialized RX4, Cond.code yX4_callAt cX4_callAt 2 (some (.object "TollGateway$Call")), Cond.classLink RX4 184 "java/lang/IndexOutOfBoundsException", Cond.initialized "java/lang/IndexOutOfBoundsException", Cond.fieldLink RX4 28 "TollGateway" "letThrough" "Ljava/util/ArrayList;", Cond.classLink RX4 118 "TollGateway$Call", Cond.methodLink RX4 63 yJx4a65c_size_8abf5, Cond.instanceMethod yJx4a65c_size_8abf5, Cond.selects RJx4a65c yJx4a65c_size_8abf5 yJx4a65c_size_8abf5, Cond.initialized RJx4a65c, Cond.code yJx4a65c_size_8abf5 cJx4a65c_size_8abf5 1 (some .int), Cond.fieldLink RJx4a65c 48 "java/util/ArrayList" "size" "I", Cond.methodLink RX4 189 yJx4a65c_get_915e3, Cond.instanceMethod yJx4a65c_get_915e3, Cond.selects RJx4a65c yJx4a65c_get_915e3 yJx4a65c_get_915e3, Cond.code yJx4a65c_get_915e3 cJx4a65c_get_915e3 2 (some (.object "java/lang/Object")), Cond.methodLink RJx4a65c 118 yJ15_checkIndex_7cf53, Cond.static yJ15_checkIndex_7cf53]
def wsX4_end_r2 : List Cond := [Cond.initialized RJ15, Cond.code yJ15_checkIndex_7cf53 cJ15_checkIndex_7cf53 2 (some .int), Cond.methodLink RJ15 105 yJ3_checkIndex_8e157, Cond.static yJ3_checkIndex_8e157, Cond.initialized RJ3, Cond.code yJ3_checkIndex_8e157 cJ3_checkIndex_8e157 3 (some .int), Cond.methodLink RJx4a65c 123 yJx4a65c_elementData_915e3, Cond.instanceMethod yJx4a65c_elementData_915e3, Cond.selects RJx4a65c yJx4a65c_elementData_915e3 yJx4a65c_elementData_915e3, Cond.code yJx4a65c_elementData_915e3 cJx4a65c_elementData_915e3 2 (some (.object "java/lang/Object")), Cond.fieldLink RJx4a65c 9 "java/util/ArrayList" "elementData" "[Ljava/lang/Object;", Cond.methodLink RX4 39 yX4_refuseOutside, Cond.static yX4_refuseOutside, Cond.code yX4_refuseOutside cX4_refuseOutside 3 none, Cond.classLink RX4 177 "java/lang/IllegalArgumentException", Cond.initialized "java/lang/IllegalArgumentException", Cond.instanceMethod yX0_hasEnded, Cond.initialized RX0, Cond.selects RX0 yX0_hasEnded yX0_hasEnded, Cond.code yX0_hasEnded cX0_hasEnded 1 (some .boolean), Cond.fieldLink RX0 9 "TollGateway$Call" "cost" "I", Cond.instanceMethod yX0_settle, Cond.selects RX0 yX0_settle yX0_settle, Cond.code yX0_settle cX0_settle 3 none]
def wsX4_end_r3 : List Cond := [Cond.fieldLink RX0 32 "TollGateway$Call" "endTick" "I", Cond.fieldLink RX0 15 "TollGateway$Call" "key" "LTollGateway$Key;", Cond.fieldLink RX0 19 "TollGateway$Call" "worth" "I", Cond.methodLink RX0 28 yX0_costOf, Cond.instanceMethod yX0_costOf, Cond.selects RX0 yX0_costOf yX0_costOf, Cond.code yX0_costOf cX0_costOf 2 (some .int), Cond.instanceMethod yX1_closeHold, Cond.initialized RX1, Cond.selects RX1 yX1_closeHold yX1_closeHold, Cond.code yX1_closeHold cX1_closeHold 3 none, Cond.fieldLink RX1 40 "TollGateway$Key" "held" "I", Cond.fieldLink RX1 43 "TollGateway$Key" "openHolds" "I", Cond.fieldLink RX1 46 "TollGateway$Key" "spent" "I", Cond.methodLink RX1 49 yX1_receive, Cond.instanceMethod yX1_receive, Cond.selects RX1 yX1_receive yX1_receive, Cond.code yX1_receive cX1_receive 3 none, Cond.fieldLink RX1 22 "TollGateway$Key" "debt" "I", Cond.methodLink RX1 25 Lib.Math.min.name, Cond.static Lib.Math.min.name, Cond.initialized "java/lang/Math", Cond.code Lib.Math.min.name Lib.Math.min.code 2 (some .int), Cond.fieldLink RX1 31 "TollGateway$Key" "credit" "I"]
def wsX4_end : List Cond := .code yX4_end cX4_end 4 (some .int) :: ((wsX4_end_r1 ++ (wsX4_end_r2 ++ wsX4_end_r3)) ++ wsX40 ++ wsX00 ++ wsJx4a65c0 ++ wsX10 ++ (vx_atS RX4 70 "java/lang/IllegalStateException" ["java/lang/RuntimeException", "java/lang/Exception"]).filter goodWord ++ (vx_atS RX4 188 "java/lang/IndexOutOfBoundsException" ["java/lang/RuntimeException", "java/lang/Exception"]).filter goodWord ++ (vx_atS RX4 181 "java/lang/IllegalArgumentException" ["java/lang/RuntimeException", "java/lang/Exception"]).filter goodWord)
def wsX4_dispute_r1 : List Cond := [Cond.classLink RX4 66 "java/lang/IllegalStateException", Cond.initialized "java/lang/IllegalStateException", Cond.fieldLink RX4 120 "TollGateway" "tick" "I", Cond.methodLink RX4 126 yX4_callAt, Cond.instanceMethod yX4_callAt, Cond.selects RX4 yX4_callAt yX4_callAt, Cond.initialized RX4, Cond.code yX4_callAt cX4_callAt 2 (some (.object "TollGateway$Call")), Cond.classLink RX4 184 "java/lang/IndexOutOfBoundsException", Cond.initialized "java/lang/IndexOutOfBoundsException", Cond.fieldLink RX4 28 "TollGateway" "letThrough" "Ljava/util/ArrayList;", Cond.classLink RX4 118 "TollGateway$Call", Cond.methodLink RX4 63 yJx4a65c_size_8abf5, Cond.instanceMethod yJx4a65c_size_8abf5, Cond.selects RJx4a65c yJx4a65c_size_8abf5 yJx4a65c_size_8abf5, Cond.initialized RJx4a65c, Cond.code yJx4a65c_size_8abf5 cJx4a65c_size_8abf5 1 (some .int), Cond.fieldLink RJx4a65c 48 "java/util/ArrayList" "size" "I", Cond.methodLink RX4 189 yJx4a65c_get_915e3, Cond.instanceMethod yJx4a65c_get_915e3, Cond.selects RJx4a65c yJx4a65c_get_915e3 yJx4a65c_get_915e3, Cond.code yJx4a65c_get_915e3 cJx4a65c_get_915e3 2 (some (.object "java/lang/Object")), Cond.methodLink RJx4a65c 118 yJ15_checkIndex_7cf53, Cond.static yJ15_checkIndex_7cf53]
def wsX4_dispute_r2 : List Cond := [Cond.initialized RJ15, Cond.code yJ15_checkIndex_7cf53 cJ15_checkIndex_7cf53 2 (some .int), Cond.methodLink RJ15 105 yJ3_checkIndex_8e157, Cond.static yJ3_checkIndex_8e157, Cond.initialized RJ3, Cond.code yJ3_checkIndex_8e157 cJ3_checkIndex_8e157 3 (some .int), Cond.methodLink RJx4a65c 123 yJx4a65c_elementData_915e3, Cond.instanceMethod yJx4a65c_elementData_915e3, Cond.selects RJx4a65c yJx4a65c_elementData_915e3 yJx4a65c_elementData_915e3, Cond.code yJx4a65c_elementData_915e3 cJx4a65c_elementData_915e3 2 (some (.object "java/lang/Object")), Cond.fieldLink RJx4a65c 9 "java/util/ArrayList" "elementData" "[Ljava/lang/Object;", Cond.instanceMethod yX0_hasEnded, Cond.initialized RX0, Cond.selects RX0 yX0_hasEnded yX0_hasEnded, Cond.code yX0_hasEnded cX0_hasEnded 1 (some .boolean), Cond.fieldLink RX0 9 "TollGateway$Call" "cost" "I", Cond.instanceMethod yX0_giveBack, Cond.selects RX0 yX0_giveBack yX0_giveBack, Cond.code yX0_giveBack cX0_giveBack 2 (some .int), Cond.fieldLink RX0 41 "TollGateway$Call" "wasDisputed" "Z", Cond.fieldLink RX0 15 "TollGateway$Call" "key" "LTollGateway$Key;", Cond.fieldLink RX0 22 "TollGateway$Call" "weight" "I", Cond.instanceMethod yX1_receive, Cond.initialized RX1]
def wsX4_dispute_r3 : List Cond := [Cond.selects RX1 yX1_receive yX1_receive, Cond.code yX1_receive cX1_receive 3 none, Cond.fieldLink RX1 22 "TollGateway$Key" "debt" "I", Cond.methodLink RX1 25 Lib.Math.min.name, Cond.static Lib.Math.min.name, Cond.initialized "java/lang/Math", Cond.code Lib.Math.min.name Lib.Math.min.code 2 (some .int), Cond.fieldLink RX1 31 "TollGateway$Key" "credit" "I"]
def wsX4_dispute : List Cond := .code yX4_dispute cX4_dispute 3 (some .int) :: ((wsX4_dispute_r1 ++ (wsX4_dispute_r2 ++ wsX4_dispute_r3)) ++ wsX00 ++ wsX40 ++ wsJx4a65c0 ++ wsX10 ++ (vx_atS RX4 70 "java/lang/IllegalStateException" ["java/lang/RuntimeException", "java/lang/Exception"]).filter goodWord ++ (vx_atS RX4 188 "java/lang/IndexOutOfBoundsException" ["java/lang/RuntimeException", "java/lang/Exception"]).filter goodWord)
def wsX4_runOutHolds_r1 : List Cond := [Cond.fieldLink RX4 197 "TollGateway" "nextToRunOut" "I", Cond.fieldLink RX4 28 "TollGateway" "letThrough" "Ljava/util/ArrayList;", Cond.classLink RX4 118 "TollGateway$Call", Cond.fieldLink RX4 120 "TollGateway" "tick" "I", Cond.methodLink RX4 63 yJx4a65c_size_8abf5, Cond.instanceMethod yJx4a65c_size_8abf5, Cond.selects RJx4a65c yJx4a65c_size_8abf5 yJx4a65c_size_8abf5, Cond.initialized RJx4a65c, Cond.code yJx4a65c_size_8abf5 cJx4a65c_size_8abf5 1 (some .int), Cond.fieldLink RJx4a65c 48 "java/util/ArrayList" "size" "I", Cond.methodLink RX4 189 yJx4a65c_get_915e3, Cond.instanceMethod yJx4a65c_get_915e3, Cond.selects RJx4a65c yJx4a65c_get_915e3 yJx4a65c_get_915e3, Cond.code yJx4a65c_get_915e3 cJx4a65c_get_915e3 2 (some (.object "java/lang/Object")), Cond.methodLink RJx4a65c 118 yJ15_checkIndex_7cf53, Cond.static yJ15_checkIndex_7cf53, Cond.initialized RJ15, Cond.code yJ15_checkIndex_7cf53 cJ15_checkIndex_7cf53 2 (some .int), Cond.methodLink RJ15 105 yJ3_checkIndex_8e157, Cond.static yJ3_checkIndex_8e157, Cond.initialized RJ3, Cond.code yJ3_checkIndex_8e157 cJ3_checkIndex_8e157 3 (some .int), Cond.methodLink RJx4a65c 123 yJx4a65c_elementData_915e3, Cond.instanceMethod yJx4a65c_elementData_915e3]
def wsX4_runOutHolds_r2 : List Cond := [Cond.selects RJx4a65c yJx4a65c_elementData_915e3 yJx4a65c_elementData_915e3, Cond.code yJx4a65c_elementData_915e3 cJx4a65c_elementData_915e3 2 (some (.object "java/lang/Object")), Cond.fieldLink RJx4a65c 9 "java/util/ArrayList" "elementData" "[Ljava/lang/Object;", Cond.instanceMethod yX0_hasEnded, Cond.initialized RX0, Cond.selects RX0 yX0_hasEnded yX0_hasEnded, Cond.code yX0_hasEnded cX0_hasEnded 1 (some .boolean), Cond.fieldLink RX0 9 "TollGateway$Call" "cost" "I", Cond.instanceMethod yX0_settle, Cond.selects RX0 yX0_settle yX0_settle, Cond.code yX0_settle cX0_settle 3 none, Cond.fieldLink RX0 32 "TollGateway$Call" "endTick" "I", Cond.fieldLink RX0 15 "TollGateway$Call" "key" "LTollGateway$Key;", Cond.fieldLink RX0 19 "TollGateway$Call" "worth" "I", Cond.methodLink RX0 28 yX0_costOf, Cond.instanceMethod yX0_costOf, Cond.selects RX0 yX0_costOf yX0_costOf, Cond.code yX0_costOf cX0_costOf 2 (some .int), Cond.instanceMethod yX1_closeHold, Cond.initialized RX1, Cond.selects RX1 yX1_closeHold yX1_closeHold, Cond.code yX1_closeHold cX1_closeHold 3 none, Cond.fieldLink RX1 40 "TollGateway$Key" "held" "I", Cond.fieldLink RX1 43 "TollGateway$Key" "openHolds" "I"]
def wsX4_runOutHolds_r3 : List Cond := [Cond.fieldLink RX1 46 "TollGateway$Key" "spent" "I", Cond.methodLink RX1 49 yX1_receive, Cond.instanceMethod yX1_receive, Cond.selects RX1 yX1_receive yX1_receive, Cond.code yX1_receive cX1_receive 3 none, Cond.fieldLink RX1 22 "TollGateway$Key" "debt" "I", Cond.methodLink RX1 25 Lib.Math.min.name, Cond.static Lib.Math.min.name, Cond.initialized "java/lang/Math", Cond.code Lib.Math.min.name Lib.Math.min.code 2 (some .int), Cond.fieldLink RX1 31 "TollGateway$Key" "credit" "I"]
def wsX4_runOutHolds : List Cond := .code yX4_runOutHolds cX4_runOutHolds 3 (some .int) :: ((wsX4_runOutHolds_r1 ++ (wsX4_runOutHolds_r2 ++ wsX4_runOutHolds_r3)) ++ wsX40 ++ wsX00 ++ wsJx4a65c0 ++ wsX10)
def wsX4_refillBuckets_r1 : List Cond := [Cond.fieldLink RX4 24 "TollGateway" "keys" "Ljava/util/ArrayList;", Cond.classLink RX4 73 "TollGateway$Key", Cond.methodLink RX4 63 yJx4a65c_size_8abf5, Cond.instanceMethod yJx4a65c_size_8abf5, Cond.selects RJx4a65c yJx4a65c_size_8abf5 yJx4a65c_size_8abf5, Cond.initialized RJx4a65c, Cond.code yJx4a65c_size_8abf5 cJx4a65c_size_8abf5 1 (some .int), Cond.fieldLink RJx4a65c 48 "java/util/ArrayList" "size" "I", Cond.methodLink RX4 189 yJx4a65c_get_915e3, Cond.instanceMethod yJx4a65c_get_915e3, Cond.selects RJx4a65c yJx4a65c_get_915e3 yJx4a65c_get_915e3, Cond.code yJx4a65c_get_915e3 cJx4a65c_get_915e3 2 (some (.object "java/lang/Object")), Cond.methodLink RJx4a65c 118 yJ15_checkIndex_7cf53, Cond.static yJ15_checkIndex_7cf53, Cond.initialized RJ15, Cond.code yJ15_checkIndex_7cf53 cJ15_checkIndex_7cf53 2 (some .int), Cond.methodLink RJ15 105 yJ3_checkIndex_8e157, Cond.static yJ3_checkIndex_8e157, Cond.initialized RJ3, Cond.code yJ3_checkIndex_8e157 cJ3_checkIndex_8e157 3 (some .int), Cond.methodLink RJx4a65c 123 yJx4a65c_elementData_915e3, Cond.instanceMethod yJx4a65c_elementData_915e3, Cond.selects RJx4a65c yJx4a65c_elementData_915e3 yJx4a65c_elementData_915e3, Cond.code yJx4a65c_elementData_915e3 cJx4a65c_elementData_915e3 2 (some (.object "java/lang/Object"))]
def wsX4_refillBuckets_r2 : List Cond := [Cond.fieldLink RJx4a65c 9 "java/util/ArrayList" "elementData" "[Ljava/lang/Object;", Cond.instanceMethod yX1_refillBucket, Cond.initialized RX1, Cond.selects RX1 yX1_refillBucket yX1_refillBucket, Cond.code yX1_refillBucket cX1_refillBucket 2 none, Cond.fieldLink RX1 19 "TollGateway$Key" "tokens" "I", Cond.fieldLink RX1 7 "TollGateway$Key" "plan" "LTollGateway$Plan;", Cond.methodLink RX1 25 Lib.Math.min.name, Cond.static Lib.Math.min.name, Cond.initialized "java/lang/Math", Cond.code Lib.Math.min.name Lib.Math.min.code 2 (some .int), Cond.methodLink RX1 53 yX1_refillsSlowly, Cond.instanceMethod yX1_refillsSlowly, Cond.selects RX1 yX1_refillsSlowly yX1_refillsSlowly, Cond.code yX1_refillsSlowly cX1_refillsSlowly 1 (some .boolean), Cond.fieldLink RX1 31 "TollGateway$Key" "credit" "I", Cond.fieldLink RX1 43 "TollGateway$Key" "openHolds" "I"]
def wsX4_refillBuckets : List Cond := .code yX4_refillBuckets cX4_refillBuckets 2 none :: ((wsX4_refillBuckets_r1 ++ wsX4_refillBuckets_r2) ++ wsX40 ++ wsJx4a65c0 ++ wsX10 ++ wsX20)
def wsX4_pass_r1 : List Cond := [Cond.fieldLink RX4 120 "TollGateway" "tick" "I", Cond.methodLink RX4 39 yX4_refuseOutside, Cond.static yX4_refuseOutside, Cond.initialized RX4, Cond.code yX4_refuseOutside cX4_refuseOutside 3 none, Cond.classLink RX4 177 "java/lang/IllegalArgumentException", Cond.initialized "java/lang/IllegalArgumentException", Cond.methodLink RX4 159 yX4_runOutHolds, Cond.instanceMethod yX4_runOutHolds, Cond.selects RX4 yX4_runOutHolds yX4_runOutHolds, Cond.code yX4_runOutHolds cX4_runOutHolds 3 (some .int), Cond.fieldLink RX4 197 "TollGateway" "nextToRunOut" "I", Cond.fieldLink RX4 28 "TollGateway" "letThrough" "Ljava/util/ArrayList;", Cond.classLink RX4 118 "TollGateway$Call", Cond.methodLink RX4 63 yJx4a65c_size_8abf5, Cond.instanceMethod yJx4a65c_size_8abf5, Cond.selects RJx4a65c yJx4a65c_size_8abf5 yJx4a65c_size_8abf5, Cond.initialized RJx4a65c, Cond.code yJx4a65c_size_8abf5 cJx4a65c_size_8abf5 1 (some .int), Cond.fieldLink RJx4a65c 48 "java/util/ArrayList" "size" "I", Cond.methodLink RX4 189 yJx4a65c_get_915e3, Cond.instanceMethod yJx4a65c_get_915e3, Cond.selects RJx4a65c yJx4a65c_get_915e3 yJx4a65c_get_915e3, Cond.code yJx4a65c_get_915e3 cJx4a65c_get_915e3 2 (some (.object "java/lang/Object"))]
def wsX4_pass_r2 : List Cond := [Cond.methodLink RJx4a65c 118 yJ15_checkIndex_7cf53, Cond.static yJ15_checkIndex_7cf53, Cond.initialized RJ15, Cond.code yJ15_checkIndex_7cf53 cJ15_checkIndex_7cf53 2 (some .int), Cond.methodLink RJ15 105 yJ3_checkIndex_8e157, Cond.static yJ3_checkIndex_8e157, Cond.initialized RJ3, Cond.code yJ3_checkIndex_8e157 cJ3_checkIndex_8e157 3 (some .int), Cond.methodLink RJx4a65c 123 yJx4a65c_elementData_915e3, Cond.instanceMethod yJx4a65c_elementData_915e3, Cond.selects RJx4a65c yJx4a65c_elementData_915e3 yJx4a65c_elementData_915e3, Cond.code yJx4a65c_elementData_915e3 cJx4a65c_elementData_915e3 2 (some (.object "java/lang/Object")), Cond.fieldLink RJx4a65c 9 "java/util/ArrayList" "elementData" "[Ljava/lang/Object;", Cond.instanceMethod yX0_hasEnded, Cond.initialized RX0, Cond.selects RX0 yX0_hasEnded yX0_hasEnded, Cond.code yX0_hasEnded cX0_hasEnded 1 (some .boolean), Cond.fieldLink RX0 9 "TollGateway$Call" "cost" "I", Cond.instanceMethod yX0_settle, Cond.selects RX0 yX0_settle yX0_settle, Cond.code yX0_settle cX0_settle 3 none, Cond.fieldLink RX0 32 "TollGateway$Call" "endTick" "I", Cond.fieldLink RX0 15 "TollGateway$Call" "key" "LTollGateway$Key;", Cond.fieldLink RX0 19 "TollGateway$Call" "worth" "I"]
def wsX4_pass_r3 : List Cond := [Cond.methodLink RX0 28 yX0_costOf, Cond.instanceMethod yX0_costOf, Cond.selects RX0 yX0_costOf yX0_costOf, Cond.code yX0_costOf cX0_costOf 2 (some .int), Cond.instanceMethod yX1_closeHold, Cond.initialized RX1, Cond.selects RX1 yX1_closeHold yX1_closeHold, Cond.code yX1_closeHold cX1_closeHold 3 none, Cond.fieldLink RX1 40 "TollGateway$Key" "held" "I", Cond.fieldLink RX1 43 "TollGateway$Key" "openHolds" "I", Cond.fieldLink RX1 46 "TollGateway$Key" "spent" "I", Cond.methodLink RX1 49 yX1_receive, Cond.instanceMethod yX1_receive, Cond.selects RX1 yX1_receive yX1_receive, Cond.code yX1_receive cX1_receive 3 none, Cond.fieldLink RX1 22 "TollGateway$Key" "debt" "I", Cond.methodLink RX1 25 Lib.Math.min.name, Cond.static Lib.Math.min.name, Cond.initialized "java/lang/Math", Cond.code Lib.Math.min.name Lib.Math.min.code 2 (some .int), Cond.fieldLink RX1 31 "TollGateway$Key" "credit" "I", Cond.methodLink RX4 162 yX4_refillBuckets, Cond.instanceMethod yX4_refillBuckets, Cond.selects RX4 yX4_refillBuckets yX4_refillBuckets]
def wsX4_pass_r4 : List Cond := [Cond.code yX4_refillBuckets cX4_refillBuckets 2 none, Cond.fieldLink RX4 24 "TollGateway" "keys" "Ljava/util/ArrayList;", Cond.classLink RX4 73 "TollGateway$Key", Cond.instanceMethod yX1_refillBucket, Cond.selects RX1 yX1_refillBucket yX1_refillBucket, Cond.code yX1_refillBucket cX1_refillBucket 2 none, Cond.fieldLink RX1 19 "TollGateway$Key" "tokens" "I", Cond.fieldLink RX1 7 "TollGateway$Key" "plan" "LTollGateway$Plan;", Cond.methodLink RX1 53 yX1_refillsSlowly, Cond.instanceMethod yX1_refillsSlowly, Cond.selects RX1 yX1_refillsSlowly yX1_refillsSlowly, Cond.code yX1_refillsSlowly cX1_refillsSlowly 1 (some .boolean)]
def wsX4_pass : List Cond := .code yX4_pass cX4_pass 4 (some .int) :: ((wsX4_pass_r1 ++ (wsX4_pass_r2 ++ (wsX4_pass_r3 ++ wsX4_pass_r4))) ++ wsX40 ++ wsX00 ++ wsJx4a65c0 ++ wsX10 ++ wsX20 ++ (vx_atS RX4 181 "java/lang/IllegalArgumentException" ["java/lang/RuntimeException", "java/lang/Exception"]).filter goodWord)
def wsX4_now : List Cond := .code yX4_now cX4_now 1 (some .int) :: ([.fieldLink RX4 120 "TollGateway" "tick" "I"] ++ wsX40)
def wsX4_calls : List Cond := .code yX4_calls cX4_calls 1 (some .int) :: ([.fieldLink RX4 28 "TollGateway" "letThrough" "Ljava/util/ArrayList;", .methodLink RX4 63 yJx4a65c_size_8abf5, .instanceMethod yJx4a65c_size_8abf5, .selects RJx4a65c yJx4a65c_size_8abf5 yJx4a65c_size_8abf5, .initialized RJx4a65c, .code yJx4a65c_size_8abf5 cJx4a65c_size_8abf5 1 (some .int), .fieldLink RJx4a65c 48 "java/util/ArrayList" "size" "I"] ++ wsX40 ++ wsJx4a65c0)
def wsX4_credit_r1 : List Cond := [Cond.methodLink RX4 82 yX4_keyAt, Cond.instanceMethod yX4_keyAt, Cond.selects RX4 yX4_keyAt yX4_keyAt, Cond.initialized RX4, Cond.code yX4_keyAt cX4_keyAt 2 (some (.object "TollGateway$Key")), Cond.classLink RX4 184 "java/lang/IndexOutOfBoundsException", Cond.initialized "java/lang/IndexOutOfBoundsException", Cond.fieldLink RX4 24 "TollGateway" "keys" "Ljava/util/ArrayList;", Cond.classLink RX4 73 "TollGateway$Key", Cond.methodLink RX4 63 yJx4a65c_size_8abf5, Cond.instanceMethod yJx4a65c_size_8abf5, Cond.selects RJx4a65c yJx4a65c_size_8abf5 yJx4a65c_size_8abf5, Cond.initialized RJx4a65c, Cond.code yJx4a65c_size_8abf5 cJx4a65c_size_8abf5 1 (some .int), Cond.fieldLink RJx4a65c 48 "java/util/ArrayList" "size" "I", Cond.methodLink RX4 189 yJx4a65c_get_915e3, Cond.instanceMethod yJx4a65c_get_915e3, Cond.selects RJx4a65c yJx4a65c_get_915e3 yJx4a65c_get_915e3, Cond.code yJx4a65c_get_915e3 cJx4a65c_get_915e3 2 (some (.object "java/lang/Object")), Cond.methodLink RJx4a65c 118 yJ15_checkIndex_7cf53, Cond.static yJ15_checkIndex_7cf53, Cond.initialized RJ15, Cond.code yJ15_checkIndex_7cf53 cJ15_checkIndex_7cf53 2 (some .int), Cond.methodLink RJ15 105 yJ3_checkIndex_8e157]
def wsX4_credit_r2 : List Cond := [Cond.static yJ3_checkIndex_8e157, Cond.initialized RJ3, Cond.code yJ3_checkIndex_8e157 cJ3_checkIndex_8e157 3 (some .int), Cond.methodLink RJx4a65c 123 yJx4a65c_elementData_915e3, Cond.instanceMethod yJx4a65c_elementData_915e3, Cond.selects RJx4a65c yJx4a65c_elementData_915e3 yJx4a65c_elementData_915e3, Cond.code yJx4a65c_elementData_915e3 cJx4a65c_elementData_915e3 2 (some (.object "java/lang/Object")), Cond.fieldLink RJx4a65c 9 "java/util/ArrayList" "elementData" "[Ljava/lang/Object;"]
def wsX4_credit : List Cond := .code yX4_credit cX4_credit 2 (some .int) :: ((wsX4_credit_r1 ++ wsX4_credit_r2) ++ wsX10 ++ wsX40 ++ wsJx4a65c0 ++ (vx_atS RX4 188 "java/lang/IndexOutOfBoundsException" ["java/lang/RuntimeException", "java/lang/Exception"]).filter goodWord)
def wsX4_debt_r1 : List Cond := [Cond.methodLink RX4 82 yX4_keyAt, Cond.instanceMethod yX4_keyAt, Cond.selects RX4 yX4_keyAt yX4_keyAt, Cond.initialized RX4, Cond.code yX4_keyAt cX4_keyAt 2 (some (.object "TollGateway$Key")), Cond.classLink RX4 184 "java/lang/IndexOutOfBoundsException", Cond.initialized "java/lang/IndexOutOfBoundsException", Cond.fieldLink RX4 24 "TollGateway" "keys" "Ljava/util/ArrayList;", Cond.classLink RX4 73 "TollGateway$Key", Cond.methodLink RX4 63 yJx4a65c_size_8abf5, Cond.instanceMethod yJx4a65c_size_8abf5, Cond.selects RJx4a65c yJx4a65c_size_8abf5 yJx4a65c_size_8abf5, Cond.initialized RJx4a65c, Cond.code yJx4a65c_size_8abf5 cJx4a65c_size_8abf5 1 (some .int), Cond.fieldLink RJx4a65c 48 "java/util/ArrayList" "size" "I", Cond.methodLink RX4 189 yJx4a65c_get_915e3, Cond.instanceMethod yJx4a65c_get_915e3, Cond.selects RJx4a65c yJx4a65c_get_915e3 yJx4a65c_get_915e3, Cond.code yJx4a65c_get_915e3 cJx4a65c_get_915e3 2 (some (.object "java/lang/Object")), Cond.methodLink RJx4a65c 118 yJ15_checkIndex_7cf53, Cond.static yJ15_checkIndex_7cf53, Cond.initialized RJ15, Cond.code yJ15_checkIndex_7cf53 cJ15_checkIndex_7cf53 2 (some .int), Cond.methodLink RJ15 105 yJ3_checkIndex_8e157]
def wsX4_debt_r2 : List Cond := [Cond.static yJ3_checkIndex_8e157, Cond.initialized RJ3, Cond.code yJ3_checkIndex_8e157 cJ3_checkIndex_8e157 3 (some .int), Cond.methodLink RJx4a65c 123 yJx4a65c_elementData_915e3, Cond.instanceMethod yJx4a65c_elementData_915e3, Cond.selects RJx4a65c yJx4a65c_elementData_915e3 yJx4a65c_elementData_915e3, Cond.code yJx4a65c_elementData_915e3 cJx4a65c_elementData_915e3 2 (some (.object "java/lang/Object")), Cond.fieldLink RJx4a65c 9 "java/util/ArrayList" "elementData" "[Ljava/lang/Object;"]
def wsX4_debt : List Cond := .code yX4_debt cX4_debt 2 (some .int) :: ((wsX4_debt_r1 ++ wsX4_debt_r2) ++ wsX10 ++ wsX40 ++ wsJx4a65c0 ++ (vx_atS RX4 188 "java/lang/IndexOutOfBoundsException" ["java/lang/RuntimeException", "java/lang/Exception"]).filter goodWord)
def wsX4_held_r1 : List Cond := [Cond.methodLink RX4 82 yX4_keyAt, Cond.instanceMethod yX4_keyAt, Cond.selects RX4 yX4_keyAt yX4_keyAt, Cond.initialized RX4, Cond.code yX4_keyAt cX4_keyAt 2 (some (.object "TollGateway$Key")), Cond.classLink RX4 184 "java/lang/IndexOutOfBoundsException", Cond.initialized "java/lang/IndexOutOfBoundsException", Cond.fieldLink RX4 24 "TollGateway" "keys" "Ljava/util/ArrayList;", Cond.classLink RX4 73 "TollGateway$Key", Cond.methodLink RX4 63 yJx4a65c_size_8abf5, Cond.instanceMethod yJx4a65c_size_8abf5, Cond.selects RJx4a65c yJx4a65c_size_8abf5 yJx4a65c_size_8abf5, Cond.initialized RJx4a65c, Cond.code yJx4a65c_size_8abf5 cJx4a65c_size_8abf5 1 (some .int), Cond.fieldLink RJx4a65c 48 "java/util/ArrayList" "size" "I", Cond.methodLink RX4 189 yJx4a65c_get_915e3, Cond.instanceMethod yJx4a65c_get_915e3, Cond.selects RJx4a65c yJx4a65c_get_915e3 yJx4a65c_get_915e3, Cond.code yJx4a65c_get_915e3 cJx4a65c_get_915e3 2 (some (.object "java/lang/Object")), Cond.methodLink RJx4a65c 118 yJ15_checkIndex_7cf53, Cond.static yJ15_checkIndex_7cf53, Cond.initialized RJ15, Cond.code yJ15_checkIndex_7cf53 cJ15_checkIndex_7cf53 2 (some .int), Cond.methodLink RJ15 105 yJ3_checkIndex_8e157]
def wsX4_held_r2 : List Cond := [Cond.static yJ3_checkIndex_8e157, Cond.initialized RJ3, Cond.code yJ3_checkIndex_8e157 cJ3_checkIndex_8e157 3 (some .int), Cond.methodLink RJx4a65c 123 yJx4a65c_elementData_915e3, Cond.instanceMethod yJx4a65c_elementData_915e3, Cond.selects RJx4a65c yJx4a65c_elementData_915e3 yJx4a65c_elementData_915e3, Cond.code yJx4a65c_elementData_915e3 cJx4a65c_elementData_915e3 2 (some (.object "java/lang/Object")), Cond.fieldLink RJx4a65c 9 "java/util/ArrayList" "elementData" "[Ljava/lang/Object;"]
def wsX4_held : List Cond := .code yX4_held cX4_held 2 (some .int) :: ((wsX4_held_r1 ++ wsX4_held_r2) ++ wsX10 ++ wsX40 ++ wsJx4a65c0 ++ (vx_atS RX4 188 "java/lang/IndexOutOfBoundsException" ["java/lang/RuntimeException", "java/lang/Exception"]).filter goodWord)
def wsX4_tokens_r1 : List Cond := [Cond.methodLink RX4 82 yX4_keyAt, Cond.instanceMethod yX4_keyAt, Cond.selects RX4 yX4_keyAt yX4_keyAt, Cond.initialized RX4, Cond.code yX4_keyAt cX4_keyAt 2 (some (.object "TollGateway$Key")), Cond.classLink RX4 184 "java/lang/IndexOutOfBoundsException", Cond.initialized "java/lang/IndexOutOfBoundsException", Cond.fieldLink RX4 24 "TollGateway" "keys" "Ljava/util/ArrayList;", Cond.classLink RX4 73 "TollGateway$Key", Cond.methodLink RX4 63 yJx4a65c_size_8abf5, Cond.instanceMethod yJx4a65c_size_8abf5, Cond.selects RJx4a65c yJx4a65c_size_8abf5 yJx4a65c_size_8abf5, Cond.initialized RJx4a65c, Cond.code yJx4a65c_size_8abf5 cJx4a65c_size_8abf5 1 (some .int), Cond.fieldLink RJx4a65c 48 "java/util/ArrayList" "size" "I", Cond.methodLink RX4 189 yJx4a65c_get_915e3, Cond.instanceMethod yJx4a65c_get_915e3, Cond.selects RJx4a65c yJx4a65c_get_915e3 yJx4a65c_get_915e3, Cond.code yJx4a65c_get_915e3 cJx4a65c_get_915e3 2 (some (.object "java/lang/Object")), Cond.methodLink RJx4a65c 118 yJ15_checkIndex_7cf53, Cond.static yJ15_checkIndex_7cf53, Cond.initialized RJ15, Cond.code yJ15_checkIndex_7cf53 cJ15_checkIndex_7cf53 2 (some .int), Cond.methodLink RJ15 105 yJ3_checkIndex_8e157]
def wsX4_tokens_r2 : List Cond := [Cond.static yJ3_checkIndex_8e157, Cond.initialized RJ3, Cond.code yJ3_checkIndex_8e157 cJ3_checkIndex_8e157 3 (some .int), Cond.methodLink RJx4a65c 123 yJx4a65c_elementData_915e3, Cond.instanceMethod yJx4a65c_elementData_915e3, Cond.selects RJx4a65c yJx4a65c_elementData_915e3 yJx4a65c_elementData_915e3, Cond.code yJx4a65c_elementData_915e3 cJx4a65c_elementData_915e3 2 (some (.object "java/lang/Object")), Cond.fieldLink RJx4a65c 9 "java/util/ArrayList" "elementData" "[Ljava/lang/Object;"]
def wsX4_tokens : List Cond := .code yX4_tokens cX4_tokens 2 (some .int) :: ((wsX4_tokens_r1 ++ wsX4_tokens_r2) ++ wsX10 ++ wsX40 ++ wsJx4a65c0 ++ (vx_atS RX4 188 "java/lang/IndexOutOfBoundsException" ["java/lang/RuntimeException", "java/lang/Exception"]).filter goodWord)
def wsX4_isSlowed_r1 : List Cond := [Cond.methodLink RX4 82 yX4_keyAt, Cond.instanceMethod yX4_keyAt, Cond.selects RX4 yX4_keyAt yX4_keyAt, Cond.initialized RX4, Cond.code yX4_keyAt cX4_keyAt 2 (some (.object "TollGateway$Key")), Cond.classLink RX4 184 "java/lang/IndexOutOfBoundsException", Cond.initialized "java/lang/IndexOutOfBoundsException", Cond.fieldLink RX4 24 "TollGateway" "keys" "Ljava/util/ArrayList;", Cond.classLink RX4 73 "TollGateway$Key", Cond.methodLink RX4 63 yJx4a65c_size_8abf5, Cond.instanceMethod yJx4a65c_size_8abf5, Cond.selects RJx4a65c yJx4a65c_size_8abf5 yJx4a65c_size_8abf5, Cond.initialized RJx4a65c, Cond.code yJx4a65c_size_8abf5 cJx4a65c_size_8abf5 1 (some .int), Cond.fieldLink RJx4a65c 48 "java/util/ArrayList" "size" "I", Cond.methodLink RX4 189 yJx4a65c_get_915e3, Cond.instanceMethod yJx4a65c_get_915e3, Cond.selects RJx4a65c yJx4a65c_get_915e3 yJx4a65c_get_915e3, Cond.code yJx4a65c_get_915e3 cJx4a65c_get_915e3 2 (some (.object "java/lang/Object")), Cond.methodLink RJx4a65c 118 yJ15_checkIndex_7cf53, Cond.static yJ15_checkIndex_7cf53, Cond.initialized RJ15, Cond.code yJ15_checkIndex_7cf53 cJ15_checkIndex_7cf53 2 (some .int), Cond.methodLink RJ15 105 yJ3_checkIndex_8e157]
def wsX4_isSlowed_r2 : List Cond := [Cond.static yJ3_checkIndex_8e157, Cond.initialized RJ3, Cond.code yJ3_checkIndex_8e157 cJ3_checkIndex_8e157 3 (some .int), Cond.methodLink RJx4a65c 123 yJx4a65c_elementData_915e3, Cond.instanceMethod yJx4a65c_elementData_915e3, Cond.selects RJx4a65c yJx4a65c_elementData_915e3 yJx4a65c_elementData_915e3, Cond.code yJx4a65c_elementData_915e3 cJx4a65c_elementData_915e3 2 (some (.object "java/lang/Object")), Cond.fieldLink RJx4a65c 9 "java/util/ArrayList" "elementData" "[Ljava/lang/Object;", Cond.instanceMethod yX1_refillsSlowly, Cond.initialized RX1, Cond.selects RX1 yX1_refillsSlowly yX1_refillsSlowly, Cond.code yX1_refillsSlowly cX1_refillsSlowly 1 (some .boolean), Cond.fieldLink RX1 31 "TollGateway$Key" "credit" "I", Cond.fieldLink RX1 43 "TollGateway$Key" "openHolds" "I"]
def wsX4_isSlowed : List Cond := .code yX4_isSlowed cX4_isSlowed 2 (some .boolean) :: ((wsX4_isSlowed_r1 ++ wsX4_isSlowed_r2) ++ wsX40 ++ wsJx4a65c0 ++ wsX10 ++ (vx_atS RX4 188 "java/lang/IndexOutOfBoundsException" ["java/lang/RuntimeException", "java/lang/Exception"]).filter goodWord)
def wsX4_cost_r1 : List Cond := [Cond.methodLink RX4 126 yX4_callAt, Cond.instanceMethod yX4_callAt, Cond.selects RX4 yX4_callAt yX4_callAt, Cond.initialized RX4, Cond.code yX4_callAt cX4_callAt 2 (some (.object "TollGateway$Call")), Cond.classLink RX4 184 "java/lang/IndexOutOfBoundsException", Cond.initialized "java/lang/IndexOutOfBoundsException", Cond.fieldLink RX4 28 "TollGateway" "letThrough" "Ljava/util/ArrayList;", Cond.classLink RX4 118 "TollGateway$Call", Cond.methodLink RX4 63 yJx4a65c_size_8abf5, Cond.instanceMethod yJx4a65c_size_8abf5, Cond.selects RJx4a65c yJx4a65c_size_8abf5 yJx4a65c_size_8abf5, Cond.initialized RJx4a65c, Cond.code yJx4a65c_size_8abf5 cJx4a65c_size_8abf5 1 (some .int), Cond.fieldLink RJx4a65c 48 "java/util/ArrayList" "size" "I", Cond.methodLink RX4 189 yJx4a65c_get_915e3, Cond.instanceMethod yJx4a65c_get_915e3, Cond.selects RJx4a65c yJx4a65c_get_915e3 yJx4a65c_get_915e3, Cond.code yJx4a65c_get_915e3 cJx4a65c_get_915e3 2 (some (.object "java/lang/Object")), Cond.methodLink RJx4a65c 118 yJ15_checkIndex_7cf53, Cond.static yJ15_checkIndex_7cf53, Cond.initialized RJ15, Cond.code yJ15_checkIndex_7cf53 cJ15_checkIndex_7cf53 2 (some .int), Cond.methodLink RJ15 105 yJ3_checkIndex_8e157]
def wsX4_cost_r2 : List Cond := [Cond.static yJ3_checkIndex_8e157, Cond.initialized RJ3, Cond.code yJ3_checkIndex_8e157 cJ3_checkIndex_8e157 3 (some .int), Cond.methodLink RJx4a65c 123 yJx4a65c_elementData_915e3, Cond.instanceMethod yJx4a65c_elementData_915e3, Cond.selects RJx4a65c yJx4a65c_elementData_915e3 yJx4a65c_elementData_915e3, Cond.code yJx4a65c_elementData_915e3 cJx4a65c_elementData_915e3 2 (some (.object "java/lang/Object")), Cond.fieldLink RJx4a65c 9 "java/util/ArrayList" "elementData" "[Ljava/lang/Object;"]
def wsX4_cost : List Cond := .code yX4_cost cX4_cost 2 (some .int) :: ((wsX4_cost_r1 ++ wsX4_cost_r2) ++ wsX00 ++ wsX40 ++ wsJx4a65c0 ++ (vx_atS RX4 188 "java/lang/IndexOutOfBoundsException" ["java/lang/RuntimeException", "java/lang/Exception"]).filter goodWord)
def wsX4_spent_r1 : List Cond := [Cond.methodLink RX4 82 yX4_keyAt, Cond.instanceMethod yX4_keyAt, Cond.selects RX4 yX4_keyAt yX4_keyAt, Cond.initialized RX4, Cond.code yX4_keyAt cX4_keyAt 2 (some (.object "TollGateway$Key")), Cond.classLink RX4 184 "java/lang/IndexOutOfBoundsException", Cond.initialized "java/lang/IndexOutOfBoundsException", Cond.fieldLink RX4 24 "TollGateway" "keys" "Ljava/util/ArrayList;", Cond.classLink RX4 73 "TollGateway$Key", Cond.methodLink RX4 63 yJx4a65c_size_8abf5, Cond.instanceMethod yJx4a65c_size_8abf5, Cond.selects RJx4a65c yJx4a65c_size_8abf5 yJx4a65c_size_8abf5, Cond.initialized RJx4a65c, Cond.code yJx4a65c_size_8abf5 cJx4a65c_size_8abf5 1 (some .int), Cond.fieldLink RJx4a65c 48 "java/util/ArrayList" "size" "I", Cond.methodLink RX4 189 yJx4a65c_get_915e3, Cond.instanceMethod yJx4a65c_get_915e3, Cond.selects RJx4a65c yJx4a65c_get_915e3 yJx4a65c_get_915e3, Cond.code yJx4a65c_get_915e3 cJx4a65c_get_915e3 2 (some (.object "java/lang/Object")), Cond.methodLink RJx4a65c 118 yJ15_checkIndex_7cf53, Cond.static yJ15_checkIndex_7cf53, Cond.initialized RJ15, Cond.code yJ15_checkIndex_7cf53 cJ15_checkIndex_7cf53 2 (some .int), Cond.methodLink RJ15 105 yJ3_checkIndex_8e157]
def wsX4_spent_r2 : List Cond := [Cond.static yJ3_checkIndex_8e157, Cond.initialized RJ3, Cond.code yJ3_checkIndex_8e157 cJ3_checkIndex_8e157 3 (some .int), Cond.methodLink RJx4a65c 123 yJx4a65c_elementData_915e3, Cond.instanceMethod yJx4a65c_elementData_915e3, Cond.selects RJx4a65c yJx4a65c_elementData_915e3 yJx4a65c_elementData_915e3, Cond.code yJx4a65c_elementData_915e3 cJx4a65c_elementData_915e3 2 (some (.object "java/lang/Object")), Cond.fieldLink RJx4a65c 9 "java/util/ArrayList" "elementData" "[Ljava/lang/Object;"]
def wsX4_spent : List Cond := .code yX4_spent cX4_spent 2 (some .int) :: ((wsX4_spent_r1 ++ wsX4_spent_r2) ++ wsX10 ++ wsX40 ++ wsJx4a65c0 ++ (vx_atS RX4 188 "java/lang/IndexOutOfBoundsException" ["java/lang/RuntimeException", "java/lang/Exception"]).filter goodWord)
def wsX4_paid_r1 : List Cond := [Cond.methodLink RX4 82 yX4_keyAt, Cond.instanceMethod yX4_keyAt, Cond.selects RX4 yX4_keyAt yX4_keyAt, Cond.initialized RX4, Cond.code yX4_keyAt cX4_keyAt 2 (some (.object "TollGateway$Key")), Cond.classLink RX4 184 "java/lang/IndexOutOfBoundsException", Cond.initialized "java/lang/IndexOutOfBoundsException", Cond.fieldLink RX4 24 "TollGateway" "keys" "Ljava/util/ArrayList;", Cond.classLink RX4 73 "TollGateway$Key", Cond.methodLink RX4 63 yJx4a65c_size_8abf5, Cond.instanceMethod yJx4a65c_size_8abf5, Cond.selects RJx4a65c yJx4a65c_size_8abf5 yJx4a65c_size_8abf5, Cond.initialized RJx4a65c, Cond.code yJx4a65c_size_8abf5 cJx4a65c_size_8abf5 1 (some .int), Cond.fieldLink RJx4a65c 48 "java/util/ArrayList" "size" "I", Cond.methodLink RX4 189 yJx4a65c_get_915e3, Cond.instanceMethod yJx4a65c_get_915e3, Cond.selects RJx4a65c yJx4a65c_get_915e3 yJx4a65c_get_915e3, Cond.code yJx4a65c_get_915e3 cJx4a65c_get_915e3 2 (some (.object "java/lang/Object")), Cond.methodLink RJx4a65c 118 yJ15_checkIndex_7cf53, Cond.static yJ15_checkIndex_7cf53, Cond.initialized RJ15, Cond.code yJ15_checkIndex_7cf53 cJ15_checkIndex_7cf53 2 (some .int), Cond.methodLink RJ15 105 yJ3_checkIndex_8e157]
def wsX4_paid_r2 : List Cond := [Cond.static yJ3_checkIndex_8e157, Cond.initialized RJ3, Cond.code yJ3_checkIndex_8e157 cJ3_checkIndex_8e157 3 (some .int), Cond.methodLink RJx4a65c 123 yJx4a65c_elementData_915e3, Cond.instanceMethod yJx4a65c_elementData_915e3, Cond.selects RJx4a65c yJx4a65c_elementData_915e3 yJx4a65c_elementData_915e3, Cond.code yJx4a65c_elementData_915e3 cJx4a65c_elementData_915e3 2 (some (.object "java/lang/Object")), Cond.fieldLink RJx4a65c 9 "java/util/ArrayList" "elementData" "[Ljava/lang/Object;"]
def wsX4_paid : List Cond := .code yX4_paid cX4_paid 2 (some .int) :: ((wsX4_paid_r1 ++ wsX4_paid_r2) ++ wsX10 ++ wsX40 ++ wsJx4a65c0 ++ (vx_atS RX4 188 "java/lang/IndexOutOfBoundsException" ["java/lang/RuntimeException", "java/lang/Exception"]).filter goodWord)
def wsX5_init : List Cond := .code yX5_init cX5_init 1 none :: ([.methodLink RX5 1 objectInit, .instanceMethod objectInit, .code objectInit ⟨#[0xb1]⟩ 1 none, .arrayClass .int, .fieldLink RX5 7 "TollGatewayModel" "sizes" "[I", .fieldLink RX5 13 "TollGatewayModel" "refills" "[I", .fieldLink RX5 16 "TollGatewayModel" "slows" "[I", .fieldLink RX5 19 "TollGatewayModel" "prices" "[I", .fieldLink RX5 22 "TollGatewayModel" "weights" "[I", .fieldLink RX5 25 "TollGatewayModel" "plans" "[I", .fieldLink RX5 28 "TollGatewayModel" "credits" "[I", .fieldLink RX5 31 "TollGatewayModel" "lines" "[I", .fieldLink RX5 34 "TollGatewayModel" "debts" "[I", .fieldLink RX5 37 "TollGatewayModel" "tokens" "[I", .fieldLink RX5 40 "TollGatewayModel" "paid" "[I", .fieldLink RX5 43 "TollGatewayModel" "callers" "[I", .fieldLink RX5 46 "TollGatewayModel" "worths" "[I", .fieldLink RX5 49 "TollGatewayModel" "took" "[I", .fieldLink RX5 52 "TollGatewayModel" "begun" "[I", .fieldLink RX5 55 "TollGatewayModel" "costs" "[I", .fieldLink RX5 58 "TollGatewayModel" "endedAt" "[I", .arrayClass .boolean, .fieldLink RX5 61 "TollGatewayModel" "hasEnded" "[Z", .fieldLink RX5 65 "TollGatewayModel" "isDisputed" "[Z"] ++ wsX50)
def wsX5_thrown : List Cond := .code yX5_thrown cX5_thrown 1 (some .int) :: ([.fieldLink RX5 68 "TollGatewayModel" "thrown" "I"] ++ wsX50)
def wsX5_goesWell : List Cond := .code yX5_goesWell cX5_goesWell 2 (some .boolean) :: ([.fieldLink RX5 68 "TollGatewayModel" "thrown" "I"] ++ wsX50)
def wsX5_in : List Cond := .code yX5_in cX5_in 3 (some .boolean) :: ([])
def wsX5_isPlan : List Cond := .code yX5_isPlan cX5_isPlan 1 (some .boolean) :: ([.methodLink RX5 72 yX5_in, .static yX5_in, .initialized RX5, .code yX5_in cX5_in 3 (some .boolean)])
def wsX5_isRoute : List Cond := .code yX5_isRoute cX5_isRoute 1 (some .boolean) :: ([.methodLink RX5 72 yX5_in, .static yX5_in, .initialized RX5, .code yX5_in cX5_in 3 (some .boolean)])
def wsX5_isKey : List Cond := .code yX5_isKey cX5_isKey 2 (some .boolean) :: ([.fieldLink RX5 76 "TollGatewayModel" "keys" "I", .methodLink RX5 72 yX5_in, .static yX5_in, .initialized RX5, .code yX5_in cX5_in 3 (some .boolean)] ++ wsX50)
def wsX5_isCall : List Cond := .code yX5_isCall cX5_isCall 2 (some .boolean) :: ([.fieldLink RX5 79 "TollGatewayModel" "calls" "I", .methodLink RX5 72 yX5_in, .static yX5_in, .initialized RX5, .code yX5_in cX5_in 3 (some .boolean)] ++ wsX50)
def wsX5_setPlan : List Cond := .code yX5_setPlan cX5_setPlan 5 none :: ([.fieldLink RX5 7 "TollGatewayModel" "sizes" "[I", .fieldLink RX5 13 "TollGatewayModel" "refills" "[I", .fieldLink RX5 16 "TollGatewayModel" "slows" "[I", .methodLink RX5 82 yX5_isPlan, .static yX5_isPlan, .initialized RX5, .code yX5_isPlan cX5_isPlan 1 (some .boolean), .methodLink RX5 72 yX5_in, .static yX5_in, .code yX5_in cX5_in 3 (some .boolean), .methodLink RX5 86 yX5_goesWell, .instanceMethod yX5_goesWell, .selects RX5 yX5_goesWell yX5_goesWell, .code yX5_goesWell cX5_goesWell 2 (some .boolean), .fieldLink RX5 68 "TollGatewayModel" "thrown" "I"] ++ wsX50)
def wsX5_setRoute : List Cond := .code yX5_setRoute cX5_setRoute 4 none :: ([.fieldLink RX5 19 "TollGatewayModel" "prices" "[I", .fieldLink RX5 22 "TollGatewayModel" "weights" "[I", .methodLink RX5 89 yX5_isRoute, .static yX5_isRoute, .initialized RX5, .code yX5_isRoute cX5_isRoute 1 (some .boolean), .methodLink RX5 72 yX5_in, .static yX5_in, .code yX5_in cX5_in 3 (some .boolean), .methodLink RX5 86 yX5_goesWell, .instanceMethod yX5_goesWell, .selects RX5 yX5_goesWell yX5_goesWell, .code yX5_goesWell cX5_goesWell 2 (some .boolean), .fieldLink RX5 68 "TollGatewayModel" "thrown" "I"] ++ wsX50)
def wsX5_addKey : List Cond := .code yX5_addKey cX5_addKey 2 (some .int) :: ([.fieldLink RX5 76 "TollGatewayModel" "keys" "I", .fieldLink RX5 25 "TollGatewayModel" "plans" "[I", .fieldLink RX5 37 "TollGatewayModel" "tokens" "[I", .fieldLink RX5 7 "TollGatewayModel" "sizes" "[I", .methodLink RX5 82 yX5_isPlan, .static yX5_isPlan, .initialized RX5, .code yX5_isPlan cX5_isPlan 1 (some .boolean), .methodLink RX5 72 yX5_in, .static yX5_in, .code yX5_in cX5_in 3 (some .boolean), .methodLink RX5 86 yX5_goesWell, .instanceMethod yX5_goesWell, .selects RX5 yX5_goesWell yX5_goesWell, .code yX5_goesWell cX5_goesWell 2 (some .boolean), .fieldLink RX5 68 "TollGatewayModel" "thrown" "I"] ++ wsX50)
def wsX5_setKeyPlan : List Cond := .code yX5_setKeyPlan cX5_setKeyPlan 4 (some .int) :: ([.fieldLink RX5 25 "TollGatewayModel" "plans" "[I", .methodLink RX5 92 yX5_isKey, .instanceMethod yX5_isKey, .selects RX5 yX5_isKey yX5_isKey, .initialized RX5, .code yX5_isKey cX5_isKey 2 (some .boolean), .fieldLink RX5 76 "TollGatewayModel" "keys" "I", .methodLink RX5 72 yX5_in, .static yX5_in, .code yX5_in cX5_in 3 (some .boolean), .methodLink RX5 82 yX5_isPlan, .static yX5_isPlan, .code yX5_isPlan cX5_isPlan 1 (some .boolean), .methodLink RX5 86 yX5_goesWell, .instanceMethod yX5_goesWell, .selects RX5 yX5_goesWell yX5_goesWell, .code yX5_goesWell cX5_goesWell 2 (some .boolean), .fieldLink RX5 68 "TollGatewayModel" "thrown" "I"] ++ wsX50)
def wsX5_setTrust : List Cond := .code yX5_setTrust cX5_setTrust 4 (some .int) :: ([.fieldLink RX5 31 "TollGatewayModel" "lines" "[I", .methodLink RX5 92 yX5_isKey, .instanceMethod yX5_isKey, .selects RX5 yX5_isKey yX5_isKey, .initialized RX5, .code yX5_isKey cX5_isKey 2 (some .boolean), .fieldLink RX5 76 "TollGatewayModel" "keys" "I", .methodLink RX5 72 yX5_in, .static yX5_in, .code yX5_in cX5_in 3 (some .boolean), .methodLink RX5 86 yX5_goesWell, .instanceMethod yX5_goesWell, .selects RX5 yX5_goesWell yX5_goesWell, .code yX5_goesWell cX5_goesWell 2 (some .boolean), .fieldLink RX5 68 "TollGatewayModel" "thrown" "I"] ++ wsX50)
def wsX5_give : List Cond := .code yX5_give cX5_give 4 none :: ([.fieldLink RX5 34 "TollGatewayModel" "debts" "[I", .fieldLink RX5 28 "TollGatewayModel" "credits" "[I"] ++ wsX50)
def wsX5_pay : List Cond := .code yX5_pay cX5_pay 3 (some .int) :: ([.constant RX5 95 (100000), .fieldLink RX5 40 "TollGatewayModel" "paid" "[I", .fieldLink RX5 28 "TollGatewayModel" "credits" "[I", .methodLink RX5 92 yX5_isKey, .instanceMethod yX5_isKey, .selects RX5 yX5_isKey yX5_isKey, .initialized RX5, .code yX5_isKey cX5_isKey 2 (some .boolean), .fieldLink RX5 76 "TollGatewayModel" "keys" "I", .methodLink RX5 72 yX5_in, .static yX5_in, .code yX5_in cX5_in 3 (some .boolean), .methodLink RX5 86 yX5_goesWell, .instanceMethod yX5_goesWell, .selects RX5 yX5_goesWell yX5_goesWell, .code yX5_goesWell cX5_goesWell 2 (some .boolean), .fieldLink RX5 68 "TollGatewayModel" "thrown" "I", .methodLink RX5 96 yX5_give, .instanceMethod yX5_give, .selects RX5 yX5_give yX5_give, .code yX5_give cX5_give 4 none, .fieldLink RX5 34 "TollGatewayModel" "debts" "[I"] ++ wsX50)
def wsX5_leftOf : List Cond := .code yX5_leftOf cX5_leftOf 2 (some .int) :: ([.fieldLink RX5 31 "TollGatewayModel" "lines" "[I", .fieldLink RX5 34 "TollGatewayModel" "debts" "[I"] ++ wsX50)
def wsX5_call_r1 : List Cond := [Cond.fieldLink RX5 79 "TollGatewayModel" "calls" "I", Cond.fieldLink RX5 19 "TollGatewayModel" "prices" "[I", Cond.fieldLink RX5 37 "TollGatewayModel" "tokens" "[I", Cond.fieldLink RX5 22 "TollGatewayModel" "weights" "[I", Cond.fieldLink RX5 28 "TollGatewayModel" "credits" "[I", Cond.fieldLink RX5 34 "TollGatewayModel" "debts" "[I", Cond.fieldLink RX5 43 "TollGatewayModel" "callers" "[I", Cond.fieldLink RX5 46 "TollGatewayModel" "worths" "[I", Cond.fieldLink RX5 49 "TollGatewayModel" "took" "[I", Cond.fieldLink RX5 52 "TollGatewayModel" "begun" "[I", Cond.fieldLink RX5 104 "TollGatewayModel" "tick" "I", Cond.methodLink RX5 89 yX5_isRoute, Cond.static yX5_isRoute, Cond.initialized RX5, Cond.code yX5_isRoute cX5_isRoute 1 (some .boolean), Cond.methodLink RX5 72 yX5_in, Cond.static yX5_in, Cond.code yX5_in cX5_in 3 (some .boolean), Cond.methodLink RX5 92 yX5_isKey, Cond.instanceMethod yX5_isKey, Cond.selects RX5 yX5_isKey yX5_isKey, Cond.code yX5_isKey cX5_isKey 2 (some .boolean), Cond.fieldLink RX5 76 "TollGatewayModel" "keys" "I", Cond.methodLink RX5 86 yX5_goesWell]
def wsX5_call_r2 : List Cond := [Cond.instanceMethod yX5_goesWell, Cond.selects RX5 yX5_goesWell yX5_goesWell, Cond.code yX5_goesWell cX5_goesWell 2 (some .boolean), Cond.fieldLink RX5 68 "TollGatewayModel" "thrown" "I", Cond.methodLink RX5 100 yX5_leftOf, Cond.instanceMethod yX5_leftOf, Cond.selects RX5 yX5_leftOf yX5_leftOf, Cond.code yX5_leftOf cX5_leftOf 2 (some .int), Cond.fieldLink RX5 31 "TollGatewayModel" "lines" "[I"]
def wsX5_call : List Cond := .code yX5_call cX5_call 7 (some .int) :: ((wsX5_call_r1 ++ wsX5_call_r2) ++ wsX50)
def wsX5_settle : List Cond := .code yX5_settle cX5_settle 3 none :: ([.fieldLink RX5 61 "TollGatewayModel" "hasEnded" "[Z", .fieldLink RX5 55 "TollGatewayModel" "costs" "[I", .fieldLink RX5 58 "TollGatewayModel" "endedAt" "[I", .fieldLink RX5 104 "TollGatewayModel" "tick" "I", .fieldLink RX5 43 "TollGatewayModel" "callers" "[I", .fieldLink RX5 46 "TollGatewayModel" "worths" "[I", .methodLink RX5 96 yX5_give, .instanceMethod yX5_give, .selects RX5 yX5_give yX5_give, .initialized RX5, .code yX5_give cX5_give 4 none, .fieldLink RX5 34 "TollGatewayModel" "debts" "[I", .fieldLink RX5 28 "TollGatewayModel" "credits" "[I"] ++ wsX50)
def wsX5_end_r1 : List Cond := [Cond.fieldLink RX5 61 "TollGatewayModel" "hasEnded" "[Z", Cond.fieldLink RX5 46 "TollGatewayModel" "worths" "[I", Cond.fieldLink RX5 55 "TollGatewayModel" "costs" "[I", Cond.methodLink RX5 107 yX5_isCall, Cond.instanceMethod yX5_isCall, Cond.selects RX5 yX5_isCall yX5_isCall, Cond.initialized RX5, Cond.code yX5_isCall cX5_isCall 2 (some .boolean), Cond.fieldLink RX5 79 "TollGatewayModel" "calls" "I", Cond.methodLink RX5 72 yX5_in, Cond.static yX5_in, Cond.code yX5_in cX5_in 3 (some .boolean), Cond.methodLink RX5 86 yX5_goesWell, Cond.instanceMethod yX5_goesWell, Cond.selects RX5 yX5_goesWell yX5_goesWell, Cond.code yX5_goesWell cX5_goesWell 2 (some .boolean), Cond.fieldLink RX5 68 "TollGatewayModel" "thrown" "I", Cond.methodLink RX5 110 yX5_settle, Cond.instanceMethod yX5_settle, Cond.selects RX5 yX5_settle yX5_settle, Cond.code yX5_settle cX5_settle 3 none, Cond.fieldLink RX5 58 "TollGatewayModel" "endedAt" "[I", Cond.fieldLink RX5 104 "TollGatewayModel" "tick" "I", Cond.fieldLink RX5 43 "TollGatewayModel" "callers" "[I"]
def wsX5_end_r2 : List Cond := [Cond.methodLink RX5 96 yX5_give, Cond.instanceMethod yX5_give, Cond.selects RX5 yX5_give yX5_give, Cond.code yX5_give cX5_give 4 none, Cond.fieldLink RX5 34 "TollGatewayModel" "debts" "[I", Cond.fieldLink RX5 28 "TollGatewayModel" "credits" "[I"]
def wsX5_end : List Cond := .code yX5_end cX5_end 5 (some .int) :: ((wsX5_end_r1 ++ wsX5_end_r2) ++ wsX50)
def wsX5_dispute_r1 : List Cond := [Cond.fieldLink RX5 61 "TollGatewayModel" "hasEnded" "[Z", Cond.fieldLink RX5 65 "TollGatewayModel" "isDisputed" "[Z", Cond.fieldLink RX5 104 "TollGatewayModel" "tick" "I", Cond.fieldLink RX5 58 "TollGatewayModel" "endedAt" "[I", Cond.fieldLink RX5 55 "TollGatewayModel" "costs" "[I", Cond.fieldLink RX5 43 "TollGatewayModel" "callers" "[I", Cond.fieldLink RX5 37 "TollGatewayModel" "tokens" "[I", Cond.fieldLink RX5 49 "TollGatewayModel" "took" "[I", Cond.methodLink RX5 107 yX5_isCall, Cond.instanceMethod yX5_isCall, Cond.selects RX5 yX5_isCall yX5_isCall, Cond.initialized RX5, Cond.code yX5_isCall cX5_isCall 2 (some .boolean), Cond.fieldLink RX5 79 "TollGatewayModel" "calls" "I", Cond.methodLink RX5 72 yX5_in, Cond.static yX5_in, Cond.code yX5_in cX5_in 3 (some .boolean), Cond.methodLink RX5 86 yX5_goesWell, Cond.instanceMethod yX5_goesWell, Cond.selects RX5 yX5_goesWell yX5_goesWell, Cond.code yX5_goesWell cX5_goesWell 2 (some .boolean), Cond.fieldLink RX5 68 "TollGatewayModel" "thrown" "I", Cond.methodLink RX5 96 yX5_give, Cond.instanceMethod yX5_give]
def wsX5_dispute_r2 : List Cond := [Cond.selects RX5 yX5_give yX5_give, Cond.code yX5_give cX5_give 4 none, Cond.fieldLink RX5 34 "TollGatewayModel" "debts" "[I", Cond.fieldLink RX5 28 "TollGatewayModel" "credits" "[I"]
def wsX5_dispute : List Cond := .code yX5_dispute cX5_dispute 5 (some .int) :: ((wsX5_dispute_r1 ++ wsX5_dispute_r2) ++ wsX50)
def wsX5_isSlow : List Cond := .code yX5_isSlow cX5_isSlow 4 (some .boolean) :: ([.fieldLink RX5 28 "TollGatewayModel" "credits" "[I", .fieldLink RX5 79 "TollGatewayModel" "calls" "I", .fieldLink RX5 43 "TollGatewayModel" "callers" "[I", .fieldLink RX5 61 "TollGatewayModel" "hasEnded" "[Z"] ++ wsX50)
def wsX5_passOne_r1 : List Cond := [Cond.fieldLink RX5 104 "TollGatewayModel" "tick" "I", Cond.fieldLink RX5 79 "TollGatewayModel" "calls" "I", Cond.fieldLink RX5 61 "TollGatewayModel" "hasEnded" "[Z", Cond.fieldLink RX5 52 "TollGatewayModel" "begun" "[I", Cond.fieldLink RX5 46 "TollGatewayModel" "worths" "[I", Cond.fieldLink RX5 76 "TollGatewayModel" "keys" "I", Cond.fieldLink RX5 25 "TollGatewayModel" "plans" "[I", Cond.fieldLink RX5 37 "TollGatewayModel" "tokens" "[I", Cond.fieldLink RX5 16 "TollGatewayModel" "slows" "[I", Cond.fieldLink RX5 13 "TollGatewayModel" "refills" "[I", Cond.fieldLink RX5 7 "TollGatewayModel" "sizes" "[I", Cond.methodLink RX5 110 yX5_settle, Cond.instanceMethod yX5_settle, Cond.selects RX5 yX5_settle yX5_settle, Cond.initialized RX5, Cond.code yX5_settle cX5_settle 3 none, Cond.fieldLink RX5 55 "TollGatewayModel" "costs" "[I", Cond.fieldLink RX5 58 "TollGatewayModel" "endedAt" "[I", Cond.fieldLink RX5 43 "TollGatewayModel" "callers" "[I", Cond.methodLink RX5 96 yX5_give, Cond.instanceMethod yX5_give, Cond.selects RX5 yX5_give yX5_give, Cond.code yX5_give cX5_give 4 none, Cond.fieldLink RX5 34 "TollGatewayModel" "debts" "[I"]
def wsX5_passOne_r2 : List Cond := [Cond.fieldLink RX5 28 "TollGatewayModel" "credits" "[I", Cond.methodLink RX5 113 yX5_isSlow, Cond.instanceMethod yX5_isSlow, Cond.selects RX5 yX5_isSlow yX5_isSlow, Cond.code yX5_isSlow cX5_isSlow 4 (some .boolean)]
def wsX5_passOne : List Cond := .code yX5_passOne cX5_passOne 6 (some .int) :: ((wsX5_passOne_r1 ++ wsX5_passOne_r2) ++ wsX50)
def wsX5_pass_r1 : List Cond := [Cond.methodLink RX5 72 yX5_in, Cond.static yX5_in, Cond.initialized RX5, Cond.code yX5_in cX5_in 3 (some .boolean), Cond.methodLink RX5 86 yX5_goesWell, Cond.instanceMethod yX5_goesWell, Cond.selects RX5 yX5_goesWell yX5_goesWell, Cond.code yX5_goesWell cX5_goesWell 2 (some .boolean), Cond.fieldLink RX5 68 "TollGatewayModel" "thrown" "I", Cond.methodLink RX5 116 yX5_passOne, Cond.instanceMethod yX5_passOne, Cond.selects RX5 yX5_passOne yX5_passOne, Cond.code yX5_passOne cX5_passOne 6 (some .int), Cond.fieldLink RX5 104 "TollGatewayModel" "tick" "I", Cond.fieldLink RX5 79 "TollGatewayModel" "calls" "I", Cond.fieldLink RX5 61 "TollGatewayModel" "hasEnded" "[Z", Cond.fieldLink RX5 52 "TollGatewayModel" "begun" "[I", Cond.fieldLink RX5 46 "TollGatewayModel" "worths" "[I", Cond.fieldLink RX5 76 "TollGatewayModel" "keys" "I", Cond.fieldLink RX5 25 "TollGatewayModel" "plans" "[I", Cond.fieldLink RX5 37 "TollGatewayModel" "tokens" "[I", Cond.fieldLink RX5 16 "TollGatewayModel" "slows" "[I", Cond.fieldLink RX5 13 "TollGatewayModel" "refills" "[I", Cond.fieldLink RX5 7 "TollGatewayModel" "sizes" "[I"]
def wsX5_pass_r2 : List Cond := [Cond.methodLink RX5 110 yX5_settle, Cond.instanceMethod yX5_settle, Cond.selects RX5 yX5_settle yX5_settle, Cond.code yX5_settle cX5_settle 3 none, Cond.fieldLink RX5 55 "TollGatewayModel" "costs" "[I", Cond.fieldLink RX5 58 "TollGatewayModel" "endedAt" "[I", Cond.fieldLink RX5 43 "TollGatewayModel" "callers" "[I", Cond.methodLink RX5 96 yX5_give, Cond.instanceMethod yX5_give, Cond.selects RX5 yX5_give yX5_give, Cond.code yX5_give cX5_give 4 none, Cond.fieldLink RX5 34 "TollGatewayModel" "debts" "[I", Cond.fieldLink RX5 28 "TollGatewayModel" "credits" "[I", Cond.methodLink RX5 113 yX5_isSlow, Cond.instanceMethod yX5_isSlow, Cond.selects RX5 yX5_isSlow yX5_isSlow, Cond.code yX5_isSlow cX5_isSlow 4 (some .boolean)]
def wsX5_pass : List Cond := .code yX5_pass cX5_pass 4 (some .int) :: ((wsX5_pass_r1 ++ wsX5_pass_r2) ++ wsX50)
def wsX5_now : List Cond := .code yX5_now cX5_now 1 (some .int) :: ([.fieldLink RX5 68 "TollGatewayModel" "thrown" "I", .fieldLink RX5 104 "TollGatewayModel" "tick" "I"] ++ wsX50)
def wsX5_calls : List Cond := .code yX5_calls cX5_calls 1 (some .int) :: ([.fieldLink RX5 68 "TollGatewayModel" "thrown" "I", .fieldLink RX5 79 "TollGatewayModel" "calls" "I"] ++ wsX50)
def wsX5_credit : List Cond := .code yX5_credit cX5_credit 2 (some .int) :: ([.fieldLink RX5 28 "TollGatewayModel" "credits" "[I", .methodLink RX5 92 yX5_isKey, .instanceMethod yX5_isKey, .selects RX5 yX5_isKey yX5_isKey, .initialized RX5, .code yX5_isKey cX5_isKey 2 (some .boolean), .fieldLink RX5 76 "TollGatewayModel" "keys" "I", .methodLink RX5 72 yX5_in, .static yX5_in, .code yX5_in cX5_in 3 (some .boolean), .methodLink RX5 86 yX5_goesWell, .instanceMethod yX5_goesWell, .selects RX5 yX5_goesWell yX5_goesWell, .code yX5_goesWell cX5_goesWell 2 (some .boolean), .fieldLink RX5 68 "TollGatewayModel" "thrown" "I"] ++ wsX50)
def wsX5_debt : List Cond := .code yX5_debt cX5_debt 2 (some .int) :: ([.fieldLink RX5 34 "TollGatewayModel" "debts" "[I", .methodLink RX5 92 yX5_isKey, .instanceMethod yX5_isKey, .selects RX5 yX5_isKey yX5_isKey, .initialized RX5, .code yX5_isKey cX5_isKey 2 (some .boolean), .fieldLink RX5 76 "TollGatewayModel" "keys" "I", .methodLink RX5 72 yX5_in, .static yX5_in, .code yX5_in cX5_in 3 (some .boolean), .methodLink RX5 86 yX5_goesWell, .instanceMethod yX5_goesWell, .selects RX5 yX5_goesWell yX5_goesWell, .code yX5_goesWell cX5_goesWell 2 (some .boolean), .fieldLink RX5 68 "TollGatewayModel" "thrown" "I"] ++ wsX50)
def wsX5_held : List Cond := .code yX5_held cX5_held 4 (some .int) :: ([.fieldLink RX5 79 "TollGatewayModel" "calls" "I", .fieldLink RX5 43 "TollGatewayModel" "callers" "[I", .fieldLink RX5 61 "TollGatewayModel" "hasEnded" "[Z", .fieldLink RX5 46 "TollGatewayModel" "worths" "[I", .methodLink RX5 92 yX5_isKey, .instanceMethod yX5_isKey, .selects RX5 yX5_isKey yX5_isKey, .initialized RX5, .code yX5_isKey cX5_isKey 2 (some .boolean), .fieldLink RX5 76 "TollGatewayModel" "keys" "I", .methodLink RX5 72 yX5_in, .static yX5_in, .code yX5_in cX5_in 3 (some .boolean), .methodLink RX5 86 yX5_goesWell, .instanceMethod yX5_goesWell, .selects RX5 yX5_goesWell yX5_goesWell, .code yX5_goesWell cX5_goesWell 2 (some .boolean), .fieldLink RX5 68 "TollGatewayModel" "thrown" "I"] ++ wsX50)
def wsX5_tokens : List Cond := .code yX5_tokens cX5_tokens 2 (some .int) :: ([.fieldLink RX5 37 "TollGatewayModel" "tokens" "[I", .methodLink RX5 92 yX5_isKey, .instanceMethod yX5_isKey, .selects RX5 yX5_isKey yX5_isKey, .initialized RX5, .code yX5_isKey cX5_isKey 2 (some .boolean), .fieldLink RX5 76 "TollGatewayModel" "keys" "I", .methodLink RX5 72 yX5_in, .static yX5_in, .code yX5_in cX5_in 3 (some .boolean), .methodLink RX5 86 yX5_goesWell, .instanceMethod yX5_goesWell, .selects RX5 yX5_goesWell yX5_goesWell, .code yX5_goesWell cX5_goesWell 2 (some .boolean), .fieldLink RX5 68 "TollGatewayModel" "thrown" "I"] ++ wsX50)
def wsX5_isSlowed : List Cond := .code yX5_isSlowed cX5_isSlowed 2 (some .boolean) :: ([.methodLink RX5 92 yX5_isKey, .instanceMethod yX5_isKey, .selects RX5 yX5_isKey yX5_isKey, .initialized RX5, .code yX5_isKey cX5_isKey 2 (some .boolean), .fieldLink RX5 76 "TollGatewayModel" "keys" "I", .methodLink RX5 72 yX5_in, .static yX5_in, .code yX5_in cX5_in 3 (some .boolean), .methodLink RX5 86 yX5_goesWell, .instanceMethod yX5_goesWell, .selects RX5 yX5_goesWell yX5_goesWell, .code yX5_goesWell cX5_goesWell 2 (some .boolean), .fieldLink RX5 68 "TollGatewayModel" "thrown" "I", .methodLink RX5 113 yX5_isSlow, .instanceMethod yX5_isSlow, .selects RX5 yX5_isSlow yX5_isSlow, .code yX5_isSlow cX5_isSlow 4 (some .boolean), .fieldLink RX5 28 "TollGatewayModel" "credits" "[I", .fieldLink RX5 79 "TollGatewayModel" "calls" "I", .fieldLink RX5 43 "TollGatewayModel" "callers" "[I", .fieldLink RX5 61 "TollGatewayModel" "hasEnded" "[Z"] ++ wsX50)
def wsX5_cost : List Cond := .code yX5_cost cX5_cost 2 (some .int) :: ([.fieldLink RX5 61 "TollGatewayModel" "hasEnded" "[Z", .fieldLink RX5 55 "TollGatewayModel" "costs" "[I", .methodLink RX5 107 yX5_isCall, .instanceMethod yX5_isCall, .selects RX5 yX5_isCall yX5_isCall, .initialized RX5, .code yX5_isCall cX5_isCall 2 (some .boolean), .fieldLink RX5 79 "TollGatewayModel" "calls" "I", .methodLink RX5 72 yX5_in, .static yX5_in, .code yX5_in cX5_in 3 (some .boolean), .methodLink RX5 86 yX5_goesWell, .instanceMethod yX5_goesWell, .selects RX5 yX5_goesWell yX5_goesWell, .code yX5_goesWell cX5_goesWell 2 (some .boolean), .fieldLink RX5 68 "TollGatewayModel" "thrown" "I"] ++ wsX50)
def wsX5_spent : List Cond := .code yX5_spent cX5_spent 4 (some .int) :: ([.fieldLink RX5 79 "TollGatewayModel" "calls" "I", .fieldLink RX5 43 "TollGatewayModel" "callers" "[I", .fieldLink RX5 55 "TollGatewayModel" "costs" "[I", .methodLink RX5 92 yX5_isKey, .instanceMethod yX5_isKey, .selects RX5 yX5_isKey yX5_isKey, .initialized RX5, .code yX5_isKey cX5_isKey 2 (some .boolean), .fieldLink RX5 76 "TollGatewayModel" "keys" "I", .methodLink RX5 72 yX5_in, .static yX5_in, .code yX5_in cX5_in 3 (some .boolean), .methodLink RX5 86 yX5_goesWell, .instanceMethod yX5_goesWell, .selects RX5 yX5_goesWell yX5_goesWell, .code yX5_goesWell cX5_goesWell 2 (some .boolean), .fieldLink RX5 68 "TollGatewayModel" "thrown" "I"] ++ wsX50)
def wsX5_paid : List Cond := .code yX5_paid cX5_paid 2 (some .int) :: ([.fieldLink RX5 40 "TollGatewayModel" "paid" "[I", .methodLink RX5 92 yX5_isKey, .instanceMethod yX5_isKey, .selects RX5 yX5_isKey yX5_isKey, .initialized RX5, .code yX5_isKey cX5_isKey 2 (some .boolean), .fieldLink RX5 76 "TollGatewayModel" "keys" "I", .methodLink RX5 72 yX5_in, .static yX5_in, .code yX5_in cX5_in 3 (some .boolean), .methodLink RX5 86 yX5_goesWell, .instanceMethod yX5_goesWell, .selects RX5 yX5_goesWell yX5_goesWell, .code yX5_goesWell cX5_goesWell 2 (some .boolean), .fieldLink RX5 68 "TollGatewayModel" "thrown" "I"] ++ wsX50)
def wsJ9_max_7cf53 : List Cond := .code yJ9_max_7cf53 cJ9_max_7cf53 2 (some .int) :: ([])
def wsJ9_min_7cf53 : List Cond := .code yJ9_min_7cf53 cJ9_min_7cf53 2 (some .int) :: ([])
def wsL_setPlan : List Cond := .codeWith yL_setPlan cL_setPlan 6 (some .int) [(0, 9, 12, 13)] :: ([.classLink RL 13 "java/lang/IllegalArgumentException", .methodLink RL 7 yX4_setPlan, .instanceMethod yX4_setPlan, .selects RX4 yX4_setPlan yX4_setPlan, .initialized RX4, .code yX4_setPlan cX4_setPlan 6 none, .methodLink RX4 35 yX4_planAt, .instanceMethod yX4_planAt, .selects RX4 yX4_planAt yX4_planAt, .code yX4_planAt cX4_planAt 2 (some (.object "TollGateway$Plan")), .classLink RX4 177 "java/lang/IllegalArgumentException", .initialized "java/lang/IllegalArgumentException", .fieldLink RX4 11 "TollGateway" "plans" "[LTollGateway$Plan;", .methodLink RX4 39 yX4_refuseOutside, .static yX4_refuseOutside, .code yX4_refuseOutside cX4_refuseOutside 3 none] ++ wsX20 ++ wsX40 ++ (vx_atS RX4 181 "java/lang/IllegalArgumentException" ["java/lang/RuntimeException", "java/lang/Exception"]).filter goodWord)
def wsL_setRoute : List Cond := .codeWith yL_setRoute cL_setRoute 5 (some .int) [(0, 7, 10, 13)] :: ([.classLink RL 13 "java/lang/IllegalArgumentException", .methodLink RL 15 yX4_setRoute, .instanceMethod yX4_setRoute, .selects RX4 yX4_setRoute yX4_setRoute, .initialized RX4, .code yX4_setRoute cX4_setRoute 5 none, .methodLink RX4 53 yX4_routeAt, .instanceMethod yX4_routeAt, .selects RX4 yX4_routeAt yX4_routeAt, .code yX4_routeAt cX4_routeAt 2 (some (.object "TollGateway$Route")), .classLink RX4 177 "java/lang/IllegalArgumentException", .initialized "java/lang/IllegalArgumentException", .fieldLink RX4 17 "TollGateway" "routes" "[LTollGateway$Route;", .methodLink RX4 39 yX4_refuseOutside, .static yX4_refuseOutside, .code yX4_refuseOutside cX4_refuseOutside 3 none] ++ wsX30 ++ wsX40 ++ (vx_atS RX4 181 "java/lang/IllegalArgumentException" ["java/lang/RuntimeException", "java/lang/Exception"]).filter goodWord)
def wsL_addKey_r1 : List Cond := [Cond.classLink RL 13 "java/lang/IllegalArgumentException", Cond.classLink RL 23 "java/lang/IllegalStateException", Cond.methodLink RL 19 yX4_addKey, Cond.instanceMethod yX4_addKey, Cond.selects RX4 yX4_addKey yX4_addKey, Cond.initialized RX4, Cond.code yX4_addKey cX4_addKey 3 (some .int), Cond.classLink RX4 66 "java/lang/IllegalStateException", Cond.initialized "java/lang/IllegalStateException", Cond.fieldLink RX4 24 "TollGateway" "keys" "Ljava/util/ArrayList;", Cond.classLink RX4 73 RX1, Cond.instantiable RX1 9, Cond.initialized RX1, Cond.methodLink RX4 35 yX4_planAt, Cond.instanceMethod yX4_planAt, Cond.selects RX4 yX4_planAt yX4_planAt, Cond.code yX4_planAt cX4_planAt 2 (some (.object "TollGateway$Plan")), Cond.classLink RX4 177 "java/lang/IllegalArgumentException", Cond.initialized "java/lang/IllegalArgumentException", Cond.fieldLink RX4 11 "TollGateway" "plans" "[LTollGateway$Plan;", Cond.methodLink RX4 63 yJx4a65c_size_8abf5, Cond.instanceMethod yJx4a65c_size_8abf5, Cond.selects RJx4a65c yJx4a65c_size_8abf5 yJx4a65c_size_8abf5, Cond.initialized RJx4a65c]
def wsL_addKey_r2 : List Cond := [Cond.code yJx4a65c_size_8abf5 cJx4a65c_size_8abf5 1 (some .int), Cond.fieldLink RJx4a65c 48 "java/util/ArrayList" "size" "I", Cond.instanceMethod yX1_init, Cond.code yX1_init cX1_init 2 none, Cond.methodLink RX1 1 objectInit, Cond.instanceMethod objectInit, Cond.code objectInit ⟨#[0xb1]⟩ 1 none, Cond.fieldLink RX1 7 "TollGateway$Key" "plan" "LTollGateway$Plan;", Cond.fieldLink RX1 19 "TollGateway$Key" "tokens" "I", Cond.methodLink RX4 78 yJx4a65c_add_9ea2d, Cond.instanceMethod yJx4a65c_add_9ea2d, Cond.selects RJx4a65c yJx4a65c_add_9ea2d yJx4a65c_add_9ea2d, Cond.code yJx4a65c_add_9ea2d cJx4a65c_add_9ea2d 2 (some .boolean), Cond.fieldLink RJx4a65c 63 "java/util/ArrayList" "modCount" "I", Cond.sameField "java/util/ArrayList" "java/util/AbstractList" "modCount" "I", Cond.fieldLink RJx4a65c 9 "java/util/ArrayList" "elementData" "[Ljava/lang/Object;", Cond.methodLink RJx4a65c 131 yJx4a65c_add_72be8, Cond.instanceMethod yJx4a65c_add_72be8, Cond.selects RJx4a65c yJx4a65c_add_72be8 yJx4a65c_add_72be8, Cond.code yJx4a65c_add_72be8 cJx4a65c_add_72be8 4 none, Cond.methodLink RJx4a65c 129 yJx4a65c_grow_d5877, Cond.instanceMethod yJx4a65c_grow_d5877, Cond.selects RJx4a65c yJx4a65c_grow_d5877 yJx4a65c_grow_d5877, Cond.code yJx4a65c_grow_d5877 cJx4a65c_grow_d5877 1 (some (.array (.object "java/lang/Object")))]
def wsL_addKey_r3 : List Cond := [Cond.methodLink RJx4a65c 69 yJx4a65c_grow_92f84, Cond.instanceMethod yJx4a65c_grow_92f84, Cond.selects RJx4a65c yJx4a65c_grow_92f84 yJx4a65c_grow_92f84, Cond.code yJx4a65c_grow_92f84 cJx4a65c_grow_92f84 4 (some (.array (.object "java/lang/Object"))), Cond.fieldLink RJx4a65c 39 "java/util/ArrayList" "DEFAULTCAPACITY_EMPTY_ELEMENTDATA" "[Ljava/lang/Object;", Cond.methodLink RJx4a65c 79 Lib.Math.max.name, Cond.static Lib.Math.max.name, Cond.initialized "java/lang/Math", Cond.code Lib.Math.max.name Lib.Math.max.code 2 (some .int), Cond.classLink RJx4a65c 7 "java/lang/Object", Cond.methodLink RJx4a65c 73 yJ8_newLength_cabcc, Cond.static yJ8_newLength_cabcc, Cond.initialized RJ8, Cond.code yJ8_newLength_cabcc cJ8_newLength_cabcc 4 (some .int), Cond.methodLink RJ8 194 Lib.Math.max.name, Cond.constant RJ8 200 (2147483639), Cond.methodLink RJ8 201 yJ8_hugeLength_7cf53, Cond.static yJ8_hugeLength_7cf53, Cond.code yJ8_hugeLength_7cf53 cJ8_hugeLength_7cf53 3 (some .int), Cond.methodLink RJx4a65c 66 yJ7_copyOf_1904c, Cond.static yJ7_copyOf_1904c, Cond.initialized RJ7, Cond.code yJ7_copyOf_1904c cJ7_copyOf_1904c 2 (some (.array (.object "java/lang/Object"))), Cond.methodLink RJ7 86 ⟨"java/lang/Object", "getClass", "()Ljava/lang/Class;"⟩]
def wsL_addKey_r4 : List Cond := [Cond.selects "[Ljava/lang/Object;" ⟨"java/lang/Object", "getClass", "()Ljava/lang/Class;"⟩ ⟨"java/lang/Object", "getClass", "()Ljava/lang/Class;"⟩, Cond.instanceMethod ⟨"java/lang/Object", "getClass", "()Ljava/lang/Class;"⟩, Cond.native ⟨"java/lang/Object", "getClass", "()Ljava/lang/Class;"⟩, Cond.methodLink RJ7 300 yJ7_copyOf_6403c, Cond.static yJ7_copyOf_6403c, Cond.code yJ7_copyOf_6403c cJ7_copyOf_6403c 4 (some (.array (.object "java/lang/Object"))), Cond.classLink RJ7 110 "[Ljava/lang/Object;", Cond.classLink RJ7 2 "java/lang/Object", Cond.methodLink RJ7 304 Lib.Math.min.name, Cond.static Lib.Math.min.name, Cond.code Lib.Math.min.name Lib.Math.min.code 2 (some .int), Cond.methodLink RJ7 150 arraycopyName, Cond.native arraycopyName, Cond.static arraycopyName, Cond.initialized "java/lang/System"]
def wsL_addKey : List Cond := .codeWith yL_addKey cL_addKey 4 (some .int) [(0, 9, 12, 13), (0, 9, 15, 23)] :: ((wsL_addKey_r1 ++ (wsL_addKey_r2 ++ (wsL_addKey_r3 ++ wsL_addKey_r4))) ++ wsX40 ++ wsX10 ++ wsJx4a65c0 ++ wsX20 ++ (vx_atS RX4 70 "java/lang/IllegalStateException" ["java/lang/RuntimeException", "java/lang/Exception"]).filter goodWord ++ (vx_atS RX4 181 "java/lang/IllegalArgumentException" ["java/lang/RuntimeException", "java/lang/Exception"]).filter goodWord)
def wsL_setKeyPlan_r1 : List Cond := [Cond.classLink RL 29 "java/lang/IndexOutOfBoundsException", Cond.classLink RL 13 "java/lang/IllegalArgumentException", Cond.methodLink RL 25 yX4_setKeyPlan, Cond.instanceMethod yX4_setKeyPlan, Cond.selects RX4 yX4_setKeyPlan yX4_setKeyPlan, Cond.initialized RX4, Cond.code yX4_setKeyPlan cX4_setKeyPlan 6 (some .int), Cond.methodLink RX4 82 yX4_keyAt, Cond.instanceMethod yX4_keyAt, Cond.selects RX4 yX4_keyAt yX4_keyAt, Cond.code yX4_keyAt cX4_keyAt 2 (some (.object "TollGateway$Key")), Cond.classLink RX4 184 "java/lang/IndexOutOfBoundsException", Cond.initialized "java/lang/IndexOutOfBoundsException", Cond.fieldLink RX4 24 "TollGateway" "keys" "Ljava/util/ArrayList;", Cond.classLink RX4 73 "TollGateway$Key", Cond.methodLink RX4 63 yJx4a65c_size_8abf5, Cond.instanceMethod yJx4a65c_size_8abf5, Cond.selects RJx4a65c yJx4a65c_size_8abf5 yJx4a65c_size_8abf5, Cond.initialized RJx4a65c, Cond.code yJx4a65c_size_8abf5 cJx4a65c_size_8abf5 1 (some .int), Cond.fieldLink RJx4a65c 48 "java/util/ArrayList" "size" "I", Cond.methodLink RX4 189 yJx4a65c_get_915e3, Cond.instanceMethod yJx4a65c_get_915e3, Cond.selects RJx4a65c yJx4a65c_get_915e3 yJx4a65c_get_915e3]
def wsL_setKeyPlan_r2 : List Cond := [Cond.code yJx4a65c_get_915e3 cJx4a65c_get_915e3 2 (some (.object "java/lang/Object")), Cond.methodLink RJx4a65c 118 yJ15_checkIndex_7cf53, Cond.static yJ15_checkIndex_7cf53, Cond.initialized RJ15, Cond.code yJ15_checkIndex_7cf53 cJ15_checkIndex_7cf53 2 (some .int), Cond.methodLink RJ15 105 yJ3_checkIndex_8e157, Cond.static yJ3_checkIndex_8e157, Cond.initialized RJ3, Cond.code yJ3_checkIndex_8e157 cJ3_checkIndex_8e157 3 (some .int), Cond.methodLink RJx4a65c 123 yJx4a65c_elementData_915e3, Cond.instanceMethod yJx4a65c_elementData_915e3, Cond.selects RJx4a65c yJx4a65c_elementData_915e3 yJx4a65c_elementData_915e3, Cond.code yJx4a65c_elementData_915e3 cJx4a65c_elementData_915e3 2 (some (.object "java/lang/Object")), Cond.fieldLink RJx4a65c 9 "java/util/ArrayList" "elementData" "[Ljava/lang/Object;", Cond.methodLink RX4 35 yX4_planAt, Cond.instanceMethod yX4_planAt, Cond.selects RX4 yX4_planAt yX4_planAt, Cond.code yX4_planAt cX4_planAt 2 (some (.object "TollGateway$Plan")), Cond.classLink RX4 177 "java/lang/IllegalArgumentException", Cond.initialized "java/lang/IllegalArgumentException", Cond.fieldLink RX4 11 "TollGateway" "plans" "[LTollGateway$Plan;"]
def wsL_setKeyPlan : List Cond := .codeWith yL_setKeyPlan cL_setKeyPlan 5 (some .int) [(0, 10, 13, 29), (0, 10, 17, 13)] :: ((wsL_setKeyPlan_r1 ++ wsL_setKeyPlan_r2) ++ wsX10 ++ wsX20 ++ wsX40 ++ wsJx4a65c0 ++ (vx_atS RX4 188 "java/lang/IndexOutOfBoundsException" ["java/lang/RuntimeException", "java/lang/Exception"]).filter goodWord ++ (vx_atS RX4 181 "java/lang/IllegalArgumentException" ["java/lang/RuntimeException", "java/lang/Exception"]).filter goodWord)
def wsL_setTrust_r1 : List Cond := [Cond.classLink RL 29 "java/lang/IndexOutOfBoundsException", Cond.classLink RL 13 "java/lang/IllegalArgumentException", Cond.methodLink RL 31 yX4_setTrust, Cond.instanceMethod yX4_setTrust, Cond.selects RX4 yX4_setTrust yX4_setTrust, Cond.initialized RX4, Cond.code yX4_setTrust cX4_setTrust 5 (some .int), Cond.methodLink RX4 82 yX4_keyAt, Cond.instanceMethod yX4_keyAt, Cond.selects RX4 yX4_keyAt yX4_keyAt, Cond.code yX4_keyAt cX4_keyAt 2 (some (.object "TollGateway$Key")), Cond.classLink RX4 184 "java/lang/IndexOutOfBoundsException", Cond.initialized "java/lang/IndexOutOfBoundsException", Cond.fieldLink RX4 24 "TollGateway" "keys" "Ljava/util/ArrayList;", Cond.classLink RX4 73 "TollGateway$Key", Cond.methodLink RX4 63 yJx4a65c_size_8abf5, Cond.instanceMethod yJx4a65c_size_8abf5, Cond.selects RJx4a65c yJx4a65c_size_8abf5 yJx4a65c_size_8abf5, Cond.initialized RJx4a65c, Cond.code yJx4a65c_size_8abf5 cJx4a65c_size_8abf5 1 (some .int), Cond.fieldLink RJx4a65c 48 "java/util/ArrayList" "size" "I", Cond.methodLink RX4 189 yJx4a65c_get_915e3, Cond.instanceMethod yJx4a65c_get_915e3, Cond.selects RJx4a65c yJx4a65c_get_915e3 yJx4a65c_get_915e3]
def wsL_setTrust_r2 : List Cond := [Cond.code yJx4a65c_get_915e3 cJx4a65c_get_915e3 2 (some (.object "java/lang/Object")), Cond.methodLink RJx4a65c 118 yJ15_checkIndex_7cf53, Cond.static yJ15_checkIndex_7cf53, Cond.initialized RJ15, Cond.code yJ15_checkIndex_7cf53 cJ15_checkIndex_7cf53 2 (some .int), Cond.methodLink RJ15 105 yJ3_checkIndex_8e157, Cond.static yJ3_checkIndex_8e157, Cond.initialized RJ3, Cond.code yJ3_checkIndex_8e157 cJ3_checkIndex_8e157 3 (some .int), Cond.methodLink RJx4a65c 123 yJx4a65c_elementData_915e3, Cond.instanceMethod yJx4a65c_elementData_915e3, Cond.selects RJx4a65c yJx4a65c_elementData_915e3 yJx4a65c_elementData_915e3, Cond.code yJx4a65c_elementData_915e3 cJx4a65c_elementData_915e3 2 (some (.object "java/lang/Object")), Cond.fieldLink RJx4a65c 9 "java/util/ArrayList" "elementData" "[Ljava/lang/Object;", Cond.methodLink RX4 39 yX4_refuseOutside, Cond.static yX4_refuseOutside, Cond.code yX4_refuseOutside cX4_refuseOutside 3 none, Cond.classLink RX4 177 "java/lang/IllegalArgumentException", Cond.initialized "java/lang/IllegalArgumentException"]
def wsL_setTrust : List Cond := .codeWith yL_setTrust cL_setTrust 5 (some .int) [(0, 10, 13, 29), (0, 10, 17, 13)] :: ((wsL_setTrust_r1 ++ wsL_setTrust_r2) ++ wsX10 ++ wsX40 ++ wsJx4a65c0 ++ (vx_atS RX4 188 "java/lang/IndexOutOfBoundsException" ["java/lang/RuntimeException", "java/lang/Exception"]).filter goodWord ++ (vx_atS RX4 181 "java/lang/IllegalArgumentException" ["java/lang/RuntimeException", "java/lang/Exception"]).filter goodWord)
def wsL_pay_r1 : List Cond := [Cond.classLink RL 29 "java/lang/IndexOutOfBoundsException", Cond.classLink RL 13 "java/lang/IllegalArgumentException", Cond.methodLink RL 34 yX4_pay, Cond.instanceMethod yX4_pay, Cond.selects RX4 yX4_pay yX4_pay, Cond.initialized RX4, Cond.code yX4_pay cX4_pay 4 (some .int), Cond.constant RX4 96 (100000), Cond.methodLink RX4 82 yX4_keyAt, Cond.instanceMethod yX4_keyAt, Cond.selects RX4 yX4_keyAt yX4_keyAt, Cond.code yX4_keyAt cX4_keyAt 2 (some (.object "TollGateway$Key")), Cond.classLink RX4 184 "java/lang/IndexOutOfBoundsException", Cond.initialized "java/lang/IndexOutOfBoundsException", Cond.fieldLink RX4 24 "TollGateway" "keys" "Ljava/util/ArrayList;", Cond.classLink RX4 73 "TollGateway$Key", Cond.methodLink RX4 63 yJx4a65c_size_8abf5, Cond.instanceMethod yJx4a65c_size_8abf5, Cond.selects RJx4a65c yJx4a65c_size_8abf5 yJx4a65c_size_8abf5, Cond.initialized RJx4a65c, Cond.code yJx4a65c_size_8abf5 cJx4a65c_size_8abf5 1 (some .int), Cond.fieldLink RJx4a65c 48 "java/util/ArrayList" "size" "I", Cond.methodLink RX4 189 yJx4a65c_get_915e3, Cond.instanceMethod yJx4a65c_get_915e3]
def wsL_pay_r2 : List Cond := [Cond.selects RJx4a65c yJx4a65c_get_915e3 yJx4a65c_get_915e3, Cond.code yJx4a65c_get_915e3 cJx4a65c_get_915e3 2 (some (.object "java/lang/Object")), Cond.methodLink RJx4a65c 118 yJ15_checkIndex_7cf53, Cond.static yJ15_checkIndex_7cf53, Cond.initialized RJ15, Cond.code yJ15_checkIndex_7cf53 cJ15_checkIndex_7cf53 2 (some .int), Cond.methodLink RJ15 105 yJ3_checkIndex_8e157, Cond.static yJ3_checkIndex_8e157, Cond.initialized RJ3, Cond.code yJ3_checkIndex_8e157 cJ3_checkIndex_8e157 3 (some .int), Cond.methodLink RJx4a65c 123 yJx4a65c_elementData_915e3, Cond.instanceMethod yJx4a65c_elementData_915e3, Cond.selects RJx4a65c yJx4a65c_elementData_915e3 yJx4a65c_elementData_915e3, Cond.code yJx4a65c_elementData_915e3 cJx4a65c_elementData_915e3 2 (some (.object "java/lang/Object")), Cond.fieldLink RJx4a65c 9 "java/util/ArrayList" "elementData" "[Ljava/lang/Object;", Cond.methodLink RX4 39 yX4_refuseOutside, Cond.static yX4_refuseOutside, Cond.code yX4_refuseOutside cX4_refuseOutside 3 none, Cond.classLink RX4 177 "java/lang/IllegalArgumentException", Cond.initialized "java/lang/IllegalArgumentException", Cond.instanceMethod yX1_receive, Cond.initialized RX1, Cond.selects RX1 yX1_receive yX1_receive, Cond.code yX1_receive cX1_receive 3 none]
def wsL_pay_r3 : List Cond := [Cond.fieldLink RX1 22 "TollGateway$Key" "debt" "I", Cond.methodLink RX1 25 Lib.Math.min.name, Cond.static Lib.Math.min.name, Cond.initialized "java/lang/Math", Cond.code Lib.Math.min.name Lib.Math.min.code 2 (some .int), Cond.fieldLink RX1 31 "TollGateway$Key" "credit" "I"]
def wsL_pay : List Cond := .codeWith yL_pay cL_pay 5 (some .int) [(0, 10, 13, 29), (0, 10, 17, 13)] :: ((wsL_pay_r1 ++ (wsL_pay_r2 ++ wsL_pay_r3)) ++ wsX10 ++ wsX40 ++ wsJx4a65c0 ++ (vx_atS RX4 188 "java/lang/IndexOutOfBoundsException" ["java/lang/RuntimeException", "java/lang/Exception"]).filter goodWord ++ (vx_atS RX4 181 "java/lang/IllegalArgumentException" ["java/lang/RuntimeException", "java/lang/Exception"]).filter goodWord)
def wsL_call_r1 : List Cond := [Cond.classLink RL 29 "java/lang/IndexOutOfBoundsException", Cond.classLink RL 13 "java/lang/IllegalArgumentException", Cond.classLink RL 23 "java/lang/IllegalStateException", Cond.methodLink RL 37 yX4_call, Cond.instanceMethod yX4_call, Cond.selects RX4 yX4_call yX4_call, Cond.initialized RX4, Cond.code yX4_call cX4_call 7 (some .int), Cond.classLink RX4 66 "java/lang/IllegalStateException", Cond.initialized "java/lang/IllegalStateException", Cond.fieldLink RX4 28 "TollGateway" "letThrough" "Ljava/util/ArrayList;", Cond.classLink RX4 118 RX0, Cond.instantiable RX0 7, Cond.initialized RX0, Cond.fieldLink RX4 120 "TollGateway" "tick" "I", Cond.methodLink RX4 82 yX4_keyAt, Cond.instanceMethod yX4_keyAt, Cond.selects RX4 yX4_keyAt yX4_keyAt, Cond.code yX4_keyAt cX4_keyAt 2 (some (.object "TollGateway$Key")), Cond.classLink RX4 184 "java/lang/IndexOutOfBoundsException", Cond.initialized "java/lang/IndexOutOfBoundsException", Cond.fieldLink RX4 24 "TollGateway" "keys" "Ljava/util/ArrayList;", Cond.classLink RX4 73 "TollGateway$Key", Cond.methodLink RX4 63 yJx4a65c_size_8abf5]
def wsL_call_r2 : List Cond := [Cond.instanceMethod yJx4a65c_size_8abf5, Cond.selects RJx4a65c yJx4a65c_size_8abf5 yJx4a65c_size_8abf5, Cond.initialized RJx4a65c, Cond.code yJx4a65c_size_8abf5 cJx4a65c_size_8abf5 1 (some .int), Cond.fieldLink RJx4a65c 48 "java/util/ArrayList" "size" "I", Cond.methodLink RX4 189 yJx4a65c_get_915e3, Cond.instanceMethod yJx4a65c_get_915e3, Cond.selects RJx4a65c yJx4a65c_get_915e3 yJx4a65c_get_915e3, Cond.code yJx4a65c_get_915e3 cJx4a65c_get_915e3 2 (some (.object "java/lang/Object")), Cond.methodLink RJx4a65c 118 yJ15_checkIndex_7cf53, Cond.static yJ15_checkIndex_7cf53, Cond.initialized RJ15, Cond.code yJ15_checkIndex_7cf53 cJ15_checkIndex_7cf53 2 (some .int), Cond.methodLink RJ15 105 yJ3_checkIndex_8e157, Cond.static yJ3_checkIndex_8e157, Cond.initialized RJ3, Cond.code yJ3_checkIndex_8e157 cJ3_checkIndex_8e157 3 (some .int), Cond.methodLink RJx4a65c 123 yJx4a65c_elementData_915e3, Cond.instanceMethod yJx4a65c_elementData_915e3, Cond.selects RJx4a65c yJx4a65c_elementData_915e3 yJx4a65c_elementData_915e3, Cond.code yJx4a65c_elementData_915e3 cJx4a65c_elementData_915e3 2 (some (.object "java/lang/Object")), Cond.fieldLink RJx4a65c 9 "java/util/ArrayList" "elementData" "[Ljava/lang/Object;", Cond.methodLink RX4 53 yX4_routeAt, Cond.instanceMethod yX4_routeAt]
def wsL_call_r3 : List Cond := [Cond.selects RX4 yX4_routeAt yX4_routeAt, Cond.code yX4_routeAt cX4_routeAt 2 (some (.object "TollGateway$Route")), Cond.classLink RX4 177 "java/lang/IllegalArgumentException", Cond.initialized "java/lang/IllegalArgumentException", Cond.fieldLink RX4 17 "TollGateway" "routes" "[LTollGateway$Route;", Cond.methodLink RX4 39 yX4_refuseOutside, Cond.static yX4_refuseOutside, Cond.code yX4_refuseOutside cX4_refuseOutside 3 none, Cond.instanceMethod yX1_canCover, Cond.initialized RX1, Cond.selects RX1 yX1_canCover yX1_canCover, Cond.code yX1_canCover cX1_canCover 3 (some .boolean), Cond.fieldLink RX1 34 "TollGateway$Key" "trustLine" "I", Cond.fieldLink RX1 22 "TollGateway$Key" "debt" "I", Cond.methodLink RX1 37 Lib.Math.max.name, Cond.static Lib.Math.max.name, Cond.initialized "java/lang/Math", Cond.code Lib.Math.max.name Lib.Math.max.code 2 (some .int), Cond.fieldLink RX1 31 "TollGateway$Key" "credit" "I", Cond.instanceMethod yX1_openHold, Cond.selects RX1 yX1_openHold yX1_openHold, Cond.code yX1_openHold cX1_openHold 3 none, Cond.methodLink RX1 25 Lib.Math.min.name, Cond.static Lib.Math.min.name]
def wsL_call_r4 : List Cond := [Cond.code Lib.Math.min.name Lib.Math.min.code 2 (some .int), Cond.fieldLink RX1 40 "TollGateway$Key" "held" "I", Cond.fieldLink RX1 43 "TollGateway$Key" "openHolds" "I", Cond.instanceMethod yX0_init, Cond.code yX0_init cX0_init 5 none, Cond.methodLink RX0 3 objectInit, Cond.instanceMethod objectInit, Cond.code objectInit ⟨#[0xb1]⟩ 1 none, Cond.fieldLink RX0 9 "TollGateway$Call" "cost" "I", Cond.fieldLink RX0 15 "TollGateway$Call" "key" "LTollGateway$Key;", Cond.fieldLink RX0 19 "TollGateway$Call" "worth" "I", Cond.fieldLink RX0 22 "TollGateway$Call" "weight" "I", Cond.fieldLink RX0 25 "TollGateway$Call" "dueTick" "I", Cond.methodLink RX4 78 yJx4a65c_add_9ea2d, Cond.instanceMethod yJx4a65c_add_9ea2d, Cond.selects RJx4a65c yJx4a65c_add_9ea2d yJx4a65c_add_9ea2d, Cond.code yJx4a65c_add_9ea2d cJx4a65c_add_9ea2d 2 (some .boolean), Cond.fieldLink RJx4a65c 63 "java/util/ArrayList" "modCount" "I", Cond.sameField "java/util/ArrayList" "java/util/AbstractList" "modCount" "I", Cond.methodLink RJx4a65c 131 yJx4a65c_add_72be8, Cond.instanceMethod yJx4a65c_add_72be8, Cond.selects RJx4a65c yJx4a65c_add_72be8 yJx4a65c_add_72be8, Cond.code yJx4a65c_add_72be8 cJx4a65c_add_72be8 4 none, Cond.methodLink RJx4a65c 129 yJx4a65c_grow_d5877]
def wsL_call_r5 : List Cond := [Cond.instanceMethod yJx4a65c_grow_d5877, Cond.selects RJx4a65c yJx4a65c_grow_d5877 yJx4a65c_grow_d5877, Cond.code yJx4a65c_grow_d5877 cJx4a65c_grow_d5877 1 (some (.array (.object "java/lang/Object"))), Cond.methodLink RJx4a65c 69 yJx4a65c_grow_92f84, Cond.instanceMethod yJx4a65c_grow_92f84, Cond.selects RJx4a65c yJx4a65c_grow_92f84 yJx4a65c_grow_92f84, Cond.code yJx4a65c_grow_92f84 cJx4a65c_grow_92f84 4 (some (.array (.object "java/lang/Object"))), Cond.fieldLink RJx4a65c 39 "java/util/ArrayList" "DEFAULTCAPACITY_EMPTY_ELEMENTDATA" "[Ljava/lang/Object;", Cond.methodLink RJx4a65c 79 Lib.Math.max.name, Cond.classLink RJx4a65c 7 "java/lang/Object", Cond.methodLink RJx4a65c 73 yJ8_newLength_cabcc, Cond.static yJ8_newLength_cabcc, Cond.initialized RJ8, Cond.code yJ8_newLength_cabcc cJ8_newLength_cabcc 4 (some .int), Cond.methodLink RJ8 194 Lib.Math.max.name, Cond.constant RJ8 200 (2147483639), Cond.methodLink RJ8 201 yJ8_hugeLength_7cf53, Cond.static yJ8_hugeLength_7cf53, Cond.code yJ8_hugeLength_7cf53 cJ8_hugeLength_7cf53 3 (some .int), Cond.methodLink RJx4a65c 66 yJ7_copyOf_1904c, Cond.static yJ7_copyOf_1904c, Cond.initialized RJ7, Cond.code yJ7_copyOf_1904c cJ7_copyOf_1904c 2 (some (.array (.object "java/lang/Object"))), Cond.methodLink RJ7 86 ⟨"java/lang/Object", "getClass", "()Ljava/lang/Class;"⟩]
def wsL_call_r6 : List Cond := [Cond.selects "[Ljava/lang/Object;" ⟨"java/lang/Object", "getClass", "()Ljava/lang/Class;"⟩ ⟨"java/lang/Object", "getClass", "()Ljava/lang/Class;"⟩, Cond.instanceMethod ⟨"java/lang/Object", "getClass", "()Ljava/lang/Class;"⟩, Cond.native ⟨"java/lang/Object", "getClass", "()Ljava/lang/Class;"⟩, Cond.methodLink RJ7 300 yJ7_copyOf_6403c, Cond.static yJ7_copyOf_6403c, Cond.code yJ7_copyOf_6403c cJ7_copyOf_6403c 4 (some (.array (.object "java/lang/Object"))), Cond.classLink RJ7 110 "[Ljava/lang/Object;", Cond.classLink RJ7 2 "java/lang/Object", Cond.methodLink RJ7 304 Lib.Math.min.name, Cond.methodLink RJ7 150 arraycopyName, Cond.native arraycopyName, Cond.static arraycopyName, Cond.initialized "java/lang/System"]
def wsL_call : List Cond := .codeWith yL_call cL_call 6 (some .int) [(0, 12, 15, 29), (0, 12, 19, 13), (0, 12, 23, 23)] :: ((wsL_call_r1 ++ (wsL_call_r2 ++ (wsL_call_r3 ++ (wsL_call_r4 ++ (wsL_call_r5 ++ wsL_call_r6))))) ++ wsX40 ++ wsX30 ++ wsX10 ++ wsX00 ++ wsJx4a65c0 ++ (vx_atS RX4 70 "java/lang/IllegalStateException" ["java/lang/RuntimeException", "java/lang/Exception"]).filter goodWord ++ (vx_atS RX4 188 "java/lang/IndexOutOfBoundsException" ["java/lang/RuntimeException", "java/lang/Exception"]).filter goodWord ++ (vx_atS RX4 181 "java/lang/IllegalArgumentException" ["java/lang/RuntimeException", "java/lang/Exception"]).filter goodWord)
def wsL_end_r1 : List Cond := [Cond.classLink RL 29 "java/lang/IndexOutOfBoundsException", Cond.classLink RL 13 "java/lang/IllegalArgumentException", Cond.classLink RL 23 "java/lang/IllegalStateException", Cond.methodLink RL 41 yX4_end, Cond.instanceMethod yX4_end, Cond.selects RX4 yX4_end yX4_end, Cond.initialized RX4, Cond.code yX4_end cX4_end 4 (some .int), Cond.classLink RX4 66 "java/lang/IllegalStateException", Cond.initialized "java/lang/IllegalStateException", Cond.fieldLink RX4 120 "TollGateway" "tick" "I", Cond.methodLink RX4 126 yX4_callAt, Cond.instanceMethod yX4_callAt, Cond.selects RX4 yX4_callAt yX4_callAt, Cond.code yX4_callAt cX4_callAt 2 (some (.object "TollGateway$Call")), Cond.classLink RX4 184 "java/lang/IndexOutOfBoundsException", Cond.initialized "java/lang/IndexOutOfBoundsException", Cond.fieldLink RX4 28 "TollGateway" "letThrough" "Ljava/util/ArrayList;", Cond.classLink RX4 118 "TollGateway$Call", Cond.methodLink RX4 63 yJx4a65c_size_8abf5, Cond.instanceMethod yJx4a65c_size_8abf5, Cond.selects RJx4a65c yJx4a65c_size_8abf5 yJx4a65c_size_8abf5, Cond.initialized RJx4a65c, Cond.code yJx4a65c_size_8abf5 cJx4a65c_size_8abf5 1 (some .int)]
def wsL_end_r2 : List Cond := [Cond.fieldLink RJx4a65c 48 "java/util/ArrayList" "size" "I", Cond.methodLink RX4 189 yJx4a65c_get_915e3, Cond.instanceMethod yJx4a65c_get_915e3, Cond.selects RJx4a65c yJx4a65c_get_915e3 yJx4a65c_get_915e3, Cond.code yJx4a65c_get_915e3 cJx4a65c_get_915e3 2 (some (.object "java/lang/Object")), Cond.methodLink RJx4a65c 118 yJ15_checkIndex_7cf53, Cond.static yJ15_checkIndex_7cf53, Cond.initialized RJ15, Cond.code yJ15_checkIndex_7cf53 cJ15_checkIndex_7cf53 2 (some .int), Cond.methodLink RJ15 105 yJ3_checkIndex_8e157, Cond.static yJ3_checkIndex_8e157, Cond.initialized RJ3, Cond.code yJ3_checkIndex_8e157 cJ3_checkIndex_8e157 3 (some .int), Cond.methodLink RJx4a65c 123 yJx4a65c_elementData_915e3, Cond.instanceMethod yJx4a65c_elementData_915e3, Cond.selects RJx4a65c yJx4a65c_elementData_915e3 yJx4a65c_elementData_915e3, Cond.code yJx4a65c_elementData_915e3 cJx4a65c_elementData_915e3 2 (some (.object "java/lang/Object")), Cond.fieldLink RJx4a65c 9 "java/util/ArrayList" "elementData" "[Ljava/lang/Object;", Cond.methodLink RX4 39 yX4_refuseOutside, Cond.static yX4_refuseOutside, Cond.code yX4_refuseOutside cX4_refuseOutside 3 none, Cond.classLink RX4 177 "java/lang/IllegalArgumentException", Cond.initialized "java/lang/IllegalArgumentException", Cond.instanceMethod yX0_hasEnded]
def wsL_end_r3 : List Cond := [Cond.initialized RX0, Cond.selects RX0 yX0_hasEnded yX0_hasEnded, Cond.code yX0_hasEnded cX0_hasEnded 1 (some .boolean), Cond.fieldLink RX0 9 "TollGateway$Call" "cost" "I", Cond.instanceMethod yX0_settle, Cond.selects RX0 yX0_settle yX0_settle, Cond.code yX0_settle cX0_settle 3 none, Cond.fieldLink RX0 32 "TollGateway$Call" "endTick" "I", Cond.fieldLink RX0 15 "TollGateway$Call" "key" "LTollGateway$Key;", Cond.fieldLink RX0 19 "TollGateway$Call" "worth" "I", Cond.methodLink RX0 28 yX0_costOf, Cond.instanceMethod yX0_costOf, Cond.selects RX0 yX0_costOf yX0_costOf, Cond.code yX0_costOf cX0_costOf 2 (some .int), Cond.instanceMethod yX1_closeHold, Cond.initialized RX1, Cond.selects RX1 yX1_closeHold yX1_closeHold, Cond.code yX1_closeHold cX1_closeHold 3 none, Cond.fieldLink RX1 40 "TollGateway$Key" "held" "I", Cond.fieldLink RX1 43 "TollGateway$Key" "openHolds" "I", Cond.fieldLink RX1 46 "TollGateway$Key" "spent" "I", Cond.methodLink RX1 49 yX1_receive, Cond.instanceMethod yX1_receive, Cond.selects RX1 yX1_receive yX1_receive]
def wsL_end_r4 : List Cond := [Cond.code yX1_receive cX1_receive 3 none, Cond.fieldLink RX1 22 "TollGateway$Key" "debt" "I", Cond.methodLink RX1 25 Lib.Math.min.name, Cond.static Lib.Math.min.name, Cond.initialized "java/lang/Math", Cond.code Lib.Math.min.name Lib.Math.min.code 2 (some .int), Cond.fieldLink RX1 31 "TollGateway$Key" "credit" "I"]
def wsL_end : List Cond := .codeWith yL_end cL_end 5 (some .int) [(0, 10, 13, 29), (0, 10, 17, 13), (0, 10, 21, 23)] :: ((wsL_end_r1 ++ (wsL_end_r2 ++ (wsL_end_r3 ++ wsL_end_r4))) ++ wsX40 ++ wsX00 ++ wsJx4a65c0 ++ wsX10 ++ (vx_atS RX4 70 "java/lang/IllegalStateException" ["java/lang/RuntimeException", "java/lang/Exception"]).filter goodWord ++ (vx_atS RX4 188 "java/lang/IndexOutOfBoundsException" ["java/lang/RuntimeException", "java/lang/Exception"]).filter goodWord ++ (vx_atS RX4 181 "java/lang/IllegalArgumentException" ["java/lang/RuntimeException", "java/lang/Exception"]).filter goodWord)
def wsL_dispute_r1 : List Cond := [Cond.classLink RL 29 "java/lang/IndexOutOfBoundsException", Cond.classLink RL 23 "java/lang/IllegalStateException", Cond.methodLink RL 44 yX4_dispute, Cond.instanceMethod yX4_dispute, Cond.selects RX4 yX4_dispute yX4_dispute, Cond.initialized RX4, Cond.code yX4_dispute cX4_dispute 3 (some .int), Cond.classLink RX4 66 "java/lang/IllegalStateException", Cond.initialized "java/lang/IllegalStateException", Cond.fieldLink RX4 120 "TollGateway" "tick" "I", Cond.methodLink RX4 126 yX4_callAt, Cond.instanceMethod yX4_callAt, Cond.selects RX4 yX4_callAt yX4_callAt, Cond.code yX4_callAt cX4_callAt 2 (some (.object "TollGateway$Call")), Cond.classLink RX4 184 "java/lang/IndexOutOfBoundsException", Cond.initialized "java/lang/IndexOutOfBoundsException", Cond.fieldLink RX4 28 "TollGateway" "letThrough" "Ljava/util/ArrayList;", Cond.classLink RX4 118 "TollGateway$Call", Cond.methodLink RX4 63 yJx4a65c_size_8abf5, Cond.instanceMethod yJx4a65c_size_8abf5, Cond.selects RJx4a65c yJx4a65c_size_8abf5 yJx4a65c_size_8abf5, Cond.initialized RJx4a65c, Cond.code yJx4a65c_size_8abf5 cJx4a65c_size_8abf5 1 (some .int), Cond.fieldLink RJx4a65c 48 "java/util/ArrayList" "size" "I"]
def wsL_dispute_r2 : List Cond := [Cond.methodLink RX4 189 yJx4a65c_get_915e3, Cond.instanceMethod yJx4a65c_get_915e3, Cond.selects RJx4a65c yJx4a65c_get_915e3 yJx4a65c_get_915e3, Cond.code yJx4a65c_get_915e3 cJx4a65c_get_915e3 2 (some (.object "java/lang/Object")), Cond.methodLink RJx4a65c 118 yJ15_checkIndex_7cf53, Cond.static yJ15_checkIndex_7cf53, Cond.initialized RJ15, Cond.code yJ15_checkIndex_7cf53 cJ15_checkIndex_7cf53 2 (some .int), Cond.methodLink RJ15 105 yJ3_checkIndex_8e157, Cond.static yJ3_checkIndex_8e157, Cond.initialized RJ3, Cond.code yJ3_checkIndex_8e157 cJ3_checkIndex_8e157 3 (some .int), Cond.methodLink RJx4a65c 123 yJx4a65c_elementData_915e3, Cond.instanceMethod yJx4a65c_elementData_915e3, Cond.selects RJx4a65c yJx4a65c_elementData_915e3 yJx4a65c_elementData_915e3, Cond.code yJx4a65c_elementData_915e3 cJx4a65c_elementData_915e3 2 (some (.object "java/lang/Object")), Cond.fieldLink RJx4a65c 9 "java/util/ArrayList" "elementData" "[Ljava/lang/Object;", Cond.instanceMethod yX0_hasEnded, Cond.initialized RX0, Cond.selects RX0 yX0_hasEnded yX0_hasEnded, Cond.code yX0_hasEnded cX0_hasEnded 1 (some .boolean), Cond.fieldLink RX0 9 "TollGateway$Call" "cost" "I", Cond.instanceMethod yX0_giveBack, Cond.selects RX0 yX0_giveBack yX0_giveBack]
def wsL_dispute_r3 : List Cond := [Cond.code yX0_giveBack cX0_giveBack 2 (some .int), Cond.fieldLink RX0 41 "TollGateway$Call" "wasDisputed" "Z", Cond.fieldLink RX0 15 "TollGateway$Call" "key" "LTollGateway$Key;", Cond.fieldLink RX0 22 "TollGateway$Call" "weight" "I", Cond.instanceMethod yX1_receive, Cond.initialized RX1, Cond.selects RX1 yX1_receive yX1_receive, Cond.code yX1_receive cX1_receive 3 none, Cond.fieldLink RX1 22 "TollGateway$Key" "debt" "I", Cond.methodLink RX1 25 Lib.Math.min.name, Cond.static Lib.Math.min.name, Cond.initialized "java/lang/Math", Cond.code Lib.Math.min.name Lib.Math.min.code 2 (some .int), Cond.fieldLink RX1 31 "TollGateway$Key" "credit" "I"]
def wsL_dispute : List Cond := .codeWith yL_dispute cL_dispute 4 (some .int) [(0, 9, 12, 29), (0, 9, 15, 23)] :: ((wsL_dispute_r1 ++ (wsL_dispute_r2 ++ wsL_dispute_r3)) ++ wsX00 ++ wsX40 ++ wsJx4a65c0 ++ wsX10 ++ (vx_atS RX4 70 "java/lang/IllegalStateException" ["java/lang/RuntimeException", "java/lang/Exception"]).filter goodWord ++ (vx_atS RX4 188 "java/lang/IndexOutOfBoundsException" ["java/lang/RuntimeException", "java/lang/Exception"]).filter goodWord)
def wsL_pass_r1 : List Cond := [Cond.classLink RL 13 "java/lang/IllegalArgumentException", Cond.methodLink RL 47 yX4_pass, Cond.instanceMethod yX4_pass, Cond.selects RX4 yX4_pass yX4_pass, Cond.initialized RX4, Cond.code yX4_pass cX4_pass 4 (some .int), Cond.fieldLink RX4 120 "TollGateway" "tick" "I", Cond.methodLink RX4 39 yX4_refuseOutside, Cond.static yX4_refuseOutside, Cond.code yX4_refuseOutside cX4_refuseOutside 3 none, Cond.classLink RX4 177 "java/lang/IllegalArgumentException", Cond.initialized "java/lang/IllegalArgumentException", Cond.methodLink RX4 159 yX4_runOutHolds, Cond.instanceMethod yX4_runOutHolds, Cond.selects RX4 yX4_runOutHolds yX4_runOutHolds, Cond.code yX4_runOutHolds cX4_runOutHolds 3 (some .int), Cond.fieldLink RX4 197 "TollGateway" "nextToRunOut" "I", Cond.fieldLink RX4 28 "TollGateway" "letThrough" "Ljava/util/ArrayList;", Cond.classLink RX4 118 "TollGateway$Call", Cond.methodLink RX4 63 yJx4a65c_size_8abf5, Cond.instanceMethod yJx4a65c_size_8abf5, Cond.selects RJx4a65c yJx4a65c_size_8abf5 yJx4a65c_size_8abf5, Cond.initialized RJx4a65c, Cond.code yJx4a65c_size_8abf5 cJx4a65c_size_8abf5 1 (some .int)]
def wsL_pass_r2 : List Cond := [Cond.fieldLink RJx4a65c 48 "java/util/ArrayList" "size" "I", Cond.methodLink RX4 189 yJx4a65c_get_915e3, Cond.instanceMethod yJx4a65c_get_915e3, Cond.selects RJx4a65c yJx4a65c_get_915e3 yJx4a65c_get_915e3, Cond.code yJx4a65c_get_915e3 cJx4a65c_get_915e3 2 (some (.object "java/lang/Object")), Cond.methodLink RJx4a65c 118 yJ15_checkIndex_7cf53, Cond.static yJ15_checkIndex_7cf53, Cond.initialized RJ15, Cond.code yJ15_checkIndex_7cf53 cJ15_checkIndex_7cf53 2 (some .int), Cond.methodLink RJ15 105 yJ3_checkIndex_8e157, Cond.static yJ3_checkIndex_8e157, Cond.initialized RJ3, Cond.code yJ3_checkIndex_8e157 cJ3_checkIndex_8e157 3 (some .int), Cond.methodLink RJx4a65c 123 yJx4a65c_elementData_915e3, Cond.instanceMethod yJx4a65c_elementData_915e3, Cond.selects RJx4a65c yJx4a65c_elementData_915e3 yJx4a65c_elementData_915e3, Cond.code yJx4a65c_elementData_915e3 cJx4a65c_elementData_915e3 2 (some (.object "java/lang/Object")), Cond.fieldLink RJx4a65c 9 "java/util/ArrayList" "elementData" "[Ljava/lang/Object;", Cond.instanceMethod yX0_hasEnded, Cond.initialized RX0, Cond.selects RX0 yX0_hasEnded yX0_hasEnded, Cond.code yX0_hasEnded cX0_hasEnded 1 (some .boolean), Cond.fieldLink RX0 9 "TollGateway$Call" "cost" "I", Cond.instanceMethod yX0_settle]
def wsL_pass_r3 : List Cond := [Cond.selects RX0 yX0_settle yX0_settle, Cond.code yX0_settle cX0_settle 3 none, Cond.fieldLink RX0 32 "TollGateway$Call" "endTick" "I", Cond.fieldLink RX0 15 "TollGateway$Call" "key" "LTollGateway$Key;", Cond.fieldLink RX0 19 "TollGateway$Call" "worth" "I", Cond.methodLink RX0 28 yX0_costOf, Cond.instanceMethod yX0_costOf, Cond.selects RX0 yX0_costOf yX0_costOf, Cond.code yX0_costOf cX0_costOf 2 (some .int), Cond.instanceMethod yX1_closeHold, Cond.initialized RX1, Cond.selects RX1 yX1_closeHold yX1_closeHold, Cond.code yX1_closeHold cX1_closeHold 3 none, Cond.fieldLink RX1 40 "TollGateway$Key" "held" "I", Cond.fieldLink RX1 43 "TollGateway$Key" "openHolds" "I", Cond.fieldLink RX1 46 "TollGateway$Key" "spent" "I", Cond.methodLink RX1 49 yX1_receive, Cond.instanceMethod yX1_receive, Cond.selects RX1 yX1_receive yX1_receive, Cond.code yX1_receive cX1_receive 3 none, Cond.fieldLink RX1 22 "TollGateway$Key" "debt" "I", Cond.methodLink RX1 25 Lib.Math.min.name, Cond.static Lib.Math.min.name, Cond.initialized "java/lang/Math"]
def wsL_pass_r4 : List Cond := [Cond.code Lib.Math.min.name Lib.Math.min.code 2 (some .int), Cond.fieldLink RX1 31 "TollGateway$Key" "credit" "I", Cond.methodLink RX4 162 yX4_refillBuckets, Cond.instanceMethod yX4_refillBuckets, Cond.selects RX4 yX4_refillBuckets yX4_refillBuckets, Cond.code yX4_refillBuckets cX4_refillBuckets 2 none, Cond.fieldLink RX4 24 "TollGateway" "keys" "Ljava/util/ArrayList;", Cond.classLink RX4 73 "TollGateway$Key", Cond.instanceMethod yX1_refillBucket, Cond.selects RX1 yX1_refillBucket yX1_refillBucket, Cond.code yX1_refillBucket cX1_refillBucket 2 none, Cond.fieldLink RX1 19 "TollGateway$Key" "tokens" "I", Cond.fieldLink RX1 7 "TollGateway$Key" "plan" "LTollGateway$Plan;", Cond.methodLink RX1 53 yX1_refillsSlowly, Cond.instanceMethod yX1_refillsSlowly, Cond.selects RX1 yX1_refillsSlowly yX1_refillsSlowly, Cond.code yX1_refillsSlowly cX1_refillsSlowly 1 (some .boolean)]
def wsL_pass : List Cond := .codeWith yL_pass cL_pass 4 (some .int) [(0, 9, 12, 13)] :: ((wsL_pass_r1 ++ (wsL_pass_r2 ++ (wsL_pass_r3 ++ wsL_pass_r4))) ++ wsX40 ++ wsX00 ++ wsJx4a65c0 ++ wsX10 ++ wsX20 ++ (vx_atS RX4 181 "java/lang/IllegalArgumentException" ["java/lang/RuntimeException", "java/lang/Exception"]).filter goodWord)
def wsL_credit_r1 : List Cond := [Cond.classLink RL 29 "java/lang/IndexOutOfBoundsException", Cond.methodLink RL 50 yX4_credit, Cond.instanceMethod yX4_credit, Cond.selects RX4 yX4_credit yX4_credit, Cond.initialized RX4, Cond.code yX4_credit cX4_credit 2 (some .int), Cond.methodLink RX4 82 yX4_keyAt, Cond.instanceMethod yX4_keyAt, Cond.selects RX4 yX4_keyAt yX4_keyAt, Cond.code yX4_keyAt cX4_keyAt 2 (some (.object "TollGateway$Key")), Cond.classLink RX4 184 "java/lang/IndexOutOfBoundsException", Cond.initialized "java/lang/IndexOutOfBoundsException", Cond.fieldLink RX4 24 "TollGateway" "keys" "Ljava/util/ArrayList;", Cond.classLink RX4 73 "TollGateway$Key", Cond.methodLink RX4 63 yJx4a65c_size_8abf5, Cond.instanceMethod yJx4a65c_size_8abf5, Cond.selects RJx4a65c yJx4a65c_size_8abf5 yJx4a65c_size_8abf5, Cond.initialized RJx4a65c, Cond.code yJx4a65c_size_8abf5 cJx4a65c_size_8abf5 1 (some .int), Cond.fieldLink RJx4a65c 48 "java/util/ArrayList" "size" "I", Cond.methodLink RX4 189 yJx4a65c_get_915e3, Cond.instanceMethod yJx4a65c_get_915e3, Cond.selects RJx4a65c yJx4a65c_get_915e3 yJx4a65c_get_915e3, Cond.code yJx4a65c_get_915e3 cJx4a65c_get_915e3 2 (some (.object "java/lang/Object"))]
def wsL_credit_r2 : List Cond := [Cond.methodLink RJx4a65c 118 yJ15_checkIndex_7cf53, Cond.static yJ15_checkIndex_7cf53, Cond.initialized RJ15, Cond.code yJ15_checkIndex_7cf53 cJ15_checkIndex_7cf53 2 (some .int), Cond.methodLink RJ15 105 yJ3_checkIndex_8e157, Cond.static yJ3_checkIndex_8e157, Cond.initialized RJ3, Cond.code yJ3_checkIndex_8e157 cJ3_checkIndex_8e157 3 (some .int), Cond.methodLink RJx4a65c 123 yJx4a65c_elementData_915e3, Cond.instanceMethod yJx4a65c_elementData_915e3, Cond.selects RJx4a65c yJx4a65c_elementData_915e3 yJx4a65c_elementData_915e3, Cond.code yJx4a65c_elementData_915e3 cJx4a65c_elementData_915e3 2 (some (.object "java/lang/Object")), Cond.fieldLink RJx4a65c 9 "java/util/ArrayList" "elementData" "[Ljava/lang/Object;"]
def wsL_credit : List Cond := .codeWith yL_credit cL_credit 4 (some .int) [(0, 9, 12, 29)] :: ((wsL_credit_r1 ++ wsL_credit_r2) ++ wsX10 ++ wsX40 ++ wsJx4a65c0 ++ (vx_atS RX4 188 "java/lang/IndexOutOfBoundsException" ["java/lang/RuntimeException", "java/lang/Exception"]).filter goodWord)
def wsL_debt_r1 : List Cond := [Cond.classLink RL 29 "java/lang/IndexOutOfBoundsException", Cond.methodLink RL 53 yX4_debt, Cond.instanceMethod yX4_debt, Cond.selects RX4 yX4_debt yX4_debt, Cond.initialized RX4, Cond.code yX4_debt cX4_debt 2 (some .int), Cond.methodLink RX4 82 yX4_keyAt, Cond.instanceMethod yX4_keyAt, Cond.selects RX4 yX4_keyAt yX4_keyAt, Cond.code yX4_keyAt cX4_keyAt 2 (some (.object "TollGateway$Key")), Cond.classLink RX4 184 "java/lang/IndexOutOfBoundsException", Cond.initialized "java/lang/IndexOutOfBoundsException", Cond.fieldLink RX4 24 "TollGateway" "keys" "Ljava/util/ArrayList;", Cond.classLink RX4 73 "TollGateway$Key", Cond.methodLink RX4 63 yJx4a65c_size_8abf5, Cond.instanceMethod yJx4a65c_size_8abf5, Cond.selects RJx4a65c yJx4a65c_size_8abf5 yJx4a65c_size_8abf5, Cond.initialized RJx4a65c, Cond.code yJx4a65c_size_8abf5 cJx4a65c_size_8abf5 1 (some .int), Cond.fieldLink RJx4a65c 48 "java/util/ArrayList" "size" "I", Cond.methodLink RX4 189 yJx4a65c_get_915e3, Cond.instanceMethod yJx4a65c_get_915e3, Cond.selects RJx4a65c yJx4a65c_get_915e3 yJx4a65c_get_915e3, Cond.code yJx4a65c_get_915e3 cJx4a65c_get_915e3 2 (some (.object "java/lang/Object"))]
def wsL_debt_r2 : List Cond := [Cond.methodLink RJx4a65c 118 yJ15_checkIndex_7cf53, Cond.static yJ15_checkIndex_7cf53, Cond.initialized RJ15, Cond.code yJ15_checkIndex_7cf53 cJ15_checkIndex_7cf53 2 (some .int), Cond.methodLink RJ15 105 yJ3_checkIndex_8e157, Cond.static yJ3_checkIndex_8e157, Cond.initialized RJ3, Cond.code yJ3_checkIndex_8e157 cJ3_checkIndex_8e157 3 (some .int), Cond.methodLink RJx4a65c 123 yJx4a65c_elementData_915e3, Cond.instanceMethod yJx4a65c_elementData_915e3, Cond.selects RJx4a65c yJx4a65c_elementData_915e3 yJx4a65c_elementData_915e3, Cond.code yJx4a65c_elementData_915e3 cJx4a65c_elementData_915e3 2 (some (.object "java/lang/Object")), Cond.fieldLink RJx4a65c 9 "java/util/ArrayList" "elementData" "[Ljava/lang/Object;"]
def wsL_debt : List Cond := .codeWith yL_debt cL_debt 4 (some .int) [(0, 9, 12, 29)] :: ((wsL_debt_r1 ++ wsL_debt_r2) ++ wsX10 ++ wsX40 ++ wsJx4a65c0 ++ (vx_atS RX4 188 "java/lang/IndexOutOfBoundsException" ["java/lang/RuntimeException", "java/lang/Exception"]).filter goodWord)
def wsL_held_r1 : List Cond := [Cond.classLink RL 29 "java/lang/IndexOutOfBoundsException", Cond.methodLink RL 56 yX4_held, Cond.instanceMethod yX4_held, Cond.selects RX4 yX4_held yX4_held, Cond.initialized RX4, Cond.code yX4_held cX4_held 2 (some .int), Cond.methodLink RX4 82 yX4_keyAt, Cond.instanceMethod yX4_keyAt, Cond.selects RX4 yX4_keyAt yX4_keyAt, Cond.code yX4_keyAt cX4_keyAt 2 (some (.object "TollGateway$Key")), Cond.classLink RX4 184 "java/lang/IndexOutOfBoundsException", Cond.initialized "java/lang/IndexOutOfBoundsException", Cond.fieldLink RX4 24 "TollGateway" "keys" "Ljava/util/ArrayList;", Cond.classLink RX4 73 "TollGateway$Key", Cond.methodLink RX4 63 yJx4a65c_size_8abf5, Cond.instanceMethod yJx4a65c_size_8abf5, Cond.selects RJx4a65c yJx4a65c_size_8abf5 yJx4a65c_size_8abf5, Cond.initialized RJx4a65c, Cond.code yJx4a65c_size_8abf5 cJx4a65c_size_8abf5 1 (some .int), Cond.fieldLink RJx4a65c 48 "java/util/ArrayList" "size" "I", Cond.methodLink RX4 189 yJx4a65c_get_915e3, Cond.instanceMethod yJx4a65c_get_915e3, Cond.selects RJx4a65c yJx4a65c_get_915e3 yJx4a65c_get_915e3, Cond.code yJx4a65c_get_915e3 cJx4a65c_get_915e3 2 (some (.object "java/lang/Object"))]
def wsL_held_r2 : List Cond := [Cond.methodLink RJx4a65c 118 yJ15_checkIndex_7cf53, Cond.static yJ15_checkIndex_7cf53, Cond.initialized RJ15, Cond.code yJ15_checkIndex_7cf53 cJ15_checkIndex_7cf53 2 (some .int), Cond.methodLink RJ15 105 yJ3_checkIndex_8e157, Cond.static yJ3_checkIndex_8e157, Cond.initialized RJ3, Cond.code yJ3_checkIndex_8e157 cJ3_checkIndex_8e157 3 (some .int), Cond.methodLink RJx4a65c 123 yJx4a65c_elementData_915e3, Cond.instanceMethod yJx4a65c_elementData_915e3, Cond.selects RJx4a65c yJx4a65c_elementData_915e3 yJx4a65c_elementData_915e3, Cond.code yJx4a65c_elementData_915e3 cJx4a65c_elementData_915e3 2 (some (.object "java/lang/Object")), Cond.fieldLink RJx4a65c 9 "java/util/ArrayList" "elementData" "[Ljava/lang/Object;"]
def wsL_held : List Cond := .codeWith yL_held cL_held 4 (some .int) [(0, 9, 12, 29)] :: ((wsL_held_r1 ++ wsL_held_r2) ++ wsX10 ++ wsX40 ++ wsJx4a65c0 ++ (vx_atS RX4 188 "java/lang/IndexOutOfBoundsException" ["java/lang/RuntimeException", "java/lang/Exception"]).filter goodWord)
def wsL_tokens_r1 : List Cond := [Cond.classLink RL 29 "java/lang/IndexOutOfBoundsException", Cond.methodLink RL 59 yX4_tokens, Cond.instanceMethod yX4_tokens, Cond.selects RX4 yX4_tokens yX4_tokens, Cond.initialized RX4, Cond.code yX4_tokens cX4_tokens 2 (some .int), Cond.methodLink RX4 82 yX4_keyAt, Cond.instanceMethod yX4_keyAt, Cond.selects RX4 yX4_keyAt yX4_keyAt, Cond.code yX4_keyAt cX4_keyAt 2 (some (.object "TollGateway$Key")), Cond.classLink RX4 184 "java/lang/IndexOutOfBoundsException", Cond.initialized "java/lang/IndexOutOfBoundsException", Cond.fieldLink RX4 24 "TollGateway" "keys" "Ljava/util/ArrayList;", Cond.classLink RX4 73 "TollGateway$Key", Cond.methodLink RX4 63 yJx4a65c_size_8abf5, Cond.instanceMethod yJx4a65c_size_8abf5, Cond.selects RJx4a65c yJx4a65c_size_8abf5 yJx4a65c_size_8abf5, Cond.initialized RJx4a65c, Cond.code yJx4a65c_size_8abf5 cJx4a65c_size_8abf5 1 (some .int), Cond.fieldLink RJx4a65c 48 "java/util/ArrayList" "size" "I", Cond.methodLink RX4 189 yJx4a65c_get_915e3, Cond.instanceMethod yJx4a65c_get_915e3, Cond.selects RJx4a65c yJx4a65c_get_915e3 yJx4a65c_get_915e3, Cond.code yJx4a65c_get_915e3 cJx4a65c_get_915e3 2 (some (.object "java/lang/Object"))]
def wsL_tokens_r2 : List Cond := [Cond.methodLink RJx4a65c 118 yJ15_checkIndex_7cf53, Cond.static yJ15_checkIndex_7cf53, Cond.initialized RJ15, Cond.code yJ15_checkIndex_7cf53 cJ15_checkIndex_7cf53 2 (some .int), Cond.methodLink RJ15 105 yJ3_checkIndex_8e157, Cond.static yJ3_checkIndex_8e157, Cond.initialized RJ3, Cond.code yJ3_checkIndex_8e157 cJ3_checkIndex_8e157 3 (some .int), Cond.methodLink RJx4a65c 123 yJx4a65c_elementData_915e3, Cond.instanceMethod yJx4a65c_elementData_915e3, Cond.selects RJx4a65c yJx4a65c_elementData_915e3 yJx4a65c_elementData_915e3, Cond.code yJx4a65c_elementData_915e3 cJx4a65c_elementData_915e3 2 (some (.object "java/lang/Object")), Cond.fieldLink RJx4a65c 9 "java/util/ArrayList" "elementData" "[Ljava/lang/Object;"]
def wsL_tokens : List Cond := .codeWith yL_tokens cL_tokens 4 (some .int) [(0, 9, 12, 29)] :: ((wsL_tokens_r1 ++ wsL_tokens_r2) ++ wsX10 ++ wsX40 ++ wsJx4a65c0 ++ (vx_atS RX4 188 "java/lang/IndexOutOfBoundsException" ["java/lang/RuntimeException", "java/lang/Exception"]).filter goodWord)
def wsL_isSlowed_r1 : List Cond := [Cond.classLink RL 29 "java/lang/IndexOutOfBoundsException", Cond.methodLink RL 62 yX4_isSlowed, Cond.instanceMethod yX4_isSlowed, Cond.selects RX4 yX4_isSlowed yX4_isSlowed, Cond.initialized RX4, Cond.code yX4_isSlowed cX4_isSlowed 2 (some .boolean), Cond.methodLink RX4 82 yX4_keyAt, Cond.instanceMethod yX4_keyAt, Cond.selects RX4 yX4_keyAt yX4_keyAt, Cond.code yX4_keyAt cX4_keyAt 2 (some (.object "TollGateway$Key")), Cond.classLink RX4 184 "java/lang/IndexOutOfBoundsException", Cond.initialized "java/lang/IndexOutOfBoundsException", Cond.fieldLink RX4 24 "TollGateway" "keys" "Ljava/util/ArrayList;", Cond.classLink RX4 73 "TollGateway$Key", Cond.methodLink RX4 63 yJx4a65c_size_8abf5, Cond.instanceMethod yJx4a65c_size_8abf5, Cond.selects RJx4a65c yJx4a65c_size_8abf5 yJx4a65c_size_8abf5, Cond.initialized RJx4a65c, Cond.code yJx4a65c_size_8abf5 cJx4a65c_size_8abf5 1 (some .int), Cond.fieldLink RJx4a65c 48 "java/util/ArrayList" "size" "I", Cond.methodLink RX4 189 yJx4a65c_get_915e3, Cond.instanceMethod yJx4a65c_get_915e3, Cond.selects RJx4a65c yJx4a65c_get_915e3 yJx4a65c_get_915e3, Cond.code yJx4a65c_get_915e3 cJx4a65c_get_915e3 2 (some (.object "java/lang/Object"))]
def wsL_isSlowed_r2 : List Cond := [Cond.methodLink RJx4a65c 118 yJ15_checkIndex_7cf53, Cond.static yJ15_checkIndex_7cf53, Cond.initialized RJ15, Cond.code yJ15_checkIndex_7cf53 cJ15_checkIndex_7cf53 2 (some .int), Cond.methodLink RJ15 105 yJ3_checkIndex_8e157, Cond.static yJ3_checkIndex_8e157, Cond.initialized RJ3, Cond.code yJ3_checkIndex_8e157 cJ3_checkIndex_8e157 3 (some .int), Cond.methodLink RJx4a65c 123 yJx4a65c_elementData_915e3, Cond.instanceMethod yJx4a65c_elementData_915e3, Cond.selects RJx4a65c yJx4a65c_elementData_915e3 yJx4a65c_elementData_915e3, Cond.code yJx4a65c_elementData_915e3 cJx4a65c_elementData_915e3 2 (some (.object "java/lang/Object")), Cond.fieldLink RJx4a65c 9 "java/util/ArrayList" "elementData" "[Ljava/lang/Object;", Cond.instanceMethod yX1_refillsSlowly, Cond.initialized RX1, Cond.selects RX1 yX1_refillsSlowly yX1_refillsSlowly, Cond.code yX1_refillsSlowly cX1_refillsSlowly 1 (some .boolean), Cond.fieldLink RX1 31 "TollGateway$Key" "credit" "I", Cond.fieldLink RX1 43 "TollGateway$Key" "openHolds" "I"]
def wsL_isSlowed : List Cond := .codeWith yL_isSlowed cL_isSlowed 4 (some .int) [(0, 16, 19, 29)] :: ((wsL_isSlowed_r1 ++ wsL_isSlowed_r2) ++ wsX40 ++ wsJx4a65c0 ++ wsX10 ++ (vx_atS RX4 188 "java/lang/IndexOutOfBoundsException" ["java/lang/RuntimeException", "java/lang/Exception"]).filter goodWord)
def wsL_cost_r1 : List Cond := [Cond.classLink RL 29 "java/lang/IndexOutOfBoundsException", Cond.methodLink RL 66 yX4_cost, Cond.instanceMethod yX4_cost, Cond.selects RX4 yX4_cost yX4_cost, Cond.initialized RX4, Cond.code yX4_cost cX4_cost 2 (some .int), Cond.methodLink RX4 126 yX4_callAt, Cond.instanceMethod yX4_callAt, Cond.selects RX4 yX4_callAt yX4_callAt, Cond.code yX4_callAt cX4_callAt 2 (some (.object "TollGateway$Call")), Cond.classLink RX4 184 "java/lang/IndexOutOfBoundsException", Cond.initialized "java/lang/IndexOutOfBoundsException", Cond.fieldLink RX4 28 "TollGateway" "letThrough" "Ljava/util/ArrayList;", Cond.classLink RX4 118 "TollGateway$Call", Cond.methodLink RX4 63 yJx4a65c_size_8abf5, Cond.instanceMethod yJx4a65c_size_8abf5, Cond.selects RJx4a65c yJx4a65c_size_8abf5 yJx4a65c_size_8abf5, Cond.initialized RJx4a65c, Cond.code yJx4a65c_size_8abf5 cJx4a65c_size_8abf5 1 (some .int), Cond.fieldLink RJx4a65c 48 "java/util/ArrayList" "size" "I", Cond.methodLink RX4 189 yJx4a65c_get_915e3, Cond.instanceMethod yJx4a65c_get_915e3, Cond.selects RJx4a65c yJx4a65c_get_915e3 yJx4a65c_get_915e3, Cond.code yJx4a65c_get_915e3 cJx4a65c_get_915e3 2 (some (.object "java/lang/Object"))]
def wsL_cost_r2 : List Cond := [Cond.methodLink RJx4a65c 118 yJ15_checkIndex_7cf53, Cond.static yJ15_checkIndex_7cf53, Cond.initialized RJ15, Cond.code yJ15_checkIndex_7cf53 cJ15_checkIndex_7cf53 2 (some .int), Cond.methodLink RJ15 105 yJ3_checkIndex_8e157, Cond.static yJ3_checkIndex_8e157, Cond.initialized RJ3, Cond.code yJ3_checkIndex_8e157 cJ3_checkIndex_8e157 3 (some .int), Cond.methodLink RJx4a65c 123 yJx4a65c_elementData_915e3, Cond.instanceMethod yJx4a65c_elementData_915e3, Cond.selects RJx4a65c yJx4a65c_elementData_915e3 yJx4a65c_elementData_915e3, Cond.code yJx4a65c_elementData_915e3 cJx4a65c_elementData_915e3 2 (some (.object "java/lang/Object")), Cond.fieldLink RJx4a65c 9 "java/util/ArrayList" "elementData" "[Ljava/lang/Object;"]
def wsL_cost : List Cond := .codeWith yL_cost cL_cost 4 (some .int) [(0, 9, 12, 29)] :: ((wsL_cost_r1 ++ wsL_cost_r2) ++ wsX00 ++ wsX40 ++ wsJx4a65c0 ++ (vx_atS RX4 188 "java/lang/IndexOutOfBoundsException" ["java/lang/RuntimeException", "java/lang/Exception"]).filter goodWord)
def wsL_spent_r1 : List Cond := [Cond.classLink RL 29 "java/lang/IndexOutOfBoundsException", Cond.methodLink RL 69 yX4_spent, Cond.instanceMethod yX4_spent, Cond.selects RX4 yX4_spent yX4_spent, Cond.initialized RX4, Cond.code yX4_spent cX4_spent 2 (some .int), Cond.methodLink RX4 82 yX4_keyAt, Cond.instanceMethod yX4_keyAt, Cond.selects RX4 yX4_keyAt yX4_keyAt, Cond.code yX4_keyAt cX4_keyAt 2 (some (.object "TollGateway$Key")), Cond.classLink RX4 184 "java/lang/IndexOutOfBoundsException", Cond.initialized "java/lang/IndexOutOfBoundsException", Cond.fieldLink RX4 24 "TollGateway" "keys" "Ljava/util/ArrayList;", Cond.classLink RX4 73 "TollGateway$Key", Cond.methodLink RX4 63 yJx4a65c_size_8abf5, Cond.instanceMethod yJx4a65c_size_8abf5, Cond.selects RJx4a65c yJx4a65c_size_8abf5 yJx4a65c_size_8abf5, Cond.initialized RJx4a65c, Cond.code yJx4a65c_size_8abf5 cJx4a65c_size_8abf5 1 (some .int), Cond.fieldLink RJx4a65c 48 "java/util/ArrayList" "size" "I", Cond.methodLink RX4 189 yJx4a65c_get_915e3, Cond.instanceMethod yJx4a65c_get_915e3, Cond.selects RJx4a65c yJx4a65c_get_915e3 yJx4a65c_get_915e3, Cond.code yJx4a65c_get_915e3 cJx4a65c_get_915e3 2 (some (.object "java/lang/Object"))]
def wsL_spent_r2 : List Cond := [Cond.methodLink RJx4a65c 118 yJ15_checkIndex_7cf53, Cond.static yJ15_checkIndex_7cf53, Cond.initialized RJ15, Cond.code yJ15_checkIndex_7cf53 cJ15_checkIndex_7cf53 2 (some .int), Cond.methodLink RJ15 105 yJ3_checkIndex_8e157, Cond.static yJ3_checkIndex_8e157, Cond.initialized RJ3, Cond.code yJ3_checkIndex_8e157 cJ3_checkIndex_8e157 3 (some .int), Cond.methodLink RJx4a65c 123 yJx4a65c_elementData_915e3, Cond.instanceMethod yJx4a65c_elementData_915e3, Cond.selects RJx4a65c yJx4a65c_elementData_915e3 yJx4a65c_elementData_915e3, Cond.code yJx4a65c_elementData_915e3 cJx4a65c_elementData_915e3 2 (some (.object "java/lang/Object")), Cond.fieldLink RJx4a65c 9 "java/util/ArrayList" "elementData" "[Ljava/lang/Object;"]
def wsL_spent : List Cond := .codeWith yL_spent cL_spent 4 (some .int) [(0, 9, 12, 29)] :: ((wsL_spent_r1 ++ wsL_spent_r2) ++ wsX10 ++ wsX40 ++ wsJx4a65c0 ++ (vx_atS RX4 188 "java/lang/IndexOutOfBoundsException" ["java/lang/RuntimeException", "java/lang/Exception"]).filter goodWord)
def wsL_paid_r1 : List Cond := [Cond.classLink RL 29 "java/lang/IndexOutOfBoundsException", Cond.methodLink RL 72 yX4_paid, Cond.instanceMethod yX4_paid, Cond.selects RX4 yX4_paid yX4_paid, Cond.initialized RX4, Cond.code yX4_paid cX4_paid 2 (some .int), Cond.methodLink RX4 82 yX4_keyAt, Cond.instanceMethod yX4_keyAt, Cond.selects RX4 yX4_keyAt yX4_keyAt, Cond.code yX4_keyAt cX4_keyAt 2 (some (.object "TollGateway$Key")), Cond.classLink RX4 184 "java/lang/IndexOutOfBoundsException", Cond.initialized "java/lang/IndexOutOfBoundsException", Cond.fieldLink RX4 24 "TollGateway" "keys" "Ljava/util/ArrayList;", Cond.classLink RX4 73 "TollGateway$Key", Cond.methodLink RX4 63 yJx4a65c_size_8abf5, Cond.instanceMethod yJx4a65c_size_8abf5, Cond.selects RJx4a65c yJx4a65c_size_8abf5 yJx4a65c_size_8abf5, Cond.initialized RJx4a65c, Cond.code yJx4a65c_size_8abf5 cJx4a65c_size_8abf5 1 (some .int), Cond.fieldLink RJx4a65c 48 "java/util/ArrayList" "size" "I", Cond.methodLink RX4 189 yJx4a65c_get_915e3, Cond.instanceMethod yJx4a65c_get_915e3, Cond.selects RJx4a65c yJx4a65c_get_915e3 yJx4a65c_get_915e3, Cond.code yJx4a65c_get_915e3 cJx4a65c_get_915e3 2 (some (.object "java/lang/Object"))]
def wsL_paid_r2 : List Cond := [Cond.methodLink RJx4a65c 118 yJ15_checkIndex_7cf53, Cond.static yJ15_checkIndex_7cf53, Cond.initialized RJ15, Cond.code yJ15_checkIndex_7cf53 cJ15_checkIndex_7cf53 2 (some .int), Cond.methodLink RJ15 105 yJ3_checkIndex_8e157, Cond.static yJ3_checkIndex_8e157, Cond.initialized RJ3, Cond.code yJ3_checkIndex_8e157 cJ3_checkIndex_8e157 3 (some .int), Cond.methodLink RJx4a65c 123 yJx4a65c_elementData_915e3, Cond.instanceMethod yJx4a65c_elementData_915e3, Cond.selects RJx4a65c yJx4a65c_elementData_915e3 yJx4a65c_elementData_915e3, Cond.code yJx4a65c_elementData_915e3 cJx4a65c_elementData_915e3 2 (some (.object "java/lang/Object")), Cond.fieldLink RJx4a65c 9 "java/util/ArrayList" "elementData" "[Ljava/lang/Object;"]
def wsL_paid : List Cond := .codeWith yL_paid cL_paid 4 (some .int) [(0, 9, 12, 29)] :: ((wsL_paid_r1 ++ wsL_paid_r2) ++ wsX10 ++ wsX40 ++ wsJx4a65c0 ++ (vx_atS RX4 188 "java/lang/IndexOutOfBoundsException" ["java/lang/RuntimeException", "java/lang/Exception"]).filter goodWord)
def wsL_law0_r1 : List Cond := [Cond.classLink RL 8 RX4, Cond.instantiable RX4 6, Cond.initialized RX4, Cond.classLink RL 76 RX5, Cond.instantiable RX5 23, Cond.initialized RX5, Cond.arrayClass .long, Cond.methodLink RL 75 yX4_init, Cond.instanceMethod yX4_init, Cond.code yX4_init cX4_init 2 none, Cond.methodLink RX4 1 objectInit, Cond.instanceMethod objectInit, Cond.code objectInit ⟨#[0xb1]⟩ 1 none, Cond.classLink RX4 9 RX2, Cond.fieldLink RX4 11 "TollGateway" "plans" "[LTollGateway$Plan;", Cond.classLink RX4 15 RX3, Cond.fieldLink RX4 17 "TollGateway" "routes" "[LTollGateway$Route;", Cond.classLink RX4 21 RJx4a65c, Cond.instantiable RJx4a65c 3, Cond.initialized RJx4a65c, Cond.fieldLink RX4 24 "TollGateway" "keys" "Ljava/util/ArrayList;", Cond.fieldLink RX4 28 "TollGateway" "letThrough" "Ljava/util/ArrayList;", Cond.instantiable RX2 4, Cond.initialized RX2]
def wsL_law0_r2 : List Cond := [Cond.instantiable RX3 2, Cond.initialized RX3, Cond.methodLink RX4 23 yJx4a65c_init_da8c8, Cond.instanceMethod yJx4a65c_init_da8c8, Cond.code yJx4a65c_init_da8c8 cJx4a65c_init_da8c8 1 none, Cond.fieldLink RJx4a65c 39 "java/util/ArrayList" "DEFAULTCAPACITY_EMPTY_ELEMENTDATA" "[Ljava/lang/Object;", Cond.fieldLink RJx4a65c 9 "java/util/ArrayList" "elementData" "[Ljava/lang/Object;", Cond.methodLink RJx4a65c 1 yJxc12de_init_da8c8, Cond.instanceMethod yJxc12de_init_da8c8, Cond.initialized RJxc12de, Cond.code yJxc12de_init_da8c8 cJxc12de_init_da8c8 1 none, Cond.fieldLink RJxc12de 7 "java/util/AbstractList" "modCount" "I", Cond.methodLink RJxc12de 1 yJxa1e45_init_da8c8, Cond.instanceMethod yJxa1e45_init_da8c8, Cond.initialized RJxa1e45, Cond.code yJxa1e45_init_da8c8 cJxa1e45_init_da8c8 1 none, Cond.methodLink RJxa1e45 1 objectInit, Cond.instanceMethod yX2_init, Cond.code yX2_init cX2_init 2 none, Cond.methodLink RX2 1 objectInit, Cond.fieldLink RX2 7 "TollGateway$Plan" "size" "I", Cond.fieldLink RX2 13 "TollGateway$Plan" "refill" "I", Cond.fieldLink RX2 16 "TollGateway$Plan" "slowRefill" "I", Cond.fieldLink RX2 19 "TollGateway$Plan" "number" "I"]
def wsL_law0_r3 : List Cond := [Cond.instanceMethod yX3_init, Cond.code yX3_init cX3_init 1 none, Cond.methodLink RX3 1 objectInit, Cond.fieldLink RX3 7 "TollGateway$Route" "price" "I", Cond.fieldLink RX3 13 "TollGateway$Route" "weight" "I", Cond.methodLink RL 78 yX5_init, Cond.instanceMethod yX5_init, Cond.code yX5_init cX5_init 1 none, Cond.methodLink RX5 1 objectInit, Cond.arrayClass .int, Cond.fieldLink RX5 7 "TollGatewayModel" "sizes" "[I", Cond.fieldLink RX5 13 "TollGatewayModel" "refills" "[I", Cond.fieldLink RX5 16 "TollGatewayModel" "slows" "[I", Cond.fieldLink RX5 19 "TollGatewayModel" "prices" "[I", Cond.fieldLink RX5 22 "TollGatewayModel" "weights" "[I", Cond.fieldLink RX5 25 "TollGatewayModel" "plans" "[I", Cond.fieldLink RX5 28 "TollGatewayModel" "credits" "[I", Cond.fieldLink RX5 31 "TollGatewayModel" "lines" "[I", Cond.fieldLink RX5 34 "TollGatewayModel" "debts" "[I", Cond.fieldLink RX5 37 "TollGatewayModel" "tokens" "[I", Cond.fieldLink RX5 40 "TollGatewayModel" "paid" "[I", Cond.fieldLink RX5 43 "TollGatewayModel" "callers" "[I", Cond.fieldLink RX5 46 "TollGatewayModel" "worths" "[I", Cond.fieldLink RX5 49 "TollGatewayModel" "took" "[I"]
def wsL_law0_r4 : List Cond := [Cond.fieldLink RX5 52 "TollGatewayModel" "begun" "[I", Cond.fieldLink RX5 55 "TollGatewayModel" "costs" "[I", Cond.fieldLink RX5 58 "TollGatewayModel" "endedAt" "[I", Cond.arrayClass .boolean, Cond.fieldLink RX5 61 "TollGatewayModel" "hasEnded" "[Z", Cond.fieldLink RX5 65 "TollGatewayModel" "isDisputed" "[Z", Cond.methodLink RL 79 yL_setPlan, Cond.static yL_setPlan, Cond.initialized RL, Cond.codeWith yL_setPlan cL_setPlan 6 (some .int) [(0, 9, 12, 13)], Cond.classLink RL 13 "java/lang/IllegalArgumentException", Cond.methodLink RL 7 yX4_setPlan, Cond.instanceMethod yX4_setPlan, Cond.selects RX4 yX4_setPlan yX4_setPlan, Cond.code yX4_setPlan cX4_setPlan 6 none, Cond.methodLink RX4 35 yX4_planAt, Cond.instanceMethod yX4_planAt, Cond.selects RX4 yX4_planAt yX4_planAt, Cond.code yX4_planAt cX4_planAt 2 (some (.object "TollGateway$Plan")), Cond.classLink RX4 177 "java/lang/IllegalArgumentException", Cond.initialized "java/lang/IllegalArgumentException", Cond.methodLink RX4 39 yX4_refuseOutside, Cond.static yX4_refuseOutside, Cond.code yX4_refuseOutside cX4_refuseOutside 3 none]
def wsL_law0_r5 : List Cond := [Cond.methodLink RL 84 yX5_setPlan, Cond.instanceMethod yX5_setPlan, Cond.selects RX5 yX5_setPlan yX5_setPlan, Cond.code yX5_setPlan cX5_setPlan 5 none, Cond.methodLink RX5 82 yX5_isPlan, Cond.static yX5_isPlan, Cond.code yX5_isPlan cX5_isPlan 1 (some .boolean), Cond.methodLink RX5 72 yX5_in, Cond.static yX5_in, Cond.code yX5_in cX5_in 3 (some .boolean), Cond.methodLink RX5 86 yX5_goesWell, Cond.instanceMethod yX5_goesWell, Cond.selects RX5 yX5_goesWell yX5_goesWell, Cond.code yX5_goesWell cX5_goesWell 2 (some .boolean), Cond.fieldLink RX5 68 "TollGatewayModel" "thrown" "I", Cond.methodLink RL 85 yX5_thrown, Cond.instanceMethod yX5_thrown, Cond.selects RX5 yX5_thrown yX5_thrown, Cond.code yX5_thrown cX5_thrown 1 (some .int), Cond.methodLink RL 89 yL_setRoute, Cond.static yL_setRoute, Cond.codeWith yL_setRoute cL_setRoute 5 (some .int) [(0, 7, 10, 13)], Cond.methodLink RL 15 yX4_setRoute, Cond.instanceMethod yX4_setRoute]
def wsL_law0_r6 : List Cond := [Cond.selects RX4 yX4_setRoute yX4_setRoute, Cond.code yX4_setRoute cX4_setRoute 5 none, Cond.methodLink RX4 53 yX4_routeAt, Cond.instanceMethod yX4_routeAt, Cond.selects RX4 yX4_routeAt yX4_routeAt, Cond.code yX4_routeAt cX4_routeAt 2 (some (.object "TollGateway$Route")), Cond.methodLink RL 92 yX5_setRoute, Cond.instanceMethod yX5_setRoute, Cond.selects RX5 yX5_setRoute yX5_setRoute, Cond.code yX5_setRoute cX5_setRoute 4 none, Cond.methodLink RX5 89 yX5_isRoute, Cond.static yX5_isRoute, Cond.code yX5_isRoute cX5_isRoute 1 (some .boolean), Cond.methodLink RL 93 yL_addKey, Cond.static yL_addKey, Cond.codeWith yL_addKey cL_addKey 4 (some .int) [(0, 9, 12, 13), (0, 9, 15, 23)], Cond.classLink RL 23 "java/lang/IllegalStateException", Cond.methodLink RL 19 yX4_addKey, Cond.instanceMethod yX4_addKey, Cond.selects RX4 yX4_addKey yX4_addKey, Cond.code yX4_addKey cX4_addKey 3 (some .int), Cond.classLink RX4 66 "java/lang/IllegalStateException", Cond.initialized "java/lang/IllegalStateException", Cond.classLink RX4 73 RX1]
def wsL_law0_r7 : List Cond := [Cond.instantiable RX1 9, Cond.initialized RX1, Cond.methodLink RX4 63 yJx4a65c_size_8abf5, Cond.instanceMethod yJx4a65c_size_8abf5, Cond.selects RJx4a65c yJx4a65c_size_8abf5 yJx4a65c_size_8abf5, Cond.code yJx4a65c_size_8abf5 cJx4a65c_size_8abf5 1 (some .int), Cond.fieldLink RJx4a65c 48 "java/util/ArrayList" "size" "I", Cond.instanceMethod yX1_init, Cond.code yX1_init cX1_init 2 none, Cond.methodLink RX1 1 objectInit, Cond.fieldLink RX1 7 "TollGateway$Key" "plan" "LTollGateway$Plan;", Cond.fieldLink RX1 19 "TollGateway$Key" "tokens" "I", Cond.methodLink RX4 78 yJx4a65c_add_9ea2d, Cond.instanceMethod yJx4a65c_add_9ea2d, Cond.selects RJx4a65c yJx4a65c_add_9ea2d yJx4a65c_add_9ea2d, Cond.code yJx4a65c_add_9ea2d cJx4a65c_add_9ea2d 2 (some .boolean), Cond.fieldLink RJx4a65c 63 "java/util/ArrayList" "modCount" "I", Cond.sameField "java/util/ArrayList" "java/util/AbstractList" "modCount" "I", Cond.methodLink RJx4a65c 131 yJx4a65c_add_72be8, Cond.instanceMethod yJx4a65c_add_72be8, Cond.selects RJx4a65c yJx4a65c_add_72be8 yJx4a65c_add_72be8, Cond.code yJx4a65c_add_72be8 cJx4a65c_add_72be8 4 none, Cond.methodLink RJx4a65c 129 yJx4a65c_grow_d5877, Cond.instanceMethod yJx4a65c_grow_d5877]
def wsL_law0_r8 : List Cond := [Cond.selects RJx4a65c yJx4a65c_grow_d5877 yJx4a65c_grow_d5877, Cond.code yJx4a65c_grow_d5877 cJx4a65c_grow_d5877 1 (some (.array (.object "java/lang/Object"))), Cond.methodLink RJx4a65c 69 yJx4a65c_grow_92f84, Cond.instanceMethod yJx4a65c_grow_92f84, Cond.selects RJx4a65c yJx4a65c_grow_92f84 yJx4a65c_grow_92f84, Cond.code yJx4a65c_grow_92f84 cJx4a65c_grow_92f84 4 (some (.array (.object "java/lang/Object"))), Cond.methodLink RJx4a65c 79 Lib.Math.max.name, Cond.static Lib.Math.max.name, Cond.initialized "java/lang/Math", Cond.code Lib.Math.max.name Lib.Math.max.code 2 (some .int), Cond.classLink RJx4a65c 7 "java/lang/Object", Cond.methodLink RJx4a65c 73 yJ8_newLength_cabcc, Cond.static yJ8_newLength_cabcc, Cond.initialized RJ8, Cond.code yJ8_newLength_cabcc cJ8_newLength_cabcc 4 (some .int), Cond.methodLink RJ8 194 Lib.Math.max.name, Cond.constant RJ8 200 (2147483639), Cond.methodLink RJ8 201 yJ8_hugeLength_7cf53, Cond.static yJ8_hugeLength_7cf53, Cond.code yJ8_hugeLength_7cf53 cJ8_hugeLength_7cf53 3 (some .int), Cond.methodLink RJx4a65c 66 yJ7_copyOf_1904c, Cond.static yJ7_copyOf_1904c, Cond.initialized RJ7, Cond.code yJ7_copyOf_1904c cJ7_copyOf_1904c 2 (some (.array (.object "java/lang/Object")))]
def wsL_law0_r9 : List Cond := [Cond.methodLink RJ7 86 ⟨"java/lang/Object", "getClass", "()Ljava/lang/Class;"⟩, Cond.selects "[Ljava/lang/Object;" ⟨"java/lang/Object", "getClass", "()Ljava/lang/Class;"⟩ ⟨"java/lang/Object", "getClass", "()Ljava/lang/Class;"⟩, Cond.instanceMethod ⟨"java/lang/Object", "getClass", "()Ljava/lang/Class;"⟩, Cond.native ⟨"java/lang/Object", "getClass", "()Ljava/lang/Class;"⟩, Cond.methodLink RJ7 300 yJ7_copyOf_6403c, Cond.static yJ7_copyOf_6403c, Cond.code yJ7_copyOf_6403c cJ7_copyOf_6403c 4 (some (.array (.object "java/lang/Object"))), Cond.classLink RJ7 110 "[Ljava/lang/Object;", Cond.classLink RJ7 2 "java/lang/Object", Cond.methodLink RJ7 304 Lib.Math.min.name, Cond.static Lib.Math.min.name, Cond.code Lib.Math.min.name Lib.Math.min.code 2 (some .int), Cond.methodLink RJ7 150 arraycopyName, Cond.native arraycopyName, Cond.static arraycopyName, Cond.initialized "java/lang/System", Cond.methodLink RL 96 yX5_addKey, Cond.instanceMethod yX5_addKey, Cond.selects RX5 yX5_addKey yX5_addKey, Cond.code yX5_addKey cX5_addKey 2 (some .int), Cond.fieldLink RX5 76 "TollGatewayModel" "keys" "I", Cond.methodLink RL 97 yL_setKeyPlan, Cond.static yL_setKeyPlan, Cond.codeWith yL_setKeyPlan cL_setKeyPlan 5 (some .int) [(0, 10, 13, 29), (0, 10, 17, 13)]]
def wsL_law0_r10 : List Cond := [Cond.classLink RL 29 "java/lang/IndexOutOfBoundsException", Cond.methodLink RL 25 yX4_setKeyPlan, Cond.instanceMethod yX4_setKeyPlan, Cond.selects RX4 yX4_setKeyPlan yX4_setKeyPlan, Cond.code yX4_setKeyPlan cX4_setKeyPlan 6 (some .int), Cond.methodLink RX4 82 yX4_keyAt, Cond.instanceMethod yX4_keyAt, Cond.selects RX4 yX4_keyAt yX4_keyAt, Cond.code yX4_keyAt cX4_keyAt 2 (some (.object "TollGateway$Key")), Cond.classLink RX4 184 "java/lang/IndexOutOfBoundsException", Cond.initialized "java/lang/IndexOutOfBoundsException", Cond.classLink RX4 73 "TollGateway$Key", Cond.methodLink RX4 189 yJx4a65c_get_915e3, Cond.instanceMethod yJx4a65c_get_915e3, Cond.selects RJx4a65c yJx4a65c_get_915e3 yJx4a65c_get_915e3, Cond.code yJx4a65c_get_915e3 cJx4a65c_get_915e3 2 (some (.object "java/lang/Object")), Cond.methodLink RJx4a65c 118 yJ15_checkIndex_7cf53, Cond.static yJ15_checkIndex_7cf53, Cond.initialized RJ15, Cond.code yJ15_checkIndex_7cf53 cJ15_checkIndex_7cf53 2 (some .int), Cond.methodLink RJ15 105 yJ3_checkIndex_8e157, Cond.static yJ3_checkIndex_8e157, Cond.initialized RJ3, Cond.code yJ3_checkIndex_8e157 cJ3_checkIndex_8e157 3 (some .int)]
def wsL_law0_r11 : List Cond := [Cond.methodLink RJx4a65c 123 yJx4a65c_elementData_915e3, Cond.instanceMethod yJx4a65c_elementData_915e3, Cond.selects RJx4a65c yJx4a65c_elementData_915e3 yJx4a65c_elementData_915e3, Cond.code yJx4a65c_elementData_915e3 cJx4a65c_elementData_915e3 2 (some (.object "java/lang/Object")), Cond.methodLink RL 100 yX5_setKeyPlan, Cond.instanceMethod yX5_setKeyPlan, Cond.selects RX5 yX5_setKeyPlan yX5_setKeyPlan, Cond.code yX5_setKeyPlan cX5_setKeyPlan 4 (some .int), Cond.methodLink RX5 92 yX5_isKey, Cond.instanceMethod yX5_isKey, Cond.selects RX5 yX5_isKey yX5_isKey, Cond.code yX5_isKey cX5_isKey 2 (some .boolean), Cond.methodLink RL 101 yL_setTrust, Cond.static yL_setTrust, Cond.codeWith yL_setTrust cL_setTrust 5 (some .int) [(0, 10, 13, 29), (0, 10, 17, 13)], Cond.methodLink RL 31 yX4_setTrust, Cond.instanceMethod yX4_setTrust, Cond.selects RX4 yX4_setTrust yX4_setTrust, Cond.code yX4_setTrust cX4_setTrust 5 (some .int), Cond.methodLink RL 103 yX5_setTrust, Cond.instanceMethod yX5_setTrust, Cond.selects RX5 yX5_setTrust yX5_setTrust, Cond.code yX5_setTrust cX5_setTrust 4 (some .int), Cond.methodLink RL 104 yL_pay]
def wsL_law0_r12 : List Cond := [Cond.static yL_pay, Cond.codeWith yL_pay cL_pay 5 (some .int) [(0, 10, 13, 29), (0, 10, 17, 13)], Cond.methodLink RL 34 yX4_pay, Cond.instanceMethod yX4_pay, Cond.selects RX4 yX4_pay yX4_pay, Cond.code yX4_pay cX4_pay 4 (some .int), Cond.constant RX4 96 (100000), Cond.instanceMethod yX1_receive, Cond.selects RX1 yX1_receive yX1_receive, Cond.code yX1_receive cX1_receive 3 none, Cond.fieldLink RX1 22 "TollGateway$Key" "debt" "I", Cond.methodLink RX1 25 Lib.Math.min.name, Cond.fieldLink RX1 31 "TollGateway$Key" "credit" "I", Cond.methodLink RL 106 yX5_pay, Cond.instanceMethod yX5_pay, Cond.selects RX5 yX5_pay yX5_pay, Cond.code yX5_pay cX5_pay 3 (some .int), Cond.constant RX5 95 (100000), Cond.methodLink RX5 96 yX5_give, Cond.instanceMethod yX5_give, Cond.selects RX5 yX5_give yX5_give, Cond.code yX5_give cX5_give 4 none, Cond.methodLink RL 107 yL_call, Cond.static yL_call]
def wsL_law0_r13 : List Cond := [Cond.codeWith yL_call cL_call 6 (some .int) [(0, 12, 15, 29), (0, 12, 19, 13), (0, 12, 23, 23)], Cond.methodLink RL 37 yX4_call, Cond.instanceMethod yX4_call, Cond.selects RX4 yX4_call yX4_call, Cond.code yX4_call cX4_call 7 (some .int), Cond.classLink RX4 118 RX0, Cond.instantiable RX0 7, Cond.initialized RX0, Cond.fieldLink RX4 120 "TollGateway" "tick" "I", Cond.instanceMethod yX1_canCover, Cond.selects RX1 yX1_canCover yX1_canCover, Cond.code yX1_canCover cX1_canCover 3 (some .boolean), Cond.fieldLink RX1 34 "TollGateway$Key" "trustLine" "I", Cond.methodLink RX1 37 Lib.Math.max.name, Cond.instanceMethod yX1_openHold, Cond.selects RX1 yX1_openHold yX1_openHold, Cond.code yX1_openHold cX1_openHold 3 none, Cond.fieldLink RX1 40 "TollGateway$Key" "held" "I", Cond.fieldLink RX1 43 "TollGateway$Key" "openHolds" "I", Cond.instanceMethod yX0_init, Cond.code yX0_init cX0_init 5 none, Cond.methodLink RX0 3 objectInit, Cond.fieldLink RX0 9 "TollGateway$Call" "cost" "I", Cond.fieldLink RX0 15 "TollGateway$Call" "key" "LTollGateway$Key;"]
def wsL_law0_r14 : List Cond := [Cond.fieldLink RX0 19 "TollGateway$Call" "worth" "I", Cond.fieldLink RX0 22 "TollGateway$Call" "weight" "I", Cond.fieldLink RX0 25 "TollGateway$Call" "dueTick" "I", Cond.methodLink RL 110 yX5_call, Cond.instanceMethod yX5_call, Cond.selects RX5 yX5_call yX5_call, Cond.code yX5_call cX5_call 7 (some .int), Cond.fieldLink RX5 79 "TollGatewayModel" "calls" "I", Cond.fieldLink RX5 104 "TollGatewayModel" "tick" "I", Cond.methodLink RX5 100 yX5_leftOf, Cond.instanceMethod yX5_leftOf, Cond.selects RX5 yX5_leftOf yX5_leftOf, Cond.code yX5_leftOf cX5_leftOf 2 (some .int), Cond.methodLink RL 111 yL_end, Cond.static yL_end, Cond.codeWith yL_end cL_end 5 (some .int) [(0, 10, 13, 29), (0, 10, 17, 13), (0, 10, 21, 23)], Cond.methodLink RL 41 yX4_end, Cond.instanceMethod yX4_end, Cond.selects RX4 yX4_end yX4_end, Cond.code yX4_end cX4_end 4 (some .int), Cond.methodLink RX4 126 yX4_callAt, Cond.instanceMethod yX4_callAt, Cond.selects RX4 yX4_callAt yX4_callAt, Cond.code yX4_callAt cX4_callAt 2 (some (.object "TollGateway$Call"))]
def wsL_law0_r15 : List Cond := [Cond.classLink RX4 118 "TollGateway$Call", Cond.instanceMethod yX0_hasEnded, Cond.selects RX0 yX0_hasEnded yX0_hasEnded, Cond.code yX0_hasEnded cX0_hasEnded 1 (some .boolean), Cond.instanceMethod yX0_settle, Cond.selects RX0 yX0_settle yX0_settle, Cond.code yX0_settle cX0_settle 3 none, Cond.fieldLink RX0 32 "TollGateway$Call" "endTick" "I", Cond.methodLink RX0 28 yX0_costOf, Cond.instanceMethod yX0_costOf, Cond.selects RX0 yX0_costOf yX0_costOf, Cond.code yX0_costOf cX0_costOf 2 (some .int), Cond.instanceMethod yX1_closeHold, Cond.selects RX1 yX1_closeHold yX1_closeHold, Cond.code yX1_closeHold cX1_closeHold 3 none, Cond.fieldLink RX1 46 "TollGateway$Key" "spent" "I", Cond.methodLink RX1 49 yX1_receive, Cond.methodLink RL 113 yX5_end, Cond.instanceMethod yX5_end, Cond.selects RX5 yX5_end yX5_end, Cond.code yX5_end cX5_end 5 (some .int), Cond.methodLink RX5 107 yX5_isCall, Cond.instanceMethod yX5_isCall, Cond.selects RX5 yX5_isCall yX5_isCall]
def wsL_law0_r16 : List Cond := [Cond.code yX5_isCall cX5_isCall 2 (some .boolean), Cond.methodLink RX5 110 yX5_settle, Cond.instanceMethod yX5_settle, Cond.selects RX5 yX5_settle yX5_settle, Cond.code yX5_settle cX5_settle 3 none, Cond.methodLink RL 114 yL_dispute, Cond.static yL_dispute, Cond.codeWith yL_dispute cL_dispute 4 (some .int) [(0, 9, 12, 29), (0, 9, 15, 23)], Cond.methodLink RL 44 yX4_dispute, Cond.instanceMethod yX4_dispute, Cond.selects RX4 yX4_dispute yX4_dispute, Cond.code yX4_dispute cX4_dispute 3 (some .int), Cond.instanceMethod yX0_giveBack, Cond.selects RX0 yX0_giveBack yX0_giveBack, Cond.code yX0_giveBack cX0_giveBack 2 (some .int), Cond.fieldLink RX0 41 "TollGateway$Call" "wasDisputed" "Z", Cond.methodLink RL 116 yX5_dispute, Cond.instanceMethod yX5_dispute, Cond.selects RX5 yX5_dispute yX5_dispute, Cond.code yX5_dispute cX5_dispute 5 (some .int), Cond.methodLink RL 117 yL_pass, Cond.static yL_pass, Cond.codeWith yL_pass cL_pass 4 (some .int) [(0, 9, 12, 13)], Cond.methodLink RL 47 yX4_pass]
def wsL_law0_r17 : List Cond := [Cond.instanceMethod yX4_pass, Cond.selects RX4 yX4_pass yX4_pass, Cond.code yX4_pass cX4_pass 4 (some .int), Cond.methodLink RX4 159 yX4_runOutHolds, Cond.instanceMethod yX4_runOutHolds, Cond.selects RX4 yX4_runOutHolds yX4_runOutHolds, Cond.code yX4_runOutHolds cX4_runOutHolds 3 (some .int), Cond.fieldLink RX4 197 "TollGateway" "nextToRunOut" "I", Cond.methodLink RX4 162 yX4_refillBuckets, Cond.instanceMethod yX4_refillBuckets, Cond.selects RX4 yX4_refillBuckets yX4_refillBuckets, Cond.code yX4_refillBuckets cX4_refillBuckets 2 none, Cond.instanceMethod yX1_refillBucket, Cond.selects RX1 yX1_refillBucket yX1_refillBucket, Cond.code yX1_refillBucket cX1_refillBucket 2 none, Cond.methodLink RX1 53 yX1_refillsSlowly, Cond.instanceMethod yX1_refillsSlowly, Cond.selects RX1 yX1_refillsSlowly yX1_refillsSlowly, Cond.code yX1_refillsSlowly cX1_refillsSlowly 1 (some .boolean), Cond.methodLink RL 119 yX5_pass, Cond.instanceMethod yX5_pass, Cond.selects RX5 yX5_pass yX5_pass, Cond.code yX5_pass cX5_pass 4 (some .int), Cond.methodLink RX5 116 yX5_passOne]
def wsL_law0_r18 : List Cond := [Cond.instanceMethod yX5_passOne, Cond.selects RX5 yX5_passOne yX5_passOne, Cond.code yX5_passOne cX5_passOne 6 (some .int), Cond.methodLink RX5 113 yX5_isSlow, Cond.instanceMethod yX5_isSlow, Cond.selects RX5 yX5_isSlow yX5_isSlow, Cond.code yX5_isSlow cX5_isSlow 4 (some .boolean), Cond.methodLink RL 120 yX4_now, Cond.instanceMethod yX4_now, Cond.selects RX4 yX4_now yX4_now, Cond.code yX4_now cX4_now 1 (some .int), Cond.methodLink RL 123 yX5_now, Cond.instanceMethod yX5_now, Cond.selects RX5 yX5_now yX5_now, Cond.code yX5_now cX5_now 1 (some .int), Cond.methodLink RL 124 yX4_calls, Cond.instanceMethod yX4_calls, Cond.selects RX4 yX4_calls yX4_calls, Cond.code yX4_calls cX4_calls 1 (some .int), Cond.methodLink RL 127 yX5_calls, Cond.instanceMethod yX5_calls, Cond.selects RX5 yX5_calls yX5_calls, Cond.code yX5_calls cX5_calls 1 (some .int), Cond.methodLink RL 128 yL_credit]
def wsL_law0_r19 : List Cond := [Cond.static yL_credit, Cond.codeWith yL_credit cL_credit 4 (some .int) [(0, 9, 12, 29)], Cond.methodLink RL 50 yX4_credit, Cond.instanceMethod yX4_credit, Cond.selects RX4 yX4_credit yX4_credit, Cond.code yX4_credit cX4_credit 2 (some .int), Cond.methodLink RL 130 yX5_credit, Cond.instanceMethod yX5_credit, Cond.selects RX5 yX5_credit yX5_credit, Cond.code yX5_credit cX5_credit 2 (some .int), Cond.methodLink RL 131 yL_debt, Cond.static yL_debt, Cond.codeWith yL_debt cL_debt 4 (some .int) [(0, 9, 12, 29)], Cond.methodLink RL 53 yX4_debt, Cond.instanceMethod yX4_debt, Cond.selects RX4 yX4_debt yX4_debt, Cond.code yX4_debt cX4_debt 2 (some .int), Cond.methodLink RL 133 yX5_debt, Cond.instanceMethod yX5_debt, Cond.selects RX5 yX5_debt yX5_debt, Cond.code yX5_debt cX5_debt 2 (some .int), Cond.methodLink RL 134 yL_held, Cond.static yL_held, Cond.codeWith yL_held cL_held 4 (some .int) [(0, 9, 12, 29)]]
def wsL_law0_r20 : List Cond := [Cond.methodLink RL 56 yX4_held, Cond.instanceMethod yX4_held, Cond.selects RX4 yX4_held yX4_held, Cond.code yX4_held cX4_held 2 (some .int), Cond.methodLink RL 136 yX5_held, Cond.instanceMethod yX5_held, Cond.selects RX5 yX5_held yX5_held, Cond.code yX5_held cX5_held 4 (some .int), Cond.methodLink RL 137 yL_tokens, Cond.static yL_tokens, Cond.codeWith yL_tokens cL_tokens 4 (some .int) [(0, 9, 12, 29)], Cond.methodLink RL 59 yX4_tokens, Cond.instanceMethod yX4_tokens, Cond.selects RX4 yX4_tokens yX4_tokens, Cond.code yX4_tokens cX4_tokens 2 (some .int), Cond.methodLink RL 139 yX5_tokens, Cond.instanceMethod yX5_tokens, Cond.selects RX5 yX5_tokens yX5_tokens, Cond.code yX5_tokens cX5_tokens 2 (some .int), Cond.methodLink RL 140 yL_isSlowed, Cond.static yL_isSlowed, Cond.codeWith yL_isSlowed cL_isSlowed 4 (some .int) [(0, 16, 19, 29)], Cond.methodLink RL 62 yX4_isSlowed, Cond.instanceMethod yX4_isSlowed]
def wsL_law0_r21 : List Cond := [Cond.selects RX4 yX4_isSlowed yX4_isSlowed, Cond.code yX4_isSlowed cX4_isSlowed 2 (some .boolean), Cond.methodLink RL 142 yX5_isSlowed, Cond.instanceMethod yX5_isSlowed, Cond.selects RX5 yX5_isSlowed yX5_isSlowed, Cond.code yX5_isSlowed cX5_isSlowed 2 (some .boolean), Cond.methodLink RL 143 yL_cost, Cond.static yL_cost, Cond.codeWith yL_cost cL_cost 4 (some .int) [(0, 9, 12, 29)], Cond.methodLink RL 66 yX4_cost, Cond.instanceMethod yX4_cost, Cond.selects RX4 yX4_cost yX4_cost, Cond.code yX4_cost cX4_cost 2 (some .int), Cond.methodLink RL 145 yX5_cost, Cond.instanceMethod yX5_cost, Cond.selects RX5 yX5_cost yX5_cost, Cond.code yX5_cost cX5_cost 2 (some .int), Cond.methodLink RL 146 yL_spent, Cond.static yL_spent, Cond.codeWith yL_spent cL_spent 4 (some .int) [(0, 9, 12, 29)], Cond.methodLink RL 69 yX4_spent, Cond.instanceMethod yX4_spent, Cond.selects RX4 yX4_spent yX4_spent, Cond.code yX4_spent cX4_spent 2 (some .int)]
def wsL_law0_r22 : List Cond := [Cond.methodLink RL 148 yX5_spent, Cond.instanceMethod yX5_spent, Cond.selects RX5 yX5_spent yX5_spent, Cond.code yX5_spent cX5_spent 4 (some .int), Cond.methodLink RL 149 yL_paid, Cond.static yL_paid, Cond.codeWith yL_paid cL_paid 4 (some .int) [(0, 9, 12, 29)], Cond.methodLink RL 72 yX4_paid, Cond.instanceMethod yX4_paid, Cond.selects RX4 yX4_paid yX4_paid, Cond.code yX4_paid cX4_paid 2 (some .int), Cond.methodLink RL 151 yX5_paid, Cond.instanceMethod yX5_paid, Cond.selects RX5 yX5_paid yX5_paid, Cond.code yX5_paid cX5_paid 2 (some .int)]
def wsL_law0 : List Cond := (wsL_law0_r1 ++ (wsL_law0_r2 ++ (wsL_law0_r3 ++ (wsL_law0_r4 ++ (wsL_law0_r5 ++ (wsL_law0_r6 ++ (wsL_law0_r7 ++ (wsL_law0_r8 ++ (wsL_law0_r9 ++ (wsL_law0_r10 ++ (wsL_law0_r11 ++ (wsL_law0_r12 ++ (wsL_law0_r13 ++ (wsL_law0_r14 ++ (wsL_law0_r15 ++ (wsL_law0_r16 ++ (wsL_law0_r17 ++ (wsL_law0_r18 ++ (wsL_law0_r19 ++ (wsL_law0_r20 ++ (wsL_law0_r21 ++ wsL_law0_r22))))))))))))))))))))) ++ wsX40 ++ wsX50 ++ wsJx4a65c0 ++ wsX20 ++ wsX30 ++ wsX10 ++ wsX00 ++ ([] : List Cond)
def wsL_law : List Cond := wsL_law0 ++ (vx_atS RX4 181 "java/lang/IllegalArgumentException" ["java/lang/RuntimeException", "java/lang/Exception"]).filter goodWord ++ (vx_atS RX4 70 "java/lang/IllegalStateException" ["java/lang/RuntimeException", "java/lang/Exception"]).filter goodWord ++ (vx_atS RX4 188 "java/lang/IndexOutOfBoundsException" ["java/lang/RuntimeException", "java/lang/Exception"]).filter goodWord
end
section
set_option maxRecDepth 20000 in
theorem wsL_law_in0_r1 : ∀ w ∈ wsL_law0_r1, w ∈ lw_tbl := fun w h => (goodIn_p wsL_law0_r1 [54, 57] (by decide +kernel) (by decide +kernel) w h).1
set_option maxRecDepth 20000 in
theorem wsL_law_in0_r2 : ∀ w ∈ wsL_law0_r2, w ∈ lw_tbl := fun w h => (goodIn_p wsL_law0_r2 [66, 69, 72, 91] (by decide +kernel) (by decide +kernel) w h).1
set_option maxRecDepth 20000 in
theorem wsL_law_in0_r3 : ∀ w ∈ wsL_law0_r3, w ∈ lw_tbl := fun w h => (goodIn_p wsL_law0_r3 [116, 618] (by decide +kernel) (by decide +kernel) w h).1
set_option maxRecDepth 20000 in
theorem wsL_law_in0_r4 : ∀ w ∈ wsL_law0_r4, w ∈ lw_tbl := fun w h => (goodIn_p wsL_law0_r4 [165, 169, 240] (by decide +kernel) (by decide +kernel) w h).1
set_option maxRecDepth 20000 in
theorem wsL_law_in0_r5 : ∀ w ∈ wsL_law0_r5, w ∈ lw_tbl := fun w h => (goodIn_p wsL_law0_r5 [699, 702, 705, 709, 695] (by decide +kernel) (by decide +kernel) w h).1
set_option maxRecDepth 20000 in
theorem wsL_law_in0_r6 : ∀ w ∈ wsL_law0_r6, w ∈ lw_tbl := fun w h => (goodIn_p wsL_law0_r6 [248, 252, 713, 716, 261] (by decide +kernel) (by decide +kernel) w h).1
set_option maxRecDepth 20000 in
theorem wsL_law_in0_r7 : ∀ w ∈ wsL_law0_r7, w ∈ lw_tbl := fun w h => (goodIn_p wsL_law0_r7 [157, 282, 324, 328] (by decide +kernel) (by decide +kernel) w h).1
set_option maxRecDepth 20000 in
theorem wsL_law_in0_r8 : ∀ w ∈ wsL_law0_r8, w ∈ lw_tbl := fun w h => (goodIn_p wsL_law0_r8 [332, 336, 342, 339, 346, 349] (by decide +kernel) (by decide +kernel) w h).1
set_option maxRecDepth 20000 in
theorem wsL_law_in0_r9 : ∀ w ∈ wsL_law0_r9, w ∈ lw_tbl := fun w h => (goodIn_p wsL_law0_r9 [366, 372, 720] (by decide +kernel) (by decide +kernel) w h).1
set_option maxRecDepth 20000 in
theorem wsL_law_in0_r10 : ∀ w ∈ wsL_law0_r10, w ∈ lw_tbl := fun w h => (goodIn_p wsL_law0_r10 [385, 389, 409, 412, 415] (by decide +kernel) (by decide +kernel) w h).1
set_option maxRecDepth 20000 in
theorem wsL_law_in0_r11 : ∀ w ∈ wsL_law0_r11, w ∈ lw_tbl := fun w h => (goodIn_p wsL_law0_r11 [419, 724, 728, 426, 732] (by decide +kernel) (by decide +kernel) w h).1
set_option maxRecDepth 20000 in
theorem wsL_law_in0_r12 : ∀ w ∈ wsL_law0_r12, w ∈ lw_tbl := fun w h => (goodIn_p wsL_law0_r12 [433, 438, 736, 741] (by decide +kernel) (by decide +kernel) w h).1
set_option maxRecDepth 20000 in
theorem wsL_law_in0_r13 : ∀ w ∈ wsL_law0_r13, w ∈ lw_tbl := fun w h => (goodIn_p wsL_law0_r13 [446, 451, 456, 461] (by decide +kernel) (by decide +kernel) w h).1
set_option maxRecDepth 20000 in
theorem wsL_law_in0_r14 : ∀ w ∈ wsL_law0_r14, w ∈ lw_tbl := fun w h => (goodIn_p wsL_law0_r14 [745, 749, 495, 499] (by decide +kernel) (by decide +kernel) w h).1
set_option maxRecDepth 20000 in
theorem wsL_law_in0_r15 : ∀ w ∈ wsL_law0_r15, w ∈ lw_tbl := fun w h => (goodIn_p wsL_law0_r15 [504, 509, 513, 517, 753] (by decide +kernel) (by decide +kernel) w h).1
set_option maxRecDepth 20000 in
theorem wsL_law_in0_r16 : ∀ w ∈ wsL_law0_r16, w ∈ lw_tbl := fun w h => (goodIn_p wsL_law0_r16 [757, 761, 525, 532, 765] (by decide +kernel) (by decide +kernel) w h).1
set_option maxRecDepth 20000 in
theorem wsL_law_in0_r17 : ∀ w ∈ wsL_law0_r17, w ∈ lw_tbl := fun w h => (goodIn_p wsL_law0_r17 [540, 544, 548, 552, 556, 769] (by decide +kernel) (by decide +kernel) w h).1
set_option maxRecDepth 20000 in
theorem wsL_law_in0_r18 : ∀ w ∈ wsL_law0_r18, w ∈ lw_tbl := fun w h => (goodIn_p wsL_law0_r18 [773, 777, 149, 781, 153, 785] (by decide +kernel) (by decide +kernel) w h).1
set_option maxRecDepth 20000 in
theorem wsL_law_in0_r19 : ∀ w ∈ wsL_law0_r19, w ∈ lw_tbl := fun w h => (goodIn_p wsL_law0_r19 [563, 789, 570, 793] (by decide +kernel) (by decide +kernel) w h).1
set_option maxRecDepth 20000 in
theorem wsL_law_in0_r20 : ∀ w ∈ wsL_law0_r20, w ∈ lw_tbl := fun w h => (goodIn_p wsL_law0_r20 [577, 797, 584, 801] (by decide +kernel) (by decide +kernel) w h).1
set_option maxRecDepth 20000 in
theorem wsL_law_in0_r21 : ∀ w ∈ wsL_law0_r21, w ∈ lw_tbl := fun w h => (goodIn_p wsL_law0_r21 [591, 805, 599, 809, 606] (by decide +kernel) (by decide +kernel) w h).1
set_option maxRecDepth 20000 in
theorem wsL_law_in0_r22 : ∀ w ∈ wsL_law0_r22, w ∈ lw_tbl := fun w h => (goodIn_p wsL_law0_r22 [813, 613, 817] (by decide +kernel) (by decide +kernel) w h).1
set_option maxRecDepth 20000 in
theorem wsL_law_in0_wsX40 : ∀ w ∈ wsX40, w ∈ lw_tbl := by decide +kernel
set_option maxRecDepth 20000 in
theorem wsL_law_in0_wsX50 : ∀ w ∈ wsX50, w ∈ lw_tbl := by decide +kernel
set_option maxRecDepth 20000 in
theorem wsL_law_in0_wsJx4a65c0 : ∀ w ∈ wsJx4a65c0, w ∈ lw_tbl := by decide +kernel
set_option maxRecDepth 20000 in
theorem wsL_law_in0_wsX20 : ∀ w ∈ wsX20, w ∈ lw_tbl := by decide +kernel
set_option maxRecDepth 20000 in
theorem wsL_law_in0_wsX30 : ∀ w ∈ wsX30, w ∈ lw_tbl := by decide +kernel
set_option maxRecDepth 20000 in
theorem wsL_law_in0_wsX10 : ∀ w ∈ wsX10, w ∈ lw_tbl := by decide +kernel
set_option maxRecDepth 20000 in
theorem wsL_law_in0_wsX00 : ∀ w ∈ wsX00, w ∈ lw_tbl := by decide +kernel
theorem wsL_law_in0 : ∀ w ∈ wsL_law0, w ∈ lw_tbl := by
  show ∀ w ∈ _ , w ∈ lw_tbl
  unfold wsL_law0
  exact (List.forall_mem_append.mpr ⟨(List.forall_mem_append.mpr ⟨(List.forall_mem_append.mpr ⟨(List.forall_mem_append.mpr ⟨(List.forall_mem_append.mpr ⟨(List.forall_mem_append.mpr ⟨(List.forall_mem_append.mpr ⟨(List.forall_mem_append.mpr ⟨(List.forall_mem_append.mpr ⟨wsL_law_in0_r1, (List.forall_mem_append.mpr ⟨wsL_law_in0_r2, (List.forall_mem_append.mpr ⟨wsL_law_in0_r3, (List.forall_mem_append.mpr ⟨wsL_law_in0_r4, (List.forall_mem_append.mpr ⟨wsL_law_in0_r5, (List.forall_mem_append.mpr ⟨wsL_law_in0_r6, (List.forall_mem_append.mpr ⟨wsL_law_in0_r7, (List.forall_mem_append.mpr ⟨wsL_law_in0_r8, (List.forall_mem_append.mpr ⟨wsL_law_in0_r9, (List.forall_mem_append.mpr ⟨wsL_law_in0_r10, (List.forall_mem_append.mpr ⟨wsL_law_in0_r11, (List.forall_mem_append.mpr ⟨wsL_law_in0_r12, (List.forall_mem_append.mpr ⟨wsL_law_in0_r13, (List.forall_mem_append.mpr ⟨wsL_law_in0_r14, (List.forall_mem_append.mpr ⟨wsL_law_in0_r15, (List.forall_mem_append.mpr ⟨wsL_law_in0_r16, (List.forall_mem_append.mpr ⟨wsL_law_in0_r17, (List.forall_mem_append.mpr ⟨wsL_law_in0_r18, (List.forall_mem_append.mpr ⟨wsL_law_in0_r19, (List.forall_mem_append.mpr ⟨wsL_law_in0_r20, (List.forall_mem_append.mpr ⟨wsL_law_in0_r21, wsL_law_in0_r22⟩)⟩)⟩)⟩)⟩)⟩)⟩)⟩)⟩)⟩)⟩)⟩)⟩)⟩)⟩)⟩)⟩)⟩)⟩)⟩)⟩), wsL_law_in0_wsX40⟩), wsL_law_in0_wsX50⟩), wsL_law_in0_wsJx4a65c0⟩), wsL_law_in0_wsX20⟩), wsL_law_in0_wsX30⟩), wsL_law_in0_wsX10⟩), wsL_law_in0_wsX00⟩), (fun _ h => absurd h List.not_mem_nil)⟩)
theorem wsL_law_x0 : ∀ w ∈ (vx_atS RX4 181 "java/lang/IllegalArgumentException" ["java/lang/RuntimeException", "java/lang/Exception"]).filter goodWord, w ∈ lw_tbl := by decide +kernel
theorem wsL_law_x1 : ∀ w ∈ (vx_atS RX4 70 "java/lang/IllegalStateException" ["java/lang/RuntimeException", "java/lang/Exception"]).filter goodWord, w ∈ lw_tbl := by decide +kernel
theorem wsL_law_x2 : ∀ w ∈ (vx_atS RX4 188 "java/lang/IndexOutOfBoundsException" ["java/lang/RuntimeException", "java/lang/Exception"]).filter goodWord, w ∈ lw_tbl := by decide +kernel
theorem wsL_law_in : ∀ w ∈ wsL_law, w ∈ lw_tbl := fun w h => (List.mem_append.mp h).elim (fun h => (List.mem_append.mp h).elim (fun h => (List.mem_append.mp h).elim (fun h => wsL_law_in0 w h) (fun h => wsL_law_x0 w h)) (fun h => wsL_law_x1 w h)) (fun h => wsL_law_x2 w h)
theorem inlX0 : ∀ w ∈ wsX00, w ∈ wsL_law := fun _ h => List.mem_append_left _ (List.mem_append_left _ (List.mem_append_left _ (List.mem_append_left _ (List.mem_append_right _ h))))
theorem inX0 : ∀ w ∈ wsX00, w ∈ lw_tbl := fun w h => wsL_law_in w (inlX0 w h)
theorem inlX1 : ∀ w ∈ wsX10, w ∈ wsL_law := fun _ h => List.mem_append_left _ (List.mem_append_left _ (List.mem_append_left _ (List.mem_append_left _ (List.mem_append_left _ (List.mem_append_right _ h)))))
theorem inX1 : ∀ w ∈ wsX10, w ∈ lw_tbl := fun w h => wsL_law_in w (inlX1 w h)
theorem inlX2 : ∀ w ∈ wsX20, w ∈ wsL_law := fun _ h => List.mem_append_left _ (List.mem_append_left _ (List.mem_append_left _ (List.mem_append_left _ (List.mem_append_left _ (List.mem_append_left _ (List.mem_append_left _ (List.mem_append_right _ h)))))))
theorem inX2 : ∀ w ∈ wsX20, w ∈ lw_tbl := fun w h => wsL_law_in w (inlX2 w h)
theorem inlX3 : ∀ w ∈ wsX30, w ∈ wsL_law := fun _ h => List.mem_append_left _ (List.mem_append_left _ (List.mem_append_left _ (List.mem_append_left _ (List.mem_append_left _ (List.mem_append_left _ (List.mem_append_right _ h))))))
theorem inX3 : ∀ w ∈ wsX30, w ∈ lw_tbl := fun w h => wsL_law_in w (inlX3 w h)
theorem inlX4 : ∀ w ∈ wsX40, w ∈ wsL_law := fun _ h => List.mem_append_left _ (List.mem_append_left _ (List.mem_append_left _ (List.mem_append_left _ (List.mem_append_left _ (List.mem_append_left _ (List.mem_append_left _ (List.mem_append_left _ (List.mem_append_left _ (List.mem_append_left _ (List.mem_append_right _ h))))))))))
theorem inX4 : ∀ w ∈ wsX40, w ∈ lw_tbl := fun w h => wsL_law_in w (inlX4 w h)
theorem inlX5 : ∀ w ∈ wsX50, w ∈ wsL_law := fun _ h => List.mem_append_left _ (List.mem_append_left _ (List.mem_append_left _ (List.mem_append_left _ (List.mem_append_left _ (List.mem_append_left _ (List.mem_append_left _ (List.mem_append_left _ (List.mem_append_left _ (List.mem_append_right _ h)))))))))
theorem inX5 : ∀ w ∈ wsX50, w ∈ lw_tbl := fun w h => wsL_law_in w (inlX5 w h)
theorem inJx145de : ∀ w ∈ wsJx145de0, w ∈ lw_tbl := by decide +kernel
theorem inJx8e188 : ∀ w ∈ wsJx8e1880, w ∈ lw_tbl := by decide +kernel
theorem inJxab1ab : ∀ w ∈ wsJxab1ab0, w ∈ lw_tbl := by decide +kernel
theorem inJ9 : ∀ w ∈ wsJ90, w ∈ lw_tbl := by decide +kernel
theorem inJ0 : ∀ w ∈ wsJ00, w ∈ lw_tbl := by decide +kernel
theorem inJ10 : ∀ w ∈ wsJ100, w ∈ lw_tbl := by decide +kernel
theorem inJxa1e45 : ∀ w ∈ wsJxa1e450, w ∈ lw_tbl := by decide +kernel
theorem inJxc12de : ∀ w ∈ wsJxc12de0, w ∈ lw_tbl := by decide +kernel
theorem inlJx4a65c : ∀ w ∈ wsJx4a65c0, w ∈ wsL_law := fun _ h => List.mem_append_left _ (List.mem_append_left _ (List.mem_append_left _ (List.mem_append_left _ (List.mem_append_left _ (List.mem_append_left _ (List.mem_append_left _ (List.mem_append_left _ (List.mem_append_right _ h))))))))
theorem inJx4a65c : ∀ w ∈ wsJx4a65c0, w ∈ lw_tbl := fun w h => wsL_law_in w (inlJx4a65c w h)
theorem inJ7 : ∀ w ∈ wsJ70, w ∈ lw_tbl := by decide +kernel
theorem inJx5ef63 : ∀ w ∈ wsJx5ef630, w ∈ lw_tbl := by decide +kernel
theorem inJxbd725 : ∀ w ∈ wsJxbd7250, w ∈ lw_tbl := by decide +kernel
theorem inJ15 : ∀ w ∈ wsJ150, w ∈ lw_tbl := by decide +kernel
theorem inJxf0a74 : ∀ w ∈ wsJxf0a740, w ∈ lw_tbl := by decide +kernel
theorem inJxa66e6 : ∀ w ∈ wsJxa66e60, w ∈ lw_tbl := by decide +kernel
theorem inJ8 : ∀ w ∈ wsJ80, w ∈ lw_tbl := by decide +kernel
theorem inJ3 : ∀ w ∈ wsJ30, w ∈ lw_tbl := by decide +kernel
end
section
theorem dX0_init_0 : decode cX0_init 0 = .ok (.aload_n 0, 1) := by decide +kernel
theorem dX0_init_1 : decode cX0_init 1 = .ok (.invokespecial 3, 3) := by decide +kernel
theorem dX0_init_4 : decode cX0_init 4 = .ok (.aload_n 0, 1) := by decide +kernel
theorem dX0_init_5 : decode cX0_init 5 = .ok (.iconst (-1), 1) := by decide +kernel
theorem dX0_init_6 : decode cX0_init 6 = .ok (.putfield 9, 3) := by decide +kernel
theorem dX0_init_9 : decode cX0_init 9 = .ok (.aload_n 0, 1) := by decide +kernel
theorem dX0_init_10 : decode cX0_init 10 = .ok (.aload_n 1, 1) := by decide +kernel
theorem dX0_init_11 : decode cX0_init 11 = .ok (.putfield 15, 3) := by decide +kernel
theorem dX0_init_14 : decode cX0_init 14 = .ok (.aload_n 0, 1) := by decide +kernel
theorem dX0_init_15 : decode cX0_init 15 = .ok (.iload_n 2, 1) := by decide +kernel
theorem dX0_init_16 : decode cX0_init 16 = .ok (.putfield 19, 3) := by decide +kernel
theorem dX0_init_19 : decode cX0_init 19 = .ok (.aload_n 0, 1) := by decide +kernel
theorem dX0_init_20 : decode cX0_init 20 = .ok (.iload_n 3, 1) := by decide +kernel
theorem dX0_init_21 : decode cX0_init 21 = .ok (.putfield 22, 3) := by decide +kernel
theorem dX0_init_24 : decode cX0_init 24 = .ok (.aload_n 0, 1) := by decide +kernel
theorem dX0_init_25 : decode cX0_init 25 = .ok (.iload 4, 2) := by decide +kernel
theorem dX0_init_27 : decode cX0_init 27 = .ok (.putfield 25, 3) := by decide +kernel
theorem dX0_init_30 : decode cX0_init 30 = .ok (.return_, 1) := by decide +kernel
theorem dX0_hasEnded_0 : decode cX0_hasEnded 0 = .ok (.aload_n 0, 1) := by decide +kernel
theorem dX0_hasEnded_1 : decode cX0_hasEnded 1 = .ok (.getfield 9, 3) := by decide +kernel
theorem dX0_hasEnded_4 : decode cX0_hasEnded 4 = .ok (.iconst (-1), 1) := by decide +kernel
theorem dX0_hasEnded_5 : decode cX0_hasEnded 5 = .ok (.if_icmp .eq 7, 3) := by decide +kernel
theorem dX0_hasEnded_8 : decode cX0_hasEnded 8 = .ok (.iconst 1, 1) := by decide +kernel
theorem dX0_hasEnded_9 : decode cX0_hasEnded 9 = .ok (.goto 4, 3) := by decide +kernel
theorem dX0_hasEnded_12 : decode cX0_hasEnded 12 = .ok (.iconst 0, 1) := by decide +kernel
theorem dX0_hasEnded_13 : decode cX0_hasEnded 13 = .ok (.ireturn, 1) := by decide +kernel
set_option maxRecDepth 20000 in
theorem ggX0_settle_X0_costOf : GoodIn wsX0_settle wsX0_costOf := goodIn_r _ [9, 4, 27, 28, 29, 30, 31, 32, 33] (by decide +kernel) (by decide +kernel)
set_option maxRecDepth 20000 in
theorem gX0_settle_X0_costOf : GoodIn wsX0_settle (wsV RX0 28 RX0 yX0_costOf wsX0_costOf) := goodIn_app (goodIn_of _ (by decide +kernel)) ggX0_settle_X0_costOf
set_option maxRecDepth 20000 in
theorem ggX0_settle_X1_closeHold : GoodIn wsX0_settle wsX1_closeHold := goodIn_r _ [13, 14, 15, 16, 17, 18, 19, 11, 20, 21, 22, 23, 24, 25, 26, 34, 35, 36, 37, 38, 39, 40, 41, 42] (by decide +kernel) (by decide +kernel)
set_option maxRecDepth 20000 in
theorem gX0_settle_X1_closeHold_n35 : GoodIn wsX0_settle (wsX1_closeHold) := ggX0_settle_X1_closeHold
theorem dX0_settle_0 : decode cX0_settle 0 = .ok (.aload_n 0, 1) := by decide +kernel
theorem dX0_settle_1 : decode cX0_settle 1 = .ok (.aload_n 0, 1) := by decide +kernel
theorem dX0_settle_2 : decode cX0_settle 2 = .ok (.iload_n 1, 1) := by decide +kernel
theorem dX0_settle_3 : decode cX0_settle 3 = .ok (.invokevirtual 28, 3) := by decide +kernel
theorem dX0_settle_6 : decode cX0_settle 6 = .ok (.putfield 9, 3) := by decide +kernel
theorem dX0_settle_9 : decode cX0_settle 9 = .ok (.aload_n 0, 1) := by decide +kernel
theorem dX0_settle_10 : decode cX0_settle 10 = .ok (.iload_n 2, 1) := by decide +kernel
theorem dX0_settle_11 : decode cX0_settle 11 = .ok (.putfield 32, 3) := by decide +kernel
theorem dX0_settle_14 : decode cX0_settle 14 = .ok (.aload_n 0, 1) := by decide +kernel
theorem dX0_settle_15 : decode cX0_settle 15 = .ok (.getfield 15, 3) := by decide +kernel
theorem dX0_settle_18 : decode cX0_settle 18 = .ok (.aload_n 0, 1) := by decide +kernel
theorem dX0_settle_19 : decode cX0_settle 19 = .ok (.getfield 19, 3) := by decide +kernel
theorem dX0_settle_22 : decode cX0_settle 22 = .ok (.aload_n 0, 1) := by decide +kernel
theorem dX0_settle_23 : decode cX0_settle 23 = .ok (.getfield 9, 3) := by decide +kernel
theorem dX0_settle_26 : decode cX0_settle 26 = .ok (.invokevirtual 35, 3) := by decide +kernel
theorem dX0_settle_29 : decode cX0_settle 29 = .ok (.return_, 1) := by decide +kernel
theorem dX0_costOf_0 : decode cX0_costOf 0 = .ok (.iload_n 1, 1) := by decide +kernel
theorem dX0_costOf_1 : decode cX0_costOf 1 = .ok (.ifCond .ne 8, 3) := by decide +kernel
theorem dX0_costOf_4 : decode cX0_costOf 4 = .ok (.aload_n 0, 1) := by decide +kernel
theorem dX0_costOf_5 : decode cX0_costOf 5 = .ok (.getfield 19, 3) := by decide +kernel
theorem dX0_costOf_8 : decode cX0_costOf 8 = .ok (.ireturn, 1) := by decide +kernel
theorem dX0_costOf_9 : decode cX0_costOf 9 = .ok (.iload_n 1, 1) := by decide +kernel
theorem dX0_costOf_10 : decode cX0_costOf 10 = .ok (.iconst 1, 1) := by decide +kernel
theorem dX0_costOf_11 : decode cX0_costOf 11 = .ok (.if_icmp .ne 14, 3) := by decide +kernel
theorem dX0_costOf_14 : decode cX0_costOf 14 = .ok (.aload_n 0, 1) := by decide +kernel
theorem dX0_costOf_15 : decode cX0_costOf 15 = .ok (.getfield 19, 3) := by decide +kernel
theorem dX0_costOf_18 : decode cX0_costOf 18 = .ok (.iconst 1, 1) := by decide +kernel
theorem dX0_costOf_19 : decode cX0_costOf 19 = .ok (.iadd, 1) := by decide +kernel
theorem dX0_costOf_20 : decode cX0_costOf 20 = .ok (.iconst 2, 1) := by decide +kernel
theorem dX0_costOf_21 : decode cX0_costOf 21 = .ok (.idiv, 1) := by decide +kernel
theorem dX0_costOf_22 : decode cX0_costOf 22 = .ok (.goto 4, 3) := by decide +kernel
theorem dX0_costOf_25 : decode cX0_costOf 25 = .ok (.iconst 0, 1) := by decide +kernel
theorem dX0_costOf_26 : decode cX0_costOf 26 = .ok (.ireturn, 1) := by decide +kernel
set_option maxRecDepth 20000 in
theorem ggX0_giveBack_X1_receive : GoodIn wsX0_giveBack wsX1_receive := goodIn_r _ [8, 9, 10, 11, 12, 13, 14, 22, 23, 24, 25, 26, 27, 28, 29, 30] (by decide +kernel) (by decide +kernel)
set_option maxRecDepth 20000 in
theorem gX0_giveBack_X1_receive_n48 : GoodIn wsX0_giveBack (wsX1_receive) := ggX0_giveBack_X1_receive
theorem dX0_giveBack_0 : decode cX0_giveBack 0 = .ok (.aload_n 0, 1) := by decide +kernel
theorem dX0_giveBack_1 : decode cX0_giveBack 1 = .ok (.getfield 9, 3) := by decide +kernel
theorem dX0_giveBack_4 : decode cX0_giveBack 4 = .ok (.istore_n 1, 1) := by decide +kernel
theorem dX0_giveBack_5 : decode cX0_giveBack 5 = .ok (.aload_n 0, 1) := by decide +kernel
theorem dX0_giveBack_6 : decode cX0_giveBack 6 = .ok (.iconst 0, 1) := by decide +kernel
theorem dX0_giveBack_7 : decode cX0_giveBack 7 = .ok (.putfield 9, 3) := by decide +kernel
theorem dX0_giveBack_10 : decode cX0_giveBack 10 = .ok (.aload_n 0, 1) := by decide +kernel
theorem dX0_giveBack_11 : decode cX0_giveBack 11 = .ok (.iconst 1, 1) := by decide +kernel
theorem dX0_giveBack_12 : decode cX0_giveBack 12 = .ok (.putfield 41, 3) := by decide +kernel
theorem dX0_giveBack_15 : decode cX0_giveBack 15 = .ok (.aload_n 0, 1) := by decide +kernel
theorem dX0_giveBack_16 : decode cX0_giveBack 16 = .ok (.getfield 15, 3) := by decide +kernel
theorem dX0_giveBack_19 : decode cX0_giveBack 19 = .ok (.dup, 1) := by decide +kernel
theorem dX0_giveBack_20 : decode cX0_giveBack 20 = .ok (.getfield 45, 3) := by decide +kernel
theorem dX0_giveBack_23 : decode cX0_giveBack 23 = .ok (.iload_n 1, 1) := by decide +kernel
theorem dX0_giveBack_24 : decode cX0_giveBack 24 = .ok (.isub, 1) := by decide +kernel
theorem dX0_giveBack_25 : decode cX0_giveBack 25 = .ok (.putfield 45, 3) := by decide +kernel
theorem dX0_giveBack_28 : decode cX0_giveBack 28 = .ok (.aload_n 0, 1) := by decide +kernel
theorem dX0_giveBack_29 : decode cX0_giveBack 29 = .ok (.getfield 15, 3) := by decide +kernel
theorem dX0_giveBack_32 : decode cX0_giveBack 32 = .ok (.iload_n 1, 1) := by decide +kernel
theorem dX0_giveBack_33 : decode cX0_giveBack 33 = .ok (.invokevirtual 48, 3) := by decide +kernel
theorem dX0_giveBack_36 : decode cX0_giveBack 36 = .ok (.aload_n 0, 1) := by decide +kernel
theorem dX0_giveBack_37 : decode cX0_giveBack 37 = .ok (.getfield 15, 3) := by decide +kernel
theorem dX0_giveBack_40 : decode cX0_giveBack 40 = .ok (.dup, 1) := by decide +kernel
theorem dX0_giveBack_41 : decode cX0_giveBack 41 = .ok (.getfield 52, 3) := by decide +kernel
theorem dX0_giveBack_44 : decode cX0_giveBack 44 = .ok (.aload_n 0, 1) := by decide +kernel
theorem dX0_giveBack_45 : decode cX0_giveBack 45 = .ok (.getfield 22, 3) := by decide +kernel
theorem dX0_giveBack_48 : decode cX0_giveBack 48 = .ok (.iadd, 1) := by decide +kernel
theorem dX0_giveBack_49 : decode cX0_giveBack 49 = .ok (.putfield 52, 3) := by decide +kernel
theorem dX0_giveBack_52 : decode cX0_giveBack 52 = .ok (.iload_n 1, 1) := by decide +kernel
theorem dX0_giveBack_53 : decode cX0_giveBack 53 = .ok (.ireturn, 1) := by decide +kernel
theorem dX1_init_0 : decode cX1_init 0 = .ok (.aload_n 0, 1) := by decide +kernel
theorem dX1_init_1 : decode cX1_init 1 = .ok (.invokespecial 1, 3) := by decide +kernel
theorem dX1_init_4 : decode cX1_init 4 = .ok (.aload_n 0, 1) := by decide +kernel
theorem dX1_init_5 : decode cX1_init 5 = .ok (.aload_n 1, 1) := by decide +kernel
theorem dX1_init_6 : decode cX1_init 6 = .ok (.putfield 7, 3) := by decide +kernel
theorem dX1_init_9 : decode cX1_init 9 = .ok (.aload_n 0, 1) := by decide +kernel
theorem dX1_init_10 : decode cX1_init 10 = .ok (.aload_n 1, 1) := by decide +kernel
theorem dX1_init_11 : decode cX1_init 11 = .ok (.getfield 13, 3) := by decide +kernel
theorem dX1_init_14 : decode cX1_init 14 = .ok (.putfield 19, 3) := by decide +kernel
theorem dX1_init_17 : decode cX1_init 17 = .ok (.return_, 1) := by decide +kernel
theorem dX1_receive_0 : decode cX1_receive 0 = .ok (.aload_n 0, 1) := by decide +kernel
theorem dX1_receive_1 : decode cX1_receive 1 = .ok (.getfield 22, 3) := by decide +kernel
theorem dX1_receive_4 : decode cX1_receive 4 = .ok (.iload_n 1, 1) := by decide +kernel
theorem dX1_receive_5 : decode cX1_receive 5 = .ok (.invokestatic 25, 3) := by decide +kernel
theorem dX1_receive_8 : decode cX1_receive 8 = .ok (.istore_n 2, 1) := by decide +kernel
theorem dX1_receive_9 : decode cX1_receive 9 = .ok (.aload_n 0, 1) := by decide +kernel
theorem dX1_receive_10 : decode cX1_receive 10 = .ok (.dup, 1) := by decide +kernel
theorem dX1_receive_11 : decode cX1_receive 11 = .ok (.getfield 22, 3) := by decide +kernel
theorem dX1_receive_14 : decode cX1_receive 14 = .ok (.iload_n 2, 1) := by decide +kernel
theorem dX1_receive_15 : decode cX1_receive 15 = .ok (.isub, 1) := by decide +kernel
theorem dX1_receive_16 : decode cX1_receive 16 = .ok (.putfield 22, 3) := by decide +kernel
theorem dX1_receive_19 : decode cX1_receive 19 = .ok (.aload_n 0, 1) := by decide +kernel
theorem dX1_receive_20 : decode cX1_receive 20 = .ok (.dup, 1) := by decide +kernel
theorem dX1_receive_21 : decode cX1_receive 21 = .ok (.getfield 31, 3) := by decide +kernel
theorem dX1_receive_24 : decode cX1_receive 24 = .ok (.iload_n 1, 1) := by decide +kernel
theorem dX1_receive_25 : decode cX1_receive 25 = .ok (.iload_n 2, 1) := by decide +kernel
theorem dX1_receive_26 : decode cX1_receive 26 = .ok (.isub, 1) := by decide +kernel
theorem dX1_receive_27 : decode cX1_receive 27 = .ok (.iadd, 1) := by decide +kernel
theorem dX1_receive_28 : decode cX1_receive 28 = .ok (.putfield 31, 3) := by decide +kernel
theorem dX1_receive_31 : decode cX1_receive 31 = .ok (.return_, 1) := by decide +kernel
theorem dX1_canCover_0 : decode cX1_canCover 0 = .ok (.iconst 0, 1) := by decide +kernel
theorem dX1_canCover_1 : decode cX1_canCover 1 = .ok (.aload_n 0, 1) := by decide +kernel
theorem dX1_canCover_2 : decode cX1_canCover 2 = .ok (.getfield 34, 3) := by decide +kernel
theorem dX1_canCover_5 : decode cX1_canCover 5 = .ok (.aload_n 0, 1) := by decide +kernel
theorem dX1_canCover_6 : decode cX1_canCover 6 = .ok (.getfield 22, 3) := by decide +kernel
theorem dX1_canCover_9 : decode cX1_canCover 9 = .ok (.isub, 1) := by decide +kernel
theorem dX1_canCover_10 : decode cX1_canCover 10 = .ok (.invokestatic 37, 3) := by decide +kernel
theorem dX1_canCover_13 : decode cX1_canCover 13 = .ok (.istore_n 2, 1) := by decide +kernel
theorem dX1_canCover_14 : decode cX1_canCover 14 = .ok (.aload_n 0, 1) := by decide +kernel
theorem dX1_canCover_15 : decode cX1_canCover 15 = .ok (.getfield 31, 3) := by decide +kernel
theorem dX1_canCover_18 : decode cX1_canCover 18 = .ok (.iload_n 2, 1) := by decide +kernel
theorem dX1_canCover_19 : decode cX1_canCover 19 = .ok (.iadd, 1) := by decide +kernel
theorem dX1_canCover_20 : decode cX1_canCover 20 = .ok (.iload_n 1, 1) := by decide +kernel
theorem dX1_canCover_21 : decode cX1_canCover 21 = .ok (.if_icmp .lt 7, 3) := by decide +kernel
theorem dX1_canCover_24 : decode cX1_canCover 24 = .ok (.iconst 1, 1) := by decide +kernel
theorem dX1_canCover_25 : decode cX1_canCover 25 = .ok (.goto 4, 3) := by decide +kernel
theorem dX1_canCover_28 : decode cX1_canCover 28 = .ok (.iconst 0, 1) := by decide +kernel
theorem dX1_canCover_29 : decode cX1_canCover 29 = .ok (.ireturn, 1) := by decide +kernel
theorem dX1_openHold_0 : decode cX1_openHold 0 = .ok (.aload_n 0, 1) := by decide +kernel
theorem dX1_openHold_1 : decode cX1_openHold 1 = .ok (.getfield 31, 3) := by decide +kernel
theorem dX1_openHold_4 : decode cX1_openHold 4 = .ok (.iload_n 1, 1) := by decide +kernel
theorem dX1_openHold_5 : decode cX1_openHold 5 = .ok (.invokestatic 25, 3) := by decide +kernel
theorem dX1_openHold_8 : decode cX1_openHold 8 = .ok (.istore_n 2, 1) := by decide +kernel
theorem dX1_openHold_9 : decode cX1_openHold 9 = .ok (.aload_n 0, 1) := by decide +kernel
theorem dX1_openHold_10 : decode cX1_openHold 10 = .ok (.dup, 1) := by decide +kernel
theorem dX1_openHold_11 : decode cX1_openHold 11 = .ok (.getfield 31, 3) := by decide +kernel
theorem dX1_openHold_14 : decode cX1_openHold 14 = .ok (.iload_n 2, 1) := by decide +kernel
theorem dX1_openHold_15 : decode cX1_openHold 15 = .ok (.isub, 1) := by decide +kernel
theorem dX1_openHold_16 : decode cX1_openHold 16 = .ok (.putfield 31, 3) := by decide +kernel
theorem dX1_openHold_19 : decode cX1_openHold 19 = .ok (.aload_n 0, 1) := by decide +kernel
theorem dX1_openHold_20 : decode cX1_openHold 20 = .ok (.dup, 1) := by decide +kernel
theorem dX1_openHold_21 : decode cX1_openHold 21 = .ok (.getfield 22, 3) := by decide +kernel
theorem dX1_openHold_24 : decode cX1_openHold 24 = .ok (.iload_n 1, 1) := by decide +kernel
theorem dX1_openHold_25 : decode cX1_openHold 25 = .ok (.iload_n 2, 1) := by decide +kernel
theorem dX1_openHold_26 : decode cX1_openHold 26 = .ok (.isub, 1) := by decide +kernel
theorem dX1_openHold_27 : decode cX1_openHold 27 = .ok (.iadd, 1) := by decide +kernel
theorem dX1_openHold_28 : decode cX1_openHold 28 = .ok (.putfield 22, 3) := by decide +kernel
theorem dX1_openHold_31 : decode cX1_openHold 31 = .ok (.aload_n 0, 1) := by decide +kernel
theorem dX1_openHold_32 : decode cX1_openHold 32 = .ok (.dup, 1) := by decide +kernel
theorem dX1_openHold_33 : decode cX1_openHold 33 = .ok (.getfield 40, 3) := by decide +kernel
theorem dX1_openHold_36 : decode cX1_openHold 36 = .ok (.iload_n 1, 1) := by decide +kernel
theorem dX1_openHold_37 : decode cX1_openHold 37 = .ok (.iadd, 1) := by decide +kernel
theorem dX1_openHold_38 : decode cX1_openHold 38 = .ok (.putfield 40, 3) := by decide +kernel
theorem dX1_openHold_41 : decode cX1_openHold 41 = .ok (.aload_n 0, 1) := by decide +kernel
theorem dX1_openHold_42 : decode cX1_openHold 42 = .ok (.dup, 1) := by decide +kernel
theorem dX1_openHold_43 : decode cX1_openHold 43 = .ok (.getfield 43, 3) := by decide +kernel
theorem dX1_openHold_46 : decode cX1_openHold 46 = .ok (.iconst 1, 1) := by decide +kernel
theorem dX1_openHold_47 : decode cX1_openHold 47 = .ok (.iadd, 1) := by decide +kernel
theorem dX1_openHold_48 : decode cX1_openHold 48 = .ok (.putfield 43, 3) := by decide +kernel
theorem dX1_openHold_51 : decode cX1_openHold 51 = .ok (.return_, 1) := by decide +kernel
set_option maxRecDepth 20000 in
theorem ggX1_closeHold_X1_receive : GoodIn wsX1_closeHold wsX1_receive := goodIn_r _ [8, 9, 10, 11, 12, 13, 14, 15, 16, 17, 18, 19, 20, 21, 22, 23] (by decide +kernel) (by decide +kernel)
set_option maxRecDepth 20000 in
theorem gX1_closeHold_X1_receive : GoodIn wsX1_closeHold (wsV RX1 49 RX1 yX1_receive wsX1_receive) := goodIn_app (goodIn_of _ (by decide +kernel)) ggX1_closeHold_X1_receive
theorem dX1_closeHold_0 : decode cX1_closeHold 0 = .ok (.aload_n 0, 1) := by decide +kernel
theorem dX1_closeHold_1 : decode cX1_closeHold 1 = .ok (.dup, 1) := by decide +kernel
theorem dX1_closeHold_2 : decode cX1_closeHold 2 = .ok (.getfield 40, 3) := by decide +kernel
theorem dX1_closeHold_5 : decode cX1_closeHold 5 = .ok (.iload_n 1, 1) := by decide +kernel
theorem dX1_closeHold_6 : decode cX1_closeHold 6 = .ok (.isub, 1) := by decide +kernel
theorem dX1_closeHold_7 : decode cX1_closeHold 7 = .ok (.putfield 40, 3) := by decide +kernel
theorem dX1_closeHold_10 : decode cX1_closeHold 10 = .ok (.aload_n 0, 1) := by decide +kernel
theorem dX1_closeHold_11 : decode cX1_closeHold 11 = .ok (.dup, 1) := by decide +kernel
theorem dX1_closeHold_12 : decode cX1_closeHold 12 = .ok (.getfield 43, 3) := by decide +kernel
theorem dX1_closeHold_15 : decode cX1_closeHold 15 = .ok (.iconst 1, 1) := by decide +kernel
theorem dX1_closeHold_16 : decode cX1_closeHold 16 = .ok (.isub, 1) := by decide +kernel
theorem dX1_closeHold_17 : decode cX1_closeHold 17 = .ok (.putfield 43, 3) := by decide +kernel
theorem dX1_closeHold_20 : decode cX1_closeHold 20 = .ok (.aload_n 0, 1) := by decide +kernel
theorem dX1_closeHold_21 : decode cX1_closeHold 21 = .ok (.dup, 1) := by decide +kernel
theorem dX1_closeHold_22 : decode cX1_closeHold 22 = .ok (.getfield 46, 3) := by decide +kernel
theorem dX1_closeHold_25 : decode cX1_closeHold 25 = .ok (.iload_n 2, 1) := by decide +kernel
theorem dX1_closeHold_26 : decode cX1_closeHold 26 = .ok (.iadd, 1) := by decide +kernel
theorem dX1_closeHold_27 : decode cX1_closeHold 27 = .ok (.putfield 46, 3) := by decide +kernel
theorem dX1_closeHold_30 : decode cX1_closeHold 30 = .ok (.aload_n 0, 1) := by decide +kernel
theorem dX1_closeHold_31 : decode cX1_closeHold 31 = .ok (.iload_n 1, 1) := by decide +kernel
theorem dX1_closeHold_32 : decode cX1_closeHold 32 = .ok (.iload_n 2, 1) := by decide +kernel
theorem dX1_closeHold_33 : decode cX1_closeHold 33 = .ok (.isub, 1) := by decide +kernel
theorem dX1_closeHold_34 : decode cX1_closeHold 34 = .ok (.invokevirtual 49, 3) := by decide +kernel
theorem dX1_closeHold_37 : decode cX1_closeHold 37 = .ok (.return_, 1) := by decide +kernel
theorem dX1_refillsSlowly_0 : decode cX1_refillsSlowly 0 = .ok (.aload_n 0, 1) := by decide +kernel
theorem dX1_refillsSlowly_1 : decode cX1_refillsSlowly 1 = .ok (.getfield 31, 3) := by decide +kernel
theorem dX1_refillsSlowly_4 : decode cX1_refillsSlowly 4 = .ok (.ifCond .ne 14, 3) := by decide +kernel
theorem dX1_refillsSlowly_7 : decode cX1_refillsSlowly 7 = .ok (.aload_n 0, 1) := by decide +kernel
theorem dX1_refillsSlowly_8 : decode cX1_refillsSlowly 8 = .ok (.getfield 43, 3) := by decide +kernel
theorem dX1_refillsSlowly_11 : decode cX1_refillsSlowly 11 = .ok (.ifCond .ne 7, 3) := by decide +kernel
theorem dX1_refillsSlowly_14 : decode cX1_refillsSlowly 14 = .ok (.iconst 1, 1) := by decide +kernel
theorem dX1_refillsSlowly_15 : decode cX1_refillsSlowly 15 = .ok (.goto 4, 3) := by decide +kernel
theorem dX1_refillsSlowly_18 : decode cX1_refillsSlowly 18 = .ok (.iconst 0, 1) := by decide +kernel
theorem dX1_refillsSlowly_19 : decode cX1_refillsSlowly 19 = .ok (.ireturn, 1) := by decide +kernel
set_option maxRecDepth 20000 in
theorem ggX1_refillBucket_X1_refillsSlowly : GoodIn wsX1_refillBucket wsX1_refillsSlowly := goodIn_r _ [11, 12, 13, 14, 15, 16, 17, 18, 19, 20, 21, 22] (by decide +kernel) (by decide +kernel)
set_option maxRecDepth 20000 in
theorem gX1_refillBucket_X1_refillsSlowly : GoodIn wsX1_refillBucket (wsV RX1 53 RX1 yX1_refillsSlowly wsX1_refillsSlowly) := goodIn_app (goodIn_of _ (by decide +kernel)) ggX1_refillBucket_X1_refillsSlowly
theorem dX1_refillBucket_0 : decode cX1_refillBucket 0 = .ok (.aload_n 0, 1) := by decide +kernel
theorem dX1_refillBucket_1 : decode cX1_refillBucket 1 = .ok (.getfield 19, 3) := by decide +kernel
theorem dX1_refillBucket_4 : decode cX1_refillBucket 4 = .ok (.aload_n 0, 1) := by decide +kernel
theorem dX1_refillBucket_5 : decode cX1_refillBucket 5 = .ok (.getfield 7, 3) := by decide +kernel
theorem dX1_refillBucket_8 : decode cX1_refillBucket 8 = .ok (.getfield 13, 3) := by decide +kernel
theorem dX1_refillBucket_11 : decode cX1_refillBucket 11 = .ok (.if_icmp .ge 48, 3) := by decide +kernel
theorem dX1_refillBucket_14 : decode cX1_refillBucket 14 = .ok (.aload_n 0, 1) := by decide +kernel
theorem dX1_refillBucket_15 : decode cX1_refillBucket 15 = .ok (.invokevirtual 53, 3) := by decide +kernel
theorem dX1_refillBucket_18 : decode cX1_refillBucket 18 = .ok (.ifCond .eq 13, 3) := by decide +kernel
theorem dX1_refillBucket_21 : decode cX1_refillBucket 21 = .ok (.aload_n 0, 1) := by decide +kernel
theorem dX1_refillBucket_22 : decode cX1_refillBucket 22 = .ok (.getfield 7, 3) := by decide +kernel
theorem dX1_refillBucket_25 : decode cX1_refillBucket 25 = .ok (.getfield 57, 3) := by decide +kernel
theorem dX1_refillBucket_28 : decode cX1_refillBucket 28 = .ok (.goto 10, 3) := by decide +kernel
theorem dX1_refillBucket_31 : decode cX1_refillBucket 31 = .ok (.aload_n 0, 1) := by decide +kernel
theorem dX1_refillBucket_32 : decode cX1_refillBucket 32 = .ok (.getfield 7, 3) := by decide +kernel
theorem dX1_refillBucket_35 : decode cX1_refillBucket 35 = .ok (.getfield 60, 3) := by decide +kernel
theorem dX1_refillBucket_38 : decode cX1_refillBucket 38 = .ok (.istore_n 1, 1) := by decide +kernel
theorem dX1_refillBucket_39 : decode cX1_refillBucket 39 = .ok (.aload_n 0, 1) := by decide +kernel
theorem dX1_refillBucket_40 : decode cX1_refillBucket 40 = .ok (.aload_n 0, 1) := by decide +kernel
theorem dX1_refillBucket_41 : decode cX1_refillBucket 41 = .ok (.getfield 7, 3) := by decide +kernel
theorem dX1_refillBucket_44 : decode cX1_refillBucket 44 = .ok (.getfield 13, 3) := by decide +kernel
theorem dX1_refillBucket_47 : decode cX1_refillBucket 47 = .ok (.aload_n 0, 1) := by decide +kernel
theorem dX1_refillBucket_48 : decode cX1_refillBucket 48 = .ok (.getfield 19, 3) := by decide +kernel
theorem dX1_refillBucket_51 : decode cX1_refillBucket 51 = .ok (.iload_n 1, 1) := by decide +kernel
theorem dX1_refillBucket_52 : decode cX1_refillBucket 52 = .ok (.iadd, 1) := by decide +kernel
theorem dX1_refillBucket_53 : decode cX1_refillBucket 53 = .ok (.invokestatic 25, 3) := by decide +kernel
theorem dX1_refillBucket_56 : decode cX1_refillBucket 56 = .ok (.putfield 19, 3) := by decide +kernel
theorem dX1_refillBucket_59 : decode cX1_refillBucket 59 = .ok (.return_, 1) := by decide +kernel
theorem dX2_init_0 : decode cX2_init 0 = .ok (.aload_n 0, 1) := by decide +kernel
theorem dX2_init_1 : decode cX2_init 1 = .ok (.invokespecial 1, 3) := by decide +kernel
theorem dX2_init_4 : decode cX2_init 4 = .ok (.aload_n 0, 1) := by decide +kernel
theorem dX2_init_5 : decode cX2_init 5 = .ok (.bipush 10, 2) := by decide +kernel
theorem dX2_init_7 : decode cX2_init 7 = .ok (.putfield 7, 3) := by decide +kernel
theorem dX2_init_10 : decode cX2_init 10 = .ok (.aload_n 0, 1) := by decide +kernel
theorem dX2_init_11 : decode cX2_init 11 = .ok (.iconst 1, 1) := by decide +kernel
theorem dX2_init_12 : decode cX2_init 12 = .ok (.putfield 13, 3) := by decide +kernel
theorem dX2_init_15 : decode cX2_init 15 = .ok (.aload_n 0, 1) := by decide +kernel
theorem dX2_init_16 : decode cX2_init 16 = .ok (.iconst 0, 1) := by decide +kernel
theorem dX2_init_17 : decode cX2_init 17 = .ok (.putfield 16, 3) := by decide +kernel
theorem dX2_init_20 : decode cX2_init 20 = .ok (.aload_n 0, 1) := by decide +kernel
theorem dX2_init_21 : decode cX2_init 21 = .ok (.iload_n 1, 1) := by decide +kernel
theorem dX2_init_22 : decode cX2_init 22 = .ok (.putfield 19, 3) := by decide +kernel
theorem dX2_init_25 : decode cX2_init 25 = .ok (.return_, 1) := by decide +kernel
theorem dX3_init_0 : decode cX3_init 0 = .ok (.aload_n 0, 1) := by decide +kernel
theorem dX3_init_1 : decode cX3_init 1 = .ok (.invokespecial 1, 3) := by decide +kernel
theorem dX3_init_4 : decode cX3_init 4 = .ok (.aload_n 0, 1) := by decide +kernel
theorem dX3_init_5 : decode cX3_init 5 = .ok (.bipush 10, 2) := by decide +kernel
theorem dX3_init_7 : decode cX3_init 7 = .ok (.putfield 7, 3) := by decide +kernel
theorem dX3_init_10 : decode cX3_init 10 = .ok (.aload_n 0, 1) := by decide +kernel
theorem dX3_init_11 : decode cX3_init 11 = .ok (.iconst 1, 1) := by decide +kernel
theorem dX3_init_12 : decode cX3_init 12 = .ok (.putfield 13, 3) := by decide +kernel
theorem dX3_init_15 : decode cX3_init 15 = .ok (.return_, 1) := by decide +kernel
set_option maxRecDepth 20000 in
theorem ggX4_init_Jx4a65c_init_da8c8 : GoodIn wsX4_init wsJx4a65c_init_da8c8 := goodIn_r _ [19, 20, 21, 22, 23, 24, 25, 26, 27, 28, 29, 30, 31, 2, 3, 50, 51, 52] (by decide +kernel) (by decide +kernel)
set_option maxRecDepth 20000 in
theorem gX4_init_Jx4a65c_init_da8c8 : GoodIn wsX4_init (wsJx4a65c_init_da8c8) := ggX4_init_Jx4a65c_init_da8c8
set_option maxRecDepth 20000 in
theorem ggX4_init_X2_init : GoodIn wsX4_init wsX2_init := goodIn_r _ [33, 34, 2, 3, 35, 36, 37, 38, 53, 54, 55, 56] (by decide +kernel) (by decide +kernel)
set_option maxRecDepth 20000 in
theorem gX4_init_X2_init_n31 : GoodIn wsX4_init (wsX2_init) := ggX4_init_X2_init
set_option maxRecDepth 20000 in
theorem ggX4_init_X3_init : GoodIn wsX4_init wsX3_init := goodIn_r _ [40, 41, 2, 3, 42, 43, 57, 58] (by decide +kernel) (by decide +kernel)
set_option maxRecDepth 20000 in
theorem gX4_init_X3_init_n34 : GoodIn wsX4_init (wsX3_init) := ggX4_init_X3_init
theorem dX4_init_0 : decode cX4_init 0 = .ok (.aload_n 0, 1) := by decide +kernel
theorem dX4_init_1 : decode cX4_init 1 = .ok (.invokespecial 1, 3) := by decide +kernel
theorem dX4_init_4 : decode cX4_init 4 = .ok (.aload_n 0, 1) := by decide +kernel
theorem dX4_init_5 : decode cX4_init 5 = .ok (.iconst 4, 1) := by decide +kernel
theorem dX4_init_6 : decode cX4_init 6 = .ok (.anewarray 9, 3) := by decide +kernel
theorem dX4_init_9 : decode cX4_init 9 = .ok (.putfield 11, 3) := by decide +kernel
theorem dX4_init_12 : decode cX4_init 12 = .ok (.aload_n 0, 1) := by decide +kernel
theorem dX4_init_13 : decode cX4_init 13 = .ok (.bipush 6, 2) := by decide +kernel
theorem dX4_init_15 : decode cX4_init 15 = .ok (.anewarray 15, 3) := by decide +kernel
theorem dX4_init_18 : decode cX4_init 18 = .ok (.putfield 17, 3) := by decide +kernel
theorem dX4_init_21 : decode cX4_init 21 = .ok (.aload_n 0, 1) := by decide +kernel
theorem dX4_init_22 : decode cX4_init 22 = .ok (.new 21, 3) := by decide +kernel
theorem dX4_init_25 : decode cX4_init 25 = .ok (.dup, 1) := by decide +kernel
theorem dX4_init_26 : decode cX4_init 26 = .ok (.invokespecial 23, 3) := by decide +kernel
theorem dX4_init_29 : decode cX4_init 29 = .ok (.putfield 24, 3) := by decide +kernel
theorem dX4_init_32 : decode cX4_init 32 = .ok (.aload_n 0, 1) := by decide +kernel
theorem dX4_init_33 : decode cX4_init 33 = .ok (.new 21, 3) := by decide +kernel
theorem dX4_init_36 : decode cX4_init 36 = .ok (.dup, 1) := by decide +kernel
theorem dX4_init_37 : decode cX4_init 37 = .ok (.invokespecial 23, 3) := by decide +kernel
theorem dX4_init_40 : decode cX4_init 40 = .ok (.putfield 28, 3) := by decide +kernel
theorem dX4_init_43 : decode cX4_init 43 = .ok (.iconst 0, 1) := by decide +kernel
theorem dX4_init_44 : decode cX4_init 44 = .ok (.istore_n 1, 1) := by decide +kernel
theorem dX4_init_45 : decode cX4_init 45 = .ok (.iload_n 1, 1) := by decide +kernel
theorem dX4_init_46 : decode cX4_init 46 = .ok (.aload_n 0, 1) := by decide +kernel
theorem dX4_init_47 : decode cX4_init 47 = .ok (.getfield 11, 3) := by decide +kernel
theorem dX4_init_50 : decode cX4_init 50 = .ok (.arraylength, 1) := by decide +kernel
theorem dX4_init_51 : decode cX4_init 51 = .ok (.if_icmp .ge 23, 3) := by decide +kernel
theorem dX4_init_54 : decode cX4_init 54 = .ok (.aload_n 0, 1) := by decide +kernel
theorem dX4_init_55 : decode cX4_init 55 = .ok (.getfield 11, 3) := by decide +kernel
theorem dX4_init_58 : decode cX4_init 58 = .ok (.iload_n 1, 1) := by decide +kernel
theorem dX4_init_59 : decode cX4_init 59 = .ok (.new 9, 3) := by decide +kernel
theorem dX4_init_62 : decode cX4_init 62 = .ok (.dup, 1) := by decide +kernel
theorem dX4_init_63 : decode cX4_init 63 = .ok (.iload_n 1, 1) := by decide +kernel
theorem dX4_init_64 : decode cX4_init 64 = .ok (.invokespecial 31, 3) := by decide +kernel
theorem dX4_init_67 : decode cX4_init 67 = .ok (.aastore, 1) := by decide +kernel
theorem dX4_init_68 : decode cX4_init 68 = .ok (.iinc 1 1, 3) := by decide +kernel
theorem dX4_init_71 : decode cX4_init 71 = .ok (.goto (-26), 3) := by decide +kernel
theorem dX4_init_74 : decode cX4_init 74 = .ok (.iconst 0, 1) := by decide +kernel
theorem dX4_init_75 : decode cX4_init 75 = .ok (.istore_n 1, 1) := by decide +kernel
theorem dX4_init_76 : decode cX4_init 76 = .ok (.iload_n 1, 1) := by decide +kernel
theorem dX4_init_77 : decode cX4_init 77 = .ok (.aload_n 0, 1) := by decide +kernel
theorem dX4_init_78 : decode cX4_init 78 = .ok (.getfield 17, 3) := by decide +kernel
theorem dX4_init_81 : decode cX4_init 81 = .ok (.arraylength, 1) := by decide +kernel
theorem dX4_init_82 : decode cX4_init 82 = .ok (.if_icmp .ge 22, 3) := by decide +kernel
theorem dX4_init_85 : decode cX4_init 85 = .ok (.aload_n 0, 1) := by decide +kernel
theorem dX4_init_86 : decode cX4_init 86 = .ok (.getfield 17, 3) := by decide +kernel
theorem dX4_init_89 : decode cX4_init 89 = .ok (.iload_n 1, 1) := by decide +kernel
theorem dX4_init_90 : decode cX4_init 90 = .ok (.new 15, 3) := by decide +kernel
theorem dX4_init_93 : decode cX4_init 93 = .ok (.dup, 1) := by decide +kernel
theorem dX4_init_94 : decode cX4_init 94 = .ok (.invokespecial 34, 3) := by decide +kernel
theorem dX4_init_97 : decode cX4_init 97 = .ok (.aastore, 1) := by decide +kernel
theorem dX4_init_98 : decode cX4_init 98 = .ok (.iinc 1 1, 3) := by decide +kernel
theorem dX4_init_101 : decode cX4_init 101 = .ok (.goto (-25), 3) := by decide +kernel
theorem dX4_init_104 : decode cX4_init 104 = .ok (.return_, 1) := by decide +kernel
set_option maxRecDepth 20000 in
theorem ggX4_setPlan_X4_planAt : GoodIn wsX4_setPlan wsX4_planAt := goodIn_ca (goodIn_r _ [5, 6, 7, 8, 16, 17, 18, 19, 20, 21] (by decide +kernel) (by decide +kernel)) (goodIn_sub (fun _ h => List.mem_cons_of_mem _ (List.mem_append_right _ h)) (by decide +kernel))
set_option maxRecDepth 20000 in
theorem gX4_setPlan_X4_planAt : GoodIn wsX4_setPlan (wsV RX4 35 RX4 yX4_planAt wsX4_planAt) := goodIn_app (goodIn_of _ (by decide +kernel)) ggX4_setPlan_X4_planAt
set_option maxRecDepth 20000 in
theorem ggX4_setPlan_X4_refuseOutside : GoodIn wsX4_setPlan wsX4_refuseOutside := goodIn_ca (goodIn_r _ [11, 6, 7] (by decide +kernel) (by decide +kernel)) (goodIn_sub (fun _ h => List.mem_cons_of_mem _ (List.mem_append_right _ h)) (by decide +kernel))
set_option maxRecDepth 20000 in
theorem gX4_setPlan_X4_refuseOutside : GoodIn wsX4_setPlan (va_wsS RX4 39 yX4_refuseOutside wsX4_refuseOutside) := goodIn_app (goodIn_of _ (by decide +kernel)) ggX4_setPlan_X4_refuseOutside
theorem dX4_setPlan_0 : decode cX4_setPlan 0 = .ok (.aload_n 0, 1) := by decide +kernel
theorem dX4_setPlan_1 : decode cX4_setPlan 1 = .ok (.iload_n 1, 1) := by decide +kernel
theorem dX4_setPlan_2 : decode cX4_setPlan 2 = .ok (.invokevirtual 35, 3) := by decide +kernel
theorem dX4_setPlan_5 : decode cX4_setPlan 5 = .ok (.astore 5, 2) := by decide +kernel
theorem dX4_setPlan_7 : decode cX4_setPlan 7 = .ok (.iload_n 2, 1) := by decide +kernel
theorem dX4_setPlan_8 : decode cX4_setPlan 8 = .ok (.iconst 1, 1) := by decide +kernel
theorem dX4_setPlan_9 : decode cX4_setPlan 9 = .ok (.bipush 100, 2) := by decide +kernel
theorem dX4_setPlan_11 : decode cX4_setPlan 11 = .ok (.invokestatic 39, 3) := by decide +kernel
theorem dX4_setPlan_14 : decode cX4_setPlan 14 = .ok (.iload_n 3, 1) := by decide +kernel
theorem dX4_setPlan_15 : decode cX4_setPlan 15 = .ok (.iconst 0, 1) := by decide +kernel
theorem dX4_setPlan_16 : decode cX4_setPlan 16 = .ok (.bipush 100, 2) := by decide +kernel
theorem dX4_setPlan_18 : decode cX4_setPlan 18 = .ok (.invokestatic 39, 3) := by decide +kernel
theorem dX4_setPlan_21 : decode cX4_setPlan 21 = .ok (.iload 4, 2) := by decide +kernel
theorem dX4_setPlan_23 : decode cX4_setPlan 23 = .ok (.iconst 0, 1) := by decide +kernel
theorem dX4_setPlan_24 : decode cX4_setPlan 24 = .ok (.iload_n 3, 1) := by decide +kernel
theorem dX4_setPlan_25 : decode cX4_setPlan 25 = .ok (.invokestatic 39, 3) := by decide +kernel
theorem dX4_setPlan_28 : decode cX4_setPlan 28 = .ok (.aload 5, 2) := by decide +kernel
theorem dX4_setPlan_30 : decode cX4_setPlan 30 = .ok (.iload_n 2, 1) := by decide +kernel
theorem dX4_setPlan_31 : decode cX4_setPlan 31 = .ok (.putfield 43, 3) := by decide +kernel
theorem dX4_setPlan_34 : decode cX4_setPlan 34 = .ok (.aload 5, 2) := by decide +kernel
theorem dX4_setPlan_36 : decode cX4_setPlan 36 = .ok (.iload_n 3, 1) := by decide +kernel
theorem dX4_setPlan_37 : decode cX4_setPlan 37 = .ok (.putfield 47, 3) := by decide +kernel
theorem dX4_setPlan_40 : decode cX4_setPlan 40 = .ok (.aload 5, 2) := by decide +kernel
theorem dX4_setPlan_42 : decode cX4_setPlan 42 = .ok (.iload 4, 2) := by decide +kernel
theorem dX4_setPlan_44 : decode cX4_setPlan 44 = .ok (.putfield 50, 3) := by decide +kernel
theorem dX4_setPlan_47 : decode cX4_setPlan 47 = .ok (.return_, 1) := by decide +kernel
set_option maxRecDepth 20000 in
theorem ggX4_setRoute_X4_routeAt : GoodIn wsX4_setRoute wsX4_routeAt := goodIn_ca (goodIn_r _ [5, 6, 7, 8, 14, 15, 16, 17, 18, 19] (by decide +kernel) (by decide +kernel)) (goodIn_sub (fun _ h => List.mem_cons_of_mem _ (List.mem_append_right _ h)) (by decide +kernel))
set_option maxRecDepth 20000 in
theorem gX4_setRoute_X4_routeAt : GoodIn wsX4_setRoute (wsV RX4 53 RX4 yX4_routeAt wsX4_routeAt) := goodIn_app (goodIn_of _ (by decide +kernel)) ggX4_setRoute_X4_routeAt
set_option maxRecDepth 20000 in
theorem ggX4_setRoute_X4_refuseOutside : GoodIn wsX4_setRoute wsX4_refuseOutside := goodIn_ca (goodIn_r _ [11, 6, 7] (by decide +kernel) (by decide +kernel)) (goodIn_sub (fun _ h => List.mem_cons_of_mem _ (List.mem_append_right _ h)) (by decide +kernel))
set_option maxRecDepth 20000 in
theorem gX4_setRoute_X4_refuseOutside : GoodIn wsX4_setRoute (va_wsS RX4 39 yX4_refuseOutside wsX4_refuseOutside) := goodIn_app (goodIn_of _ (by decide +kernel)) ggX4_setRoute_X4_refuseOutside
theorem dX4_setRoute_0 : decode cX4_setRoute 0 = .ok (.aload_n 0, 1) := by decide +kernel
theorem dX4_setRoute_1 : decode cX4_setRoute 1 = .ok (.iload_n 1, 1) := by decide +kernel
theorem dX4_setRoute_2 : decode cX4_setRoute 2 = .ok (.invokevirtual 53, 3) := by decide +kernel
theorem dX4_setRoute_5 : decode cX4_setRoute 5 = .ok (.astore 4, 2) := by decide +kernel
theorem dX4_setRoute_7 : decode cX4_setRoute 7 = .ok (.iload_n 2, 1) := by decide +kernel
theorem dX4_setRoute_8 : decode cX4_setRoute 8 = .ok (.iconst 0, 1) := by decide +kernel
theorem dX4_setRoute_9 : decode cX4_setRoute 9 = .ok (.sipush 1000, 3) := by decide +kernel
theorem dX4_setRoute_12 : decode cX4_setRoute 12 = .ok (.invokestatic 39, 3) := by decide +kernel
theorem dX4_setRoute_15 : decode cX4_setRoute 15 = .ok (.iload_n 3, 1) := by decide +kernel
theorem dX4_setRoute_16 : decode cX4_setRoute 16 = .ok (.iconst 1, 1) := by decide +kernel
theorem dX4_setRoute_17 : decode cX4_setRoute 17 = .ok (.bipush 20, 2) := by decide +kernel
theorem dX4_setRoute_19 : decode cX4_setRoute 19 = .ok (.invokestatic 39, 3) := by decide +kernel
theorem dX4_setRoute_22 : decode cX4_setRoute 22 = .ok (.aload 4, 2) := by decide +kernel
theorem dX4_setRoute_24 : decode cX4_setRoute 24 = .ok (.iload_n 2, 1) := by decide +kernel
theorem dX4_setRoute_25 : decode cX4_setRoute 25 = .ok (.putfield 57, 3) := by decide +kernel
theorem dX4_setRoute_28 : decode cX4_setRoute 28 = .ok (.aload 4, 2) := by decide +kernel
theorem dX4_setRoute_30 : decode cX4_setRoute 30 = .ok (.iload_n 3, 1) := by decide +kernel
theorem dX4_setRoute_31 : decode cX4_setRoute 31 = .ok (.putfield 60, 3) := by decide +kernel
theorem dX4_setRoute_34 : decode cX4_setRoute 34 = .ok (.return_, 1) := by decide +kernel
set_option maxRecDepth 20000 in
theorem ggX4_addKey_X4_planAt : GoodIn wsX4_addKey wsX4_planAt := goodIn_ca (goodIn_r _ [11, 12, 13, 14, 82, 83, 84, 85, 86, 87] (by decide +kernel) (by decide +kernel)) (goodIn_sub (fun _ h => List.mem_cons_of_mem _ (List.mem_append_right _ h)) (by decide +kernel))
set_option maxRecDepth 20000 in
theorem gX4_addKey_X4_planAt : GoodIn wsX4_addKey (wsV RX4 35 RX4 yX4_planAt wsX4_planAt) := goodIn_app (goodIn_of _ (by decide +kernel)) ggX4_addKey_X4_planAt
set_option maxRecDepth 20000 in
theorem ggX4_addKey_Jx4a65c_size_8abf5 : GoodIn wsX4_addKey wsJx4a65c_size_8abf5 := goodIn_r _ [19, 20, 97, 98, 99] (by decide +kernel) (by decide +kernel)
set_option maxRecDepth 20000 in
theorem gX4_addKey_Jx4a65c_size_8abf5 : GoodIn wsX4_addKey (wsV RX4 63 RJx4a65c yJx4a65c_size_8abf5 wsJx4a65c_size_8abf5) := goodIn_app (goodIn_of _ (by decide +kernel)) ggX4_addKey_Jx4a65c_size_8abf5
set_option maxRecDepth 20000 in
theorem ggX4_addKey_X1_init : GoodIn wsX4_addKey wsX1_init := goodIn_r _ [22, 23, 24, 25, 26, 27, 88, 89, 90, 91, 92, 93, 94, 95, 96, 100, 101, 102, 103] (by decide +kernel) (by decide +kernel)
set_option maxRecDepth 20000 in
theorem gX4_addKey_X1_init_n75 : GoodIn wsX4_addKey (wsX1_init) := ggX4_addKey_X1_init
set_option maxRecDepth 20000 in
theorem ggX4_addKey_Jx4a65c_add_9ea2d : GoodIn wsX4_addKey wsJx4a65c_add_9ea2d := goodIn_r _ [31, 32, 33, 34, 20, 35, 36, 37, 18, 38, 39, 40, 41, 42, 43, 44, 45, 46, 47, 48, 49, 50, 51, 52, 53, 54, 55, 56, 57, 58, 59, 60, 61, 62, 63, 64, 65, 66, 67, 68, 69, 70, 71, 72, 73, 74, 75, 76, 77, 78, 79, 80, 81, 97, 98, 99] (by decide +kernel) (by decide +kernel)
set_option maxRecDepth 20000 in
theorem gX4_addKey_Jx4a65c_add_9ea2d : GoodIn wsX4_addKey (wsV RX4 78 RJx4a65c yJx4a65c_add_9ea2d wsJx4a65c_add_9ea2d) := goodIn_app (goodIn_of _ (by decide +kernel)) ggX4_addKey_Jx4a65c_add_9ea2d
theorem dX4_addKey_0 : decode cX4_addKey 0 = .ok (.aload_n 0, 1) := by decide +kernel
theorem dX4_addKey_1 : decode cX4_addKey 1 = .ok (.iload_n 1, 1) := by decide +kernel
theorem dX4_addKey_2 : decode cX4_addKey 2 = .ok (.invokevirtual 35, 3) := by decide +kernel
theorem dX4_addKey_5 : decode cX4_addKey 5 = .ok (.astore_n 2, 1) := by decide +kernel
theorem dX4_addKey_6 : decode cX4_addKey 6 = .ok (.aload_n 0, 1) := by decide +kernel
theorem dX4_addKey_7 : decode cX4_addKey 7 = .ok (.getfield 24, 3) := by decide +kernel
theorem dX4_addKey_10 : decode cX4_addKey 10 = .ok (.invokevirtual 63, 3) := by decide +kernel
theorem dX4_addKey_13 : decode cX4_addKey 13 = .ok (.bipush 8, 2) := by decide +kernel
theorem dX4_addKey_15 : decode cX4_addKey 15 = .ok (.if_icmp .lt 13, 3) := by decide +kernel
theorem dX4_addKey_18 : decode cX4_addKey 18 = .ok (.new 66, 3) := by decide +kernel
theorem dX4_addKey_21 : decode cX4_addKey 21 = .ok (.dup, 1) := by decide +kernel
theorem dX4_addKey_22 : decode cX4_addKey 22 = .ok (.ldc 68, 2) := by decide +kernel
theorem dX4_addKey_24 : decode cX4_addKey 24 = .ok (.invokespecial 70, 3) := by decide +kernel
theorem dX4_addKey_27 : decode cX4_addKey 27 = .ok (.athrow, 1) := by decide +kernel
theorem dX4_addKey_28 : decode cX4_addKey 28 = .ok (.aload_n 0, 1) := by decide +kernel
theorem dX4_addKey_29 : decode cX4_addKey 29 = .ok (.getfield 24, 3) := by decide +kernel
theorem dX4_addKey_32 : decode cX4_addKey 32 = .ok (.new 73, 3) := by decide +kernel
theorem dX4_addKey_35 : decode cX4_addKey 35 = .ok (.dup, 1) := by decide +kernel
theorem dX4_addKey_36 : decode cX4_addKey 36 = .ok (.aload_n 2, 1) := by decide +kernel
theorem dX4_addKey_37 : decode cX4_addKey 37 = .ok (.invokespecial 75, 3) := by decide +kernel
theorem dX4_addKey_40 : decode cX4_addKey 40 = .ok (.invokevirtual 78, 3) := by decide +kernel
theorem dX4_addKey_43 : decode cX4_addKey 43 = .ok (.pop, 1) := by decide +kernel
theorem dX4_addKey_44 : decode cX4_addKey 44 = .ok (.aload_n 0, 1) := by decide +kernel
theorem dX4_addKey_45 : decode cX4_addKey 45 = .ok (.getfield 24, 3) := by decide +kernel
theorem dX4_addKey_48 : decode cX4_addKey 48 = .ok (.invokevirtual 63, 3) := by decide +kernel
theorem dX4_addKey_51 : decode cX4_addKey 51 = .ok (.iconst 1, 1) := by decide +kernel
theorem dX4_addKey_52 : decode cX4_addKey 52 = .ok (.isub, 1) := by decide +kernel
theorem dX4_addKey_53 : decode cX4_addKey 53 = .ok (.ireturn, 1) := by decide +kernel
set_option maxRecDepth 20000 in
theorem ggX4_setKeyPlan_X4_keyAt : GoodIn wsX4_setKeyPlan wsX4_keyAt := goodIn_ca (goodIn_r _ [5, 6, 7, 8, 9, 10, 11, 12, 13, 14, 15, 16, 17, 18, 19, 20, 21, 22, 23, 24, 25, 26, 27, 28, 29, 30, 31, 32, 53, 54, 55, 56, 57, 58, 59, 60, 61] (by decide +kernel) (by decide +kernel)) (goodIn_sub (fun _ h => List.mem_cons_of_mem _ (List.mem_append_left _ (List.mem_append_right _ h))) (by decide +kernel))
set_option maxRecDepth 20000 in
theorem gX4_setKeyPlan_X4_keyAt : GoodIn wsX4_setKeyPlan (wsV RX4 82 RX4 yX4_keyAt wsX4_keyAt) := goodIn_app (goodIn_of _ (by decide +kernel)) ggX4_setKeyPlan_X4_keyAt
set_option maxRecDepth 20000 in
theorem ggX4_setKeyPlan_X4_planAt : GoodIn wsX4_setKeyPlan wsX4_planAt := goodIn_ca (goodIn_r _ [36, 37, 38, 39, 53, 54, 55, 56, 57, 58] (by decide +kernel) (by decide +kernel)) (goodIn_sub (fun _ h => List.mem_cons_of_mem _ (List.mem_append_right _ h)) (by decide +kernel))
set_option maxRecDepth 20000 in
theorem gX4_setKeyPlan_X4_planAt : GoodIn wsX4_setKeyPlan (wsV RX4 35 RX4 yX4_planAt wsX4_planAt) := goodIn_app (goodIn_of _ (by decide +kernel)) ggX4_setKeyPlan_X4_planAt
theorem dX4_setKeyPlan_0 : decode cX4_setKeyPlan 0 = .ok (.aload_n 0, 1) := by decide +kernel
theorem dX4_setKeyPlan_1 : decode cX4_setKeyPlan 1 = .ok (.iload_n 1, 1) := by decide +kernel
theorem dX4_setKeyPlan_2 : decode cX4_setKeyPlan 2 = .ok (.invokevirtual 82, 3) := by decide +kernel
theorem dX4_setKeyPlan_5 : decode cX4_setKeyPlan 5 = .ok (.astore_n 3, 1) := by decide +kernel
theorem dX4_setKeyPlan_6 : decode cX4_setKeyPlan 6 = .ok (.aload_n 0, 1) := by decide +kernel
theorem dX4_setKeyPlan_7 : decode cX4_setKeyPlan 7 = .ok (.iload_n 2, 1) := by decide +kernel
theorem dX4_setKeyPlan_8 : decode cX4_setKeyPlan 8 = .ok (.invokevirtual 35, 3) := by decide +kernel
theorem dX4_setKeyPlan_11 : decode cX4_setKeyPlan 11 = .ok (.astore 4, 2) := by decide +kernel
theorem dX4_setKeyPlan_13 : decode cX4_setKeyPlan 13 = .ok (.aload_n 3, 1) := by decide +kernel
theorem dX4_setKeyPlan_14 : decode cX4_setKeyPlan 14 = .ok (.getfield 86, 3) := by decide +kernel
theorem dX4_setKeyPlan_17 : decode cX4_setKeyPlan 17 = .ok (.getfield 90, 3) := by decide +kernel
theorem dX4_setKeyPlan_20 : decode cX4_setKeyPlan 20 = .ok (.istore 5, 2) := by decide +kernel
theorem dX4_setKeyPlan_22 : decode cX4_setKeyPlan 22 = .ok (.aload_n 3, 1) := by decide +kernel
theorem dX4_setKeyPlan_23 : decode cX4_setKeyPlan 23 = .ok (.aload 4, 2) := by decide +kernel
theorem dX4_setKeyPlan_25 : decode cX4_setKeyPlan 25 = .ok (.putfield 86, 3) := by decide +kernel
theorem dX4_setKeyPlan_28 : decode cX4_setKeyPlan 28 = .ok (.iload 5, 2) := by decide +kernel
theorem dX4_setKeyPlan_30 : decode cX4_setKeyPlan 30 = .ok (.ireturn, 1) := by decide +kernel
set_option maxRecDepth 20000 in
theorem ggX4_setTrust_X4_keyAt : GoodIn wsX4_setTrust wsX4_keyAt := goodIn_ca (goodIn_r _ [5, 6, 7, 8, 9, 10, 11, 12, 13, 14, 15, 16, 17, 18, 19, 20, 21, 22, 23, 24, 25, 26, 27, 28, 29, 30, 31, 32, 47, 48, 49, 50, 51, 52, 53, 54, 55] (by decide +kernel) (by decide +kernel)) (goodIn_sub (fun _ h => List.mem_cons_of_mem _ (List.mem_append_left _ (List.mem_append_right _ h))) (by decide +kernel))
set_option maxRecDepth 20000 in
theorem gX4_setTrust_X4_keyAt : GoodIn wsX4_setTrust (wsV RX4 82 RX4 yX4_keyAt wsX4_keyAt) := goodIn_app (goodIn_of _ (by decide +kernel)) ggX4_setTrust_X4_keyAt
set_option maxRecDepth 20000 in
theorem ggX4_setTrust_X4_refuseOutside : GoodIn wsX4_setTrust wsX4_refuseOutside := goodIn_ca (goodIn_r _ [35, 36, 37] (by decide +kernel) (by decide +kernel)) (goodIn_sub (fun _ h => List.mem_cons_of_mem _ (List.mem_append_right _ h)) (by decide +kernel))
set_option maxRecDepth 20000 in
theorem gX4_setTrust_X4_refuseOutside : GoodIn wsX4_setTrust (va_wsS RX4 39 yX4_refuseOutside wsX4_refuseOutside) := goodIn_app (goodIn_of _ (by decide +kernel)) ggX4_setTrust_X4_refuseOutside
theorem dX4_setTrust_0 : decode cX4_setTrust 0 = .ok (.aload_n 0, 1) := by decide +kernel
theorem dX4_setTrust_1 : decode cX4_setTrust 1 = .ok (.iload_n 1, 1) := by decide +kernel
theorem dX4_setTrust_2 : decode cX4_setTrust 2 = .ok (.invokevirtual 82, 3) := by decide +kernel
theorem dX4_setTrust_5 : decode cX4_setTrust 5 = .ok (.astore_n 3, 1) := by decide +kernel
theorem dX4_setTrust_6 : decode cX4_setTrust 6 = .ok (.iload_n 2, 1) := by decide +kernel
theorem dX4_setTrust_7 : decode cX4_setTrust 7 = .ok (.iconst 0, 1) := by decide +kernel
theorem dX4_setTrust_8 : decode cX4_setTrust 8 = .ok (.sipush 10000, 3) := by decide +kernel
theorem dX4_setTrust_11 : decode cX4_setTrust 11 = .ok (.invokestatic 39, 3) := by decide +kernel
theorem dX4_setTrust_14 : decode cX4_setTrust 14 = .ok (.aload_n 3, 1) := by decide +kernel
theorem dX4_setTrust_15 : decode cX4_setTrust 15 = .ok (.getfield 93, 3) := by decide +kernel
theorem dX4_setTrust_18 : decode cX4_setTrust 18 = .ok (.istore 4, 2) := by decide +kernel
theorem dX4_setTrust_20 : decode cX4_setTrust 20 = .ok (.aload_n 3, 1) := by decide +kernel
theorem dX4_setTrust_21 : decode cX4_setTrust 21 = .ok (.iload_n 2, 1) := by decide +kernel
theorem dX4_setTrust_22 : decode cX4_setTrust 22 = .ok (.putfield 93, 3) := by decide +kernel
theorem dX4_setTrust_25 : decode cX4_setTrust 25 = .ok (.iload 4, 2) := by decide +kernel
theorem dX4_setTrust_27 : decode cX4_setTrust 27 = .ok (.ireturn, 1) := by decide +kernel
set_option maxRecDepth 20000 in
theorem ggX4_pay_X4_keyAt : GoodIn wsX4_pay wsX4_keyAt := goodIn_ca (goodIn_r _ [6, 7, 8, 9, 10, 11, 12, 13, 14, 15, 16, 17, 18, 19, 20, 21, 22, 23, 24, 25, 26, 27, 28, 29, 30, 31, 32, 33, 58, 59, 60, 61, 62, 63, 64, 65, 66] (by decide +kernel) (by decide +kernel)) (goodIn_sub (fun _ h => List.mem_cons_of_mem _ (List.mem_append_left _ (List.mem_append_right _ h))) (by decide +kernel))
set_option maxRecDepth 20000 in
theorem gX4_pay_X4_keyAt : GoodIn wsX4_pay (wsV RX4 82 RX4 yX4_keyAt wsX4_keyAt) := goodIn_app (goodIn_of _ (by decide +kernel)) ggX4_pay_X4_keyAt
set_option maxRecDepth 20000 in
theorem ggX4_pay_X4_refuseOutside : GoodIn wsX4_pay wsX4_refuseOutside := goodIn_ca (goodIn_r _ [36, 37, 38] (by decide +kernel) (by decide +kernel)) (goodIn_sub (fun _ h => List.mem_cons_of_mem _ (List.mem_append_right _ h)) (by decide +kernel))
set_option maxRecDepth 20000 in
theorem gX4_pay_X4_refuseOutside : GoodIn wsX4_pay (va_wsS RX4 39 yX4_refuseOutside wsX4_refuseOutside) := goodIn_app (goodIn_of _ (by decide +kernel)) ggX4_pay_X4_refuseOutside
set_option maxRecDepth 20000 in
theorem ggX4_pay_X1_receive : GoodIn wsX4_pay wsX1_receive := goodIn_r _ [42, 43, 44, 45, 46, 47, 48, 49, 50, 51, 52, 53, 54, 55, 56, 57] (by decide +kernel) (by decide +kernel)
set_option maxRecDepth 20000 in
theorem gX4_pay_X1_receive_n100 : GoodIn wsX4_pay (wsX1_receive) := ggX4_pay_X1_receive
theorem dX4_pay_0 : decode cX4_pay 0 = .ok (.aload_n 0, 1) := by decide +kernel
theorem dX4_pay_1 : decode cX4_pay 1 = .ok (.iload_n 1, 1) := by decide +kernel
theorem dX4_pay_2 : decode cX4_pay 2 = .ok (.invokevirtual 82, 3) := by decide +kernel
theorem dX4_pay_5 : decode cX4_pay 5 = .ok (.astore_n 3, 1) := by decide +kernel
theorem dX4_pay_6 : decode cX4_pay 6 = .ok (.iload_n 2, 1) := by decide +kernel
theorem dX4_pay_7 : decode cX4_pay 7 = .ok (.iconst 1, 1) := by decide +kernel
theorem dX4_pay_8 : decode cX4_pay 8 = .ok (.ldc 96, 2) := by decide +kernel
theorem dX4_pay_10 : decode cX4_pay 10 = .ok (.invokestatic 39, 3) := by decide +kernel
theorem dX4_pay_13 : decode cX4_pay 13 = .ok (.aload_n 3, 1) := by decide +kernel
theorem dX4_pay_14 : decode cX4_pay 14 = .ok (.dup, 1) := by decide +kernel
theorem dX4_pay_15 : decode cX4_pay 15 = .ok (.getfield 97, 3) := by decide +kernel
theorem dX4_pay_18 : decode cX4_pay 18 = .ok (.iload_n 2, 1) := by decide +kernel
theorem dX4_pay_19 : decode cX4_pay 19 = .ok (.iadd, 1) := by decide +kernel
theorem dX4_pay_20 : decode cX4_pay 20 = .ok (.putfield 97, 3) := by decide +kernel
theorem dX4_pay_23 : decode cX4_pay 23 = .ok (.aload_n 3, 1) := by decide +kernel
theorem dX4_pay_24 : decode cX4_pay 24 = .ok (.iload_n 2, 1) := by decide +kernel
theorem dX4_pay_25 : decode cX4_pay 25 = .ok (.invokevirtual 100, 3) := by decide +kernel
theorem dX4_pay_28 : decode cX4_pay 28 = .ok (.aload_n 3, 1) := by decide +kernel
theorem dX4_pay_29 : decode cX4_pay 29 = .ok (.getfield 103, 3) := by decide +kernel
theorem dX4_pay_32 : decode cX4_pay 32 = .ok (.ireturn, 1) := by decide +kernel
set_option maxRecDepth 20000 in
theorem ggX4_call_X4_keyAt : GoodIn wsX4_call wsX4_keyAt := goodIn_ca (goodIn_r _ [12, 13, 14, 15, 16, 17, 18, 19, 20, 21, 22, 23, 24, 25, 26, 27, 28, 29, 30, 31, 32, 33, 34, 35, 36, 37, 38, 39, 127, 128, 129, 130, 131, 132, 151, 152, 153] (by decide +kernel) (by decide +kernel)) (goodIn_sub (fun _ h => List.mem_cons_of_mem _ (List.mem_append_left _ (List.mem_append_right _ h))) (by decide +kernel))
set_option maxRecDepth 20000 in
theorem gX4_call_X4_keyAt : GoodIn wsX4_call (wsV RX4 82 RX4 yX4_keyAt wsX4_keyAt) := goodIn_app (goodIn_of _ (by decide +kernel)) ggX4_call_X4_keyAt
set_option maxRecDepth 20000 in
theorem ggX4_call_X4_routeAt : GoodIn wsX4_call wsX4_routeAt := goodIn_ca (goodIn_r _ [43, 44, 45, 46, 127, 128, 129, 130, 131, 132] (by decide +kernel) (by decide +kernel)) (goodIn_sub (fun _ h => List.mem_cons_of_mem _ (List.mem_append_right _ h)) (by decide +kernel))
set_option maxRecDepth 20000 in
theorem gX4_call_X4_routeAt : GoodIn wsX4_call (wsV RX4 53 RX4 yX4_routeAt wsX4_routeAt) := goodIn_app (goodIn_of _ (by decide +kernel)) ggX4_call_X4_routeAt
set_option maxRecDepth 20000 in
theorem ggX4_call_X4_refuseOutside : GoodIn wsX4_call wsX4_refuseOutside := goodIn_ca (goodIn_r _ [49, 44, 45] (by decide +kernel) (by decide +kernel)) (goodIn_sub (fun _ h => List.mem_cons_of_mem _ (List.mem_append_right _ h)) (by decide +kernel))
set_option maxRecDepth 20000 in
theorem gX4_call_X4_refuseOutside : GoodIn wsX4_call (va_wsS RX4 39 yX4_refuseOutside wsX4_refuseOutside) := goodIn_app (goodIn_of _ (by decide +kernel)) ggX4_call_X4_refuseOutside
set_option maxRecDepth 20000 in
theorem ggX4_call_Jx4a65c_size_8abf5 : GoodIn wsX4_call wsJx4a65c_size_8abf5 := goodIn_r _ [21, 22, 151, 152, 153] (by decide +kernel) (by decide +kernel)
set_option maxRecDepth 20000 in
theorem gX4_call_Jx4a65c_size_8abf5 : GoodIn wsX4_call (wsV RX4 63 RJx4a65c yJx4a65c_size_8abf5 wsJx4a65c_size_8abf5) := goodIn_app (goodIn_of _ (by decide +kernel)) ggX4_call_Jx4a65c_size_8abf5
set_option maxRecDepth 20000 in
theorem ggX4_call_X1_canCover : GoodIn wsX4_call wsX1_canCover := goodIn_r _ [53, 54, 55, 56, 57, 58, 59, 60, 135, 136, 137, 138, 139, 140, 141, 142, 143] (by decide +kernel) (by decide +kernel)
set_option maxRecDepth 20000 in
theorem gX4_call_X1_canCover_n111 : GoodIn wsX4_call (wsX1_canCover) := ggX4_call_X1_canCover
set_option maxRecDepth 20000 in
theorem ggX4_call_X1_openHold : GoodIn wsX4_call wsX1_openHold := goodIn_r _ [63, 60, 64, 65, 58, 66, 55, 67, 68, 135, 136, 137, 138, 139, 140, 141, 142, 143] (by decide +kernel) (by decide +kernel)
set_option maxRecDepth 20000 in
theorem gX4_call_X1_openHold_n115 : GoodIn wsX4_call (wsX1_openHold) := ggX4_call_X1_openHold
set_option maxRecDepth 20000 in
theorem ggX4_call_X0_init : GoodIn wsX4_call wsX0_init := goodIn_r _ [70, 71, 72, 73, 74, 75, 76, 77, 78, 144, 145, 146, 147, 148, 149, 150] (by decide +kernel) (by decide +kernel)
set_option maxRecDepth 20000 in
theorem gX4_call_X0_init_n123 : GoodIn wsX4_call (wsX0_init) := ggX4_call_X0_init
set_option maxRecDepth 20000 in
theorem ggX4_call_Jx4a65c_add_9ea2d : GoodIn wsX4_call wsJx4a65c_add_9ea2d := goodIn_r _ [82, 83, 84, 39, 22, 85, 86, 87, 20, 88, 89, 90, 91, 92, 93, 94, 95, 96, 97, 98, 57, 58, 59, 99, 100, 101, 102, 103, 104, 105, 106, 107, 108, 109, 110, 111, 112, 113, 114, 115, 116, 117, 118, 119, 120, 121, 122, 65, 66, 123, 124, 125, 126, 151, 152, 153] (by decide +kernel) (by decide +kernel)
set_option maxRecDepth 20000 in
theorem gX4_call_Jx4a65c_add_9ea2d : GoodIn wsX4_call (wsV RX4 78 RJx4a65c yJx4a65c_add_9ea2d wsJx4a65c_add_9ea2d) := goodIn_app (goodIn_of _ (by decide +kernel)) ggX4_call_Jx4a65c_add_9ea2d
theorem dX4_call_0 : decode cX4_call 0 = .ok (.aload_n 0, 1) := by decide +kernel
theorem dX4_call_1 : decode cX4_call 1 = .ok (.iload_n 1, 1) := by decide +kernel
theorem dX4_call_2 : decode cX4_call 2 = .ok (.invokevirtual 82, 3) := by decide +kernel
theorem dX4_call_5 : decode cX4_call 5 = .ok (.astore 4, 2) := by decide +kernel
theorem dX4_call_7 : decode cX4_call 7 = .ok (.aload_n 0, 1) := by decide +kernel
theorem dX4_call_8 : decode cX4_call 8 = .ok (.iload_n 2, 1) := by decide +kernel
theorem dX4_call_9 : decode cX4_call 9 = .ok (.invokevirtual 53, 3) := by decide +kernel
theorem dX4_call_12 : decode cX4_call 12 = .ok (.astore 5, 2) := by decide +kernel
theorem dX4_call_14 : decode cX4_call 14 = .ok (.iload_n 3, 1) := by decide +kernel
theorem dX4_call_15 : decode cX4_call 15 = .ok (.iconst 1, 1) := by decide +kernel
theorem dX4_call_16 : decode cX4_call 16 = .ok (.bipush 9, 2) := by decide +kernel
theorem dX4_call_18 : decode cX4_call 18 = .ok (.invokestatic 39, 3) := by decide +kernel
theorem dX4_call_21 : decode cX4_call 21 = .ok (.aload_n 0, 1) := by decide +kernel
theorem dX4_call_22 : decode cX4_call 22 = .ok (.getfield 28, 3) := by decide +kernel
theorem dX4_call_25 : decode cX4_call 25 = .ok (.invokevirtual 63, 3) := by decide +kernel
theorem dX4_call_28 : decode cX4_call 28 = .ok (.bipush 80, 2) := by decide +kernel
theorem dX4_call_30 : decode cX4_call 30 = .ok (.if_icmp .lt 13, 3) := by decide +kernel
theorem dX4_call_33 : decode cX4_call 33 = .ok (.new 66, 3) := by decide +kernel
theorem dX4_call_36 : decode cX4_call 36 = .ok (.dup, 1) := by decide +kernel
theorem dX4_call_37 : decode cX4_call 37 = .ok (.ldc 106, 2) := by decide +kernel
theorem dX4_call_39 : decode cX4_call 39 = .ok (.invokespecial 70, 3) := by decide +kernel
theorem dX4_call_42 : decode cX4_call 42 = .ok (.athrow, 1) := by decide +kernel
theorem dX4_call_43 : decode cX4_call 43 = .ok (.aload 5, 2) := by decide +kernel
theorem dX4_call_45 : decode cX4_call 45 = .ok (.getfield 57, 3) := by decide +kernel
theorem dX4_call_48 : decode cX4_call 48 = .ok (.iload_n 3, 1) := by decide +kernel
theorem dX4_call_49 : decode cX4_call 49 = .ok (.imul, 1) := by decide +kernel
theorem dX4_call_50 : decode cX4_call 50 = .ok (.istore 6, 2) := by decide +kernel
theorem dX4_call_52 : decode cX4_call 52 = .ok (.aload 4, 2) := by decide +kernel
theorem dX4_call_54 : decode cX4_call 54 = .ok (.getfield 108, 3) := by decide +kernel
theorem dX4_call_57 : decode cX4_call 57 = .ok (.aload 5, 2) := by decide +kernel
theorem dX4_call_59 : decode cX4_call 59 = .ok (.getfield 60, 3) := by decide +kernel
theorem dX4_call_62 : decode cX4_call 62 = .ok (.if_icmp .ge 5, 3) := by decide +kernel
theorem dX4_call_65 : decode cX4_call 65 = .ok (.iconst 1, 1) := by decide +kernel
theorem dX4_call_66 : decode cX4_call 66 = .ok (.ireturn, 1) := by decide +kernel
theorem dX4_call_67 : decode cX4_call 67 = .ok (.aload 4, 2) := by decide +kernel
theorem dX4_call_69 : decode cX4_call 69 = .ok (.iload 6, 2) := by decide +kernel
theorem dX4_call_71 : decode cX4_call 71 = .ok (.invokevirtual 111, 3) := by decide +kernel
theorem dX4_call_74 : decode cX4_call 74 = .ok (.ifCond .ne 5, 3) := by decide +kernel
theorem dX4_call_77 : decode cX4_call 77 = .ok (.iconst 2, 1) := by decide +kernel
theorem dX4_call_78 : decode cX4_call 78 = .ok (.ireturn, 1) := by decide +kernel
theorem dX4_call_79 : decode cX4_call 79 = .ok (.aload 4, 2) := by decide +kernel
theorem dX4_call_81 : decode cX4_call 81 = .ok (.dup, 1) := by decide +kernel
theorem dX4_call_82 : decode cX4_call 82 = .ok (.getfield 108, 3) := by decide +kernel
theorem dX4_call_85 : decode cX4_call 85 = .ok (.aload 5, 2) := by decide +kernel
theorem dX4_call_87 : decode cX4_call 87 = .ok (.getfield 60, 3) := by decide +kernel
theorem dX4_call_90 : decode cX4_call 90 = .ok (.isub, 1) := by decide +kernel
theorem dX4_call_91 : decode cX4_call 91 = .ok (.putfield 108, 3) := by decide +kernel
theorem dX4_call_94 : decode cX4_call 94 = .ok (.aload 4, 2) := by decide +kernel
theorem dX4_call_96 : decode cX4_call 96 = .ok (.iload 6, 2) := by decide +kernel
theorem dX4_call_98 : decode cX4_call 98 = .ok (.invokevirtual 115, 3) := by decide +kernel
theorem dX4_call_101 : decode cX4_call 101 = .ok (.aload_n 0, 1) := by decide +kernel
theorem dX4_call_102 : decode cX4_call 102 = .ok (.getfield 28, 3) := by decide +kernel
theorem dX4_call_105 : decode cX4_call 105 = .ok (.new 118, 3) := by decide +kernel
theorem dX4_call_108 : decode cX4_call 108 = .ok (.dup, 1) := by decide +kernel
theorem dX4_call_109 : decode cX4_call 109 = .ok (.aload 4, 2) := by decide +kernel
theorem dX4_call_111 : decode cX4_call 111 = .ok (.iload 6, 2) := by decide +kernel
theorem dX4_call_113 : decode cX4_call 113 = .ok (.aload 5, 2) := by decide +kernel
theorem dX4_call_115 : decode cX4_call 115 = .ok (.getfield 60, 3) := by decide +kernel
theorem dX4_call_118 : decode cX4_call 118 = .ok (.aload_n 0, 1) := by decide +kernel
theorem dX4_call_119 : decode cX4_call 119 = .ok (.getfield 120, 3) := by decide +kernel
theorem dX4_call_122 : decode cX4_call 122 = .ok (.bipush 20, 2) := by decide +kernel
theorem dX4_call_124 : decode cX4_call 124 = .ok (.iadd, 1) := by decide +kernel
theorem dX4_call_125 : decode cX4_call 125 = .ok (.invokespecial 123, 3) := by decide +kernel
theorem dX4_call_128 : decode cX4_call 128 = .ok (.invokevirtual 78, 3) := by decide +kernel
theorem dX4_call_131 : decode cX4_call 131 = .ok (.pop, 1) := by decide +kernel
theorem dX4_call_132 : decode cX4_call 132 = .ok (.iconst 0, 1) := by decide +kernel
theorem dX4_call_133 : decode cX4_call 133 = .ok (.ireturn, 1) := by decide +kernel
set_option maxRecDepth 20000 in
theorem ggX4_end_X4_callAt : GoodIn wsX4_end wsX4_callAt := goodIn_ca (goodIn_r _ [8, 9, 10, 11, 12, 13, 14, 15, 16, 17, 18, 19, 20, 21, 22, 23, 24, 25, 26, 27, 28, 29, 30, 31, 32, 33, 34, 35, 73, 74, 75, 76, 77, 78, 86, 87, 88] (by decide +kernel) (by decide +kernel)) (goodIn_sub (fun _ h => List.mem_cons_of_mem _ (List.mem_append_left _ (List.mem_append_right _ h))) (by decide +kernel))
set_option maxRecDepth 20000 in
theorem gX4_end_X4_callAt : GoodIn wsX4_end (wsV RX4 126 RX4 yX4_callAt wsX4_callAt) := goodIn_app (goodIn_of _ (by decide +kernel)) ggX4_end_X4_callAt
set_option maxRecDepth 20000 in
theorem ggX4_end_X4_refuseOutside : GoodIn wsX4_end wsX4_refuseOutside := goodIn_ca (goodIn_r _ [38, 39, 40] (by decide +kernel) (by decide +kernel)) (goodIn_sub (fun _ h => List.mem_cons_of_mem _ (List.mem_append_right _ h)) (by decide +kernel))
set_option maxRecDepth 20000 in
theorem gX4_end_X4_refuseOutside : GoodIn wsX4_end (va_wsS RX4 39 yX4_refuseOutside wsX4_refuseOutside) := goodIn_app (goodIn_of _ (by decide +kernel)) ggX4_end_X4_refuseOutside
set_option maxRecDepth 20000 in
theorem ggX4_end_X0_hasEnded : GoodIn wsX4_end wsX0_hasEnded := goodIn_r _ [44, 45, 79, 80, 81, 82, 83, 84, 85] (by decide +kernel) (by decide +kernel)
set_option maxRecDepth 20000 in
theorem gX4_end_X0_hasEnded_n130 : GoodIn wsX4_end (wsX0_hasEnded) := ggX4_end_X0_hasEnded
set_option maxRecDepth 20000 in
theorem ggX4_end_X0_settle : GoodIn wsX4_end wsX0_settle := goodIn_r _ [48, 45, 49, 50, 51, 52, 53, 54, 42, 55, 56, 57, 58, 59, 60, 61, 62, 63, 64, 65, 66, 67, 68, 69, 70, 71, 72, 79, 80, 81, 82, 83, 84, 85, 89, 90, 91, 92, 93, 94, 95, 96, 97] (by decide +kernel) (by decide +kernel)
set_option maxRecDepth 20000 in
theorem gX4_end_X0_settle_n136 : GoodIn wsX4_end (wsX0_settle) := ggX4_end_X0_settle
theorem dX4_end_0 : decode cX4_end 0 = .ok (.aload_n 0, 1) := by decide +kernel
theorem dX4_end_1 : decode cX4_end 1 = .ok (.iload_n 1, 1) := by decide +kernel
theorem dX4_end_2 : decode cX4_end 2 = .ok (.invokevirtual 126, 3) := by decide +kernel
theorem dX4_end_5 : decode cX4_end 5 = .ok (.astore_n 3, 1) := by decide +kernel
theorem dX4_end_6 : decode cX4_end 6 = .ok (.iload_n 2, 1) := by decide +kernel
theorem dX4_end_7 : decode cX4_end 7 = .ok (.iconst 0, 1) := by decide +kernel
theorem dX4_end_8 : decode cX4_end 8 = .ok (.iconst 2, 1) := by decide +kernel
theorem dX4_end_9 : decode cX4_end 9 = .ok (.invokestatic 39, 3) := by decide +kernel
theorem dX4_end_12 : decode cX4_end 12 = .ok (.aload_n 3, 1) := by decide +kernel
theorem dX4_end_13 : decode cX4_end 13 = .ok (.invokevirtual 130, 3) := by decide +kernel
theorem dX4_end_16 : decode cX4_end 16 = .ok (.ifCond .eq 13, 3) := by decide +kernel
theorem dX4_end_19 : decode cX4_end 19 = .ok (.new 66, 3) := by decide +kernel
theorem dX4_end_22 : decode cX4_end 22 = .ok (.dup, 1) := by decide +kernel
theorem dX4_end_23 : decode cX4_end 23 = .ok (.ldc 134, 2) := by decide +kernel
theorem dX4_end_25 : decode cX4_end 25 = .ok (.invokespecial 70, 3) := by decide +kernel
theorem dX4_end_28 : decode cX4_end 28 = .ok (.athrow, 1) := by decide +kernel
theorem dX4_end_29 : decode cX4_end 29 = .ok (.aload_n 3, 1) := by decide +kernel
theorem dX4_end_30 : decode cX4_end 30 = .ok (.iload_n 2, 1) := by decide +kernel
theorem dX4_end_31 : decode cX4_end 31 = .ok (.aload_n 0, 1) := by decide +kernel
theorem dX4_end_32 : decode cX4_end 32 = .ok (.getfield 120, 3) := by decide +kernel
theorem dX4_end_35 : decode cX4_end 35 = .ok (.invokevirtual 136, 3) := by decide +kernel
theorem dX4_end_38 : decode cX4_end 38 = .ok (.aload_n 3, 1) := by decide +kernel
theorem dX4_end_39 : decode cX4_end 39 = .ok (.getfield 140, 3) := by decide +kernel
theorem dX4_end_42 : decode cX4_end 42 = .ok (.ireturn, 1) := by decide +kernel
set_option maxRecDepth 20000 in
theorem ggX4_dispute_X4_callAt : GoodIn wsX4_dispute wsX4_callAt := goodIn_ca (goodIn_r _ [8, 9, 10, 11, 12, 13, 14, 15, 16, 17, 18, 19, 20, 21, 22, 23, 24, 25, 26, 27, 28, 29, 30, 31, 32, 33, 34, 35, 64, 65, 66, 67, 68, 69, 70, 71, 72] (by decide +kernel) (by decide +kernel)) (goodIn_sub (fun _ h => List.mem_cons_of_mem _ (List.mem_append_right _ h)) (by decide +kernel))
set_option maxRecDepth 20000 in
theorem gX4_dispute_X4_callAt : GoodIn wsX4_dispute (wsV RX4 126 RX4 yX4_callAt wsX4_callAt) := goodIn_app (goodIn_of _ (by decide +kernel)) ggX4_dispute_X4_callAt
set_option maxRecDepth 20000 in
theorem ggX4_dispute_X0_hasEnded : GoodIn wsX4_dispute wsX0_hasEnded := goodIn_r _ [39, 40, 57, 58, 59, 60, 61, 62, 63] (by decide +kernel) (by decide +kernel)
set_option maxRecDepth 20000 in
theorem gX4_dispute_X0_hasEnded_n130 : GoodIn wsX4_dispute (wsX0_hasEnded) := ggX4_dispute_X0_hasEnded
set_option maxRecDepth 20000 in
theorem ggX4_dispute_X0_giveBack : GoodIn wsX4_dispute wsX0_giveBack := goodIn_r _ [43, 40, 44, 45, 46, 47, 48, 49, 50, 51, 52, 53, 54, 55, 56, 57, 58, 59, 60, 61, 62, 63, 73, 74, 75, 76, 77, 78, 79, 80, 81] (by decide +kernel) (by decide +kernel)
set_option maxRecDepth 20000 in
theorem gX4_dispute_X0_giveBack_n156 : GoodIn wsX4_dispute (wsX0_giveBack) := ggX4_dispute_X0_giveBack
theorem dX4_dispute_0 : decode cX4_dispute 0 = .ok (.aload_n 0, 1) := by decide +kernel
theorem dX4_dispute_1 : decode cX4_dispute 1 = .ok (.iload_n 1, 1) := by decide +kernel
theorem dX4_dispute_2 : decode cX4_dispute 2 = .ok (.invokevirtual 126, 3) := by decide +kernel
theorem dX4_dispute_5 : decode cX4_dispute 5 = .ok (.astore_n 2, 1) := by decide +kernel
theorem dX4_dispute_6 : decode cX4_dispute 6 = .ok (.aload_n 2, 1) := by decide +kernel
theorem dX4_dispute_7 : decode cX4_dispute 7 = .ok (.invokevirtual 130, 3) := by decide +kernel
theorem dX4_dispute_10 : decode cX4_dispute 10 = .ok (.ifCond .ne 13, 3) := by decide +kernel
theorem dX4_dispute_13 : decode cX4_dispute 13 = .ok (.new 66, 3) := by decide +kernel
theorem dX4_dispute_16 : decode cX4_dispute 16 = .ok (.dup, 1) := by decide +kernel
theorem dX4_dispute_17 : decode cX4_dispute 17 = .ok (.ldc 143, 2) := by decide +kernel
theorem dX4_dispute_19 : decode cX4_dispute 19 = .ok (.invokespecial 70, 3) := by decide +kernel
theorem dX4_dispute_22 : decode cX4_dispute 22 = .ok (.athrow, 1) := by decide +kernel
theorem dX4_dispute_23 : decode cX4_dispute 23 = .ok (.aload_n 2, 1) := by decide +kernel
theorem dX4_dispute_24 : decode cX4_dispute 24 = .ok (.getfield 145, 3) := by decide +kernel
theorem dX4_dispute_27 : decode cX4_dispute 27 = .ok (.ifCond .eq 13, 3) := by decide +kernel
theorem dX4_dispute_30 : decode cX4_dispute 30 = .ok (.new 66, 3) := by decide +kernel
theorem dX4_dispute_33 : decode cX4_dispute 33 = .ok (.dup, 1) := by decide +kernel
theorem dX4_dispute_34 : decode cX4_dispute 34 = .ok (.ldc 149, 2) := by decide +kernel
theorem dX4_dispute_36 : decode cX4_dispute 36 = .ok (.invokespecial 70, 3) := by decide +kernel
theorem dX4_dispute_39 : decode cX4_dispute 39 = .ok (.athrow, 1) := by decide +kernel
theorem dX4_dispute_40 : decode cX4_dispute 40 = .ok (.aload_n 0, 1) := by decide +kernel
theorem dX4_dispute_41 : decode cX4_dispute 41 = .ok (.getfield 120, 3) := by decide +kernel
theorem dX4_dispute_44 : decode cX4_dispute 44 = .ok (.aload_n 2, 1) := by decide +kernel
theorem dX4_dispute_45 : decode cX4_dispute 45 = .ok (.getfield 151, 3) := by decide +kernel
theorem dX4_dispute_48 : decode cX4_dispute 48 = .ok (.isub, 1) := by decide +kernel
theorem dX4_dispute_49 : decode cX4_dispute 49 = .ok (.bipush 50, 2) := by decide +kernel
theorem dX4_dispute_51 : decode cX4_dispute 51 = .ok (.if_icmp .le 13, 3) := by decide +kernel
theorem dX4_dispute_54 : decode cX4_dispute 54 = .ok (.new 66, 3) := by decide +kernel
theorem dX4_dispute_57 : decode cX4_dispute 57 = .ok (.dup, 1) := by decide +kernel
theorem dX4_dispute_58 : decode cX4_dispute 58 = .ok (.ldc 154, 2) := by decide +kernel
theorem dX4_dispute_60 : decode cX4_dispute 60 = .ok (.invokespecial 70, 3) := by decide +kernel
theorem dX4_dispute_63 : decode cX4_dispute 63 = .ok (.athrow, 1) := by decide +kernel
theorem dX4_dispute_64 : decode cX4_dispute 64 = .ok (.aload_n 2, 1) := by decide +kernel
theorem dX4_dispute_65 : decode cX4_dispute 65 = .ok (.invokevirtual 156, 3) := by decide +kernel
theorem dX4_dispute_68 : decode cX4_dispute 68 = .ok (.ireturn, 1) := by decide +kernel
set_option maxRecDepth 20000 in
theorem ggX4_pass_X4_refuseOutside : GoodIn wsX4_pass wsX4_refuseOutside := goodIn_ca (goodIn_r _ [5, 6, 7] (by decide +kernel) (by decide +kernel)) (goodIn_sub (fun _ h => List.mem_cons_of_mem _ (List.mem_append_right _ h)) (by decide +kernel))
set_option maxRecDepth 20000 in
theorem gX4_pass_X4_refuseOutside : GoodIn wsX4_pass (va_wsS RX4 39 yX4_refuseOutside wsX4_refuseOutside) := goodIn_app (goodIn_of _ (by decide +kernel)) ggX4_pass_X4_refuseOutside
set_option maxRecDepth 20000 in
theorem ggX4_pass_X4_runOutHolds : GoodIn wsX4_pass wsX4_runOutHolds := goodIn_r _ [11, 12, 13, 14, 1, 15, 16, 17, 18, 19, 20, 21, 22, 23, 24, 25, 26, 27, 28, 29, 30, 31, 32, 33, 34, 35, 36, 37, 38, 39, 40, 41, 42, 43, 44, 45, 46, 47, 48, 49, 50, 51, 52, 53, 54, 55, 56, 57, 58, 59, 60, 61, 62, 63, 64, 65, 66, 67, 68, 69, 85, 86, 87, 88, 89, 90, 91, 92, 93, 94, 95, 96, 97, 98, 99, 100, 101, 102, 103, 104, 105, 106, 107, 108, 109] (by decide +kernel) (by decide +kernel)
set_option maxRecDepth 20000 in
theorem gX4_pass_X4_runOutHolds : GoodIn wsX4_pass (wsV RX4 159 RX4 yX4_runOutHolds wsX4_runOutHolds) := goodIn_app (goodIn_of _ (by decide +kernel)) ggX4_pass_X4_runOutHolds
set_option maxRecDepth 20000 in
theorem ggX4_pass_X4_refillBuckets : GoodIn wsX4_pass wsX4_refillBuckets := goodIn_r _ [73, 74, 75, 15, 16, 17, 18, 19, 20, 21, 22, 23, 24, 25, 26, 27, 28, 29, 30, 31, 32, 33, 34, 35, 36, 37, 76, 54, 77, 78, 79, 80, 65, 66, 67, 68, 81, 82, 83, 84, 69, 58, 85, 86, 87, 88, 89, 90, 98, 99, 100, 101, 102, 103, 104, 105, 106, 107, 108, 109, 110, 111, 112, 113] (by decide +kernel) (by decide +kernel)
set_option maxRecDepth 20000 in
theorem gX4_pass_X4_refillBuckets : GoodIn wsX4_pass (wsV RX4 162 RX4 yX4_refillBuckets wsX4_refillBuckets) := goodIn_app (goodIn_of _ (by decide +kernel)) ggX4_pass_X4_refillBuckets
theorem dX4_pass_0 : decode cX4_pass 0 = .ok (.iload_n 1, 1) := by decide +kernel
theorem dX4_pass_1 : decode cX4_pass 1 = .ok (.iconst 1, 1) := by decide +kernel
theorem dX4_pass_2 : decode cX4_pass 2 = .ok (.bipush 100, 2) := by decide +kernel
theorem dX4_pass_4 : decode cX4_pass 4 = .ok (.invokestatic 39, 3) := by decide +kernel
theorem dX4_pass_7 : decode cX4_pass 7 = .ok (.iconst 0, 1) := by decide +kernel
theorem dX4_pass_8 : decode cX4_pass 8 = .ok (.istore_n 2, 1) := by decide +kernel
theorem dX4_pass_9 : decode cX4_pass 9 = .ok (.iconst 0, 1) := by decide +kernel
theorem dX4_pass_10 : decode cX4_pass 10 = .ok (.istore_n 3, 1) := by decide +kernel
theorem dX4_pass_11 : decode cX4_pass 11 = .ok (.iload_n 3, 1) := by decide +kernel
theorem dX4_pass_12 : decode cX4_pass 12 = .ok (.iload_n 1, 1) := by decide +kernel
theorem dX4_pass_13 : decode cX4_pass 13 = .ok (.if_icmp .ge 30, 3) := by decide +kernel
theorem dX4_pass_16 : decode cX4_pass 16 = .ok (.aload_n 0, 1) := by decide +kernel
theorem dX4_pass_17 : decode cX4_pass 17 = .ok (.dup, 1) := by decide +kernel
theorem dX4_pass_18 : decode cX4_pass 18 = .ok (.getfield 120, 3) := by decide +kernel
theorem dX4_pass_21 : decode cX4_pass 21 = .ok (.iconst 1, 1) := by decide +kernel
theorem dX4_pass_22 : decode cX4_pass 22 = .ok (.iadd, 1) := by decide +kernel
theorem dX4_pass_23 : decode cX4_pass 23 = .ok (.putfield 120, 3) := by decide +kernel
theorem dX4_pass_26 : decode cX4_pass 26 = .ok (.iload_n 2, 1) := by decide +kernel
theorem dX4_pass_27 : decode cX4_pass 27 = .ok (.aload_n 0, 1) := by decide +kernel
theorem dX4_pass_28 : decode cX4_pass 28 = .ok (.invokevirtual 159, 3) := by decide +kernel
theorem dX4_pass_31 : decode cX4_pass 31 = .ok (.iadd, 1) := by decide +kernel
theorem dX4_pass_32 : decode cX4_pass 32 = .ok (.istore_n 2, 1) := by decide +kernel
theorem dX4_pass_33 : decode cX4_pass 33 = .ok (.aload_n 0, 1) := by decide +kernel
theorem dX4_pass_34 : decode cX4_pass 34 = .ok (.invokevirtual 162, 3) := by decide +kernel
theorem dX4_pass_37 : decode cX4_pass 37 = .ok (.iinc 3 1, 3) := by decide +kernel
theorem dX4_pass_40 : decode cX4_pass 40 = .ok (.goto (-29), 3) := by decide +kernel
theorem dX4_pass_43 : decode cX4_pass 43 = .ok (.iload_n 2, 1) := by decide +kernel
theorem dX4_pass_44 : decode cX4_pass 44 = .ok (.ireturn, 1) := by decide +kernel
theorem dX4_now_0 : decode cX4_now 0 = .ok (.aload_n 0, 1) := by decide +kernel
theorem dX4_now_1 : decode cX4_now 1 = .ok (.getfield 120, 3) := by decide +kernel
theorem dX4_now_4 : decode cX4_now 4 = .ok (.ireturn, 1) := by decide +kernel
set_option maxRecDepth 20000 in
theorem ggX4_calls_Jx4a65c_size_8abf5 : GoodIn wsX4_calls wsJx4a65c_size_8abf5 := goodIn_r _ [6, 7, 14, 15, 16] (by decide +kernel) (by decide +kernel)
set_option maxRecDepth 20000 in
theorem gX4_calls_Jx4a65c_size_8abf5 : GoodIn wsX4_calls (wsV RX4 63 RJx4a65c yJx4a65c_size_8abf5 wsJx4a65c_size_8abf5) := goodIn_app (goodIn_of _ (by decide +kernel)) ggX4_calls_Jx4a65c_size_8abf5
theorem dX4_calls_0 : decode cX4_calls 0 = .ok (.aload_n 0, 1) := by decide +kernel
theorem dX4_calls_1 : decode cX4_calls 1 = .ok (.getfield 28, 3) := by decide +kernel
theorem dX4_calls_4 : decode cX4_calls 4 = .ok (.invokevirtual 63, 3) := by decide +kernel
theorem dX4_calls_7 : decode cX4_calls 7 = .ok (.ireturn, 1) := by decide +kernel
set_option maxRecDepth 20000 in
theorem ggX4_credit_X4_keyAt : GoodIn wsX4_credit wsX4_keyAt := goodIn_ca (goodIn_r _ [5, 6, 7, 8, 9, 10, 11, 12, 13, 14, 15, 16, 17, 18, 19, 20, 21, 22, 23, 24, 25, 26, 27, 28, 29, 30, 31, 32, 42, 43, 44, 45, 46, 47, 48, 49, 50] (by decide +kernel) (by decide +kernel)) (goodIn_sub (fun _ h => List.mem_cons_of_mem _ (List.mem_append_right _ h)) (by decide +kernel))
set_option maxRecDepth 20000 in
theorem gX4_credit_X4_keyAt : GoodIn wsX4_credit (wsV RX4 82 RX4 yX4_keyAt wsX4_keyAt) := goodIn_app (goodIn_of _ (by decide +kernel)) ggX4_credit_X4_keyAt
theorem dX4_credit_0 : decode cX4_credit 0 = .ok (.aload_n 0, 1) := by decide +kernel
theorem dX4_credit_1 : decode cX4_credit 1 = .ok (.iload_n 1, 1) := by decide +kernel
theorem dX4_credit_2 : decode cX4_credit 2 = .ok (.invokevirtual 82, 3) := by decide +kernel
theorem dX4_credit_5 : decode cX4_credit 5 = .ok (.getfield 103, 3) := by decide +kernel
theorem dX4_credit_8 : decode cX4_credit 8 = .ok (.ireturn, 1) := by decide +kernel
set_option maxRecDepth 20000 in
theorem ggX4_debt_X4_keyAt : GoodIn wsX4_debt wsX4_keyAt := goodIn_ca (goodIn_r _ [5, 6, 7, 8, 9, 10, 11, 12, 13, 14, 15, 16, 17, 18, 19, 20, 21, 22, 23, 24, 25, 26, 27, 28, 29, 30, 31, 32, 42, 43, 44, 45, 46, 47, 48, 49, 50] (by decide +kernel) (by decide +kernel)) (goodIn_sub (fun _ h => List.mem_cons_of_mem _ (List.mem_append_right _ h)) (by decide +kernel))
set_option maxRecDepth 20000 in
theorem gX4_debt_X4_keyAt : GoodIn wsX4_debt (wsV RX4 82 RX4 yX4_keyAt wsX4_keyAt) := goodIn_app (goodIn_of _ (by decide +kernel)) ggX4_debt_X4_keyAt
theorem dX4_debt_0 : decode cX4_debt 0 = .ok (.aload_n 0, 1) := by decide +kernel
theorem dX4_debt_1 : decode cX4_debt 1 = .ok (.iload_n 1, 1) := by decide +kernel
theorem dX4_debt_2 : decode cX4_debt 2 = .ok (.invokevirtual 82, 3) := by decide +kernel
theorem dX4_debt_5 : decode cX4_debt 5 = .ok (.getfield 165, 3) := by decide +kernel
theorem dX4_debt_8 : decode cX4_debt 8 = .ok (.ireturn, 1) := by decide +kernel
set_option maxRecDepth 20000 in
theorem ggX4_held_X4_keyAt : GoodIn wsX4_held wsX4_keyAt := goodIn_ca (goodIn_r _ [5, 6, 7, 8, 9, 10, 11, 12, 13, 14, 15, 16, 17, 18, 19, 20, 21, 22, 23, 24, 25, 26, 27, 28, 29, 30, 31, 32, 42, 43, 44, 45, 46, 47, 48, 49, 50] (by decide +kernel) (by decide +kernel)) (goodIn_sub (fun _ h => List.mem_cons_of_mem _ (List.mem_append_right _ h)) (by decide +kernel))
set_option maxRecDepth 20000 in
theorem gX4_held_X4_keyAt : GoodIn wsX4_held (wsV RX4 82 RX4 yX4_keyAt wsX4_keyAt) := goodIn_app (goodIn_of _ (by decide +kernel)) ggX4_held_X4_keyAt
theorem dX4_held_0 : decode cX4_held 0 = .ok (.aload_n 0, 1) := by decide +kernel
theorem dX4_held_1 : decode cX4_held 1 = .ok (.iload_n 1, 1) := by decide +kernel
theorem dX4_held_2 : decode cX4_held 2 = .ok (.invokevirtual 82, 3) := by decide +kernel
theorem dX4_held_5 : decode cX4_held 5 = .ok (.getfield 168, 3) := by decide +kernel
theorem dX4_held_8 : decode cX4_held 8 = .ok (.ireturn, 1) := by decide +kernel
set_option maxRecDepth 20000 in
theorem ggX4_tokens_X4_keyAt : GoodIn wsX4_tokens wsX4_keyAt := goodIn_ca (goodIn_r _ [5, 6, 7, 8, 9, 10, 11, 12, 13, 14, 15, 16, 17, 18, 19, 20, 21, 22, 23, 24, 25, 26, 27, 28, 29, 30, 31, 32, 42, 43, 44, 45, 46, 47, 48, 49, 50] (by decide +kernel) (by decide +kernel)) (goodIn_sub (fun _ h => List.mem_cons_of_mem _ (List.mem_append_right _ h)) (by decide +kernel))
set_option maxRecDepth 20000 in
theorem gX4_tokens_X4_keyAt : GoodIn wsX4_tokens (wsV RX4 82 RX4 yX4_keyAt wsX4_keyAt) := goodIn_app (goodIn_of _ (by decide +kernel)) ggX4_tokens_X4_keyAt
theorem dX4_tokens_0 : decode cX4_tokens 0 = .ok (.aload_n 0, 1) := by decide +kernel
theorem dX4_tokens_1 : decode cX4_tokens 1 = .ok (.iload_n 1, 1) := by decide +kernel
theorem dX4_tokens_2 : decode cX4_tokens 2 = .ok (.invokevirtual 82, 3) := by decide +kernel
theorem dX4_tokens_5 : decode cX4_tokens 5 = .ok (.getfield 108, 3) := by decide +kernel
theorem dX4_tokens_8 : decode cX4_tokens 8 = .ok (.ireturn, 1) := by decide +kernel
set_option maxRecDepth 20000 in
theorem ggX4_isSlowed_X4_keyAt : GoodIn wsX4_isSlowed wsX4_keyAt := goodIn_ca (goodIn_r _ [5, 6, 7, 8, 9, 10, 11, 12, 13, 14, 15, 16, 17, 18, 19, 20, 21, 22, 23, 24, 25, 26, 27, 28, 29, 30, 31, 32, 39, 40, 41, 42, 43, 44, 45, 46, 47] (by decide +kernel) (by decide +kernel)) (goodIn_sub (fun _ h => List.mem_cons_of_mem _ (List.mem_append_right _ h)) (by decide +kernel))
set_option maxRecDepth 20000 in
theorem gX4_isSlowed_X4_keyAt : GoodIn wsX4_isSlowed (wsV RX4 82 RX4 yX4_keyAt wsX4_keyAt) := goodIn_app (goodIn_of _ (by decide +kernel)) ggX4_isSlowed_X4_keyAt
set_option maxRecDepth 20000 in
theorem ggX4_isSlowed_X1_refillsSlowly : GoodIn wsX4_isSlowed wsX1_refillsSlowly := goodIn_r _ [36, 37, 38, 48, 49, 50, 51, 52, 53, 54, 55, 56] (by decide +kernel) (by decide +kernel)
set_option maxRecDepth 20000 in
theorem gX4_isSlowed_X1_refillsSlowly_n171 : GoodIn wsX4_isSlowed (wsX1_refillsSlowly) := ggX4_isSlowed_X1_refillsSlowly
theorem dX4_isSlowed_0 : decode cX4_isSlowed 0 = .ok (.aload_n 0, 1) := by decide +kernel
theorem dX4_isSlowed_1 : decode cX4_isSlowed 1 = .ok (.iload_n 1, 1) := by decide +kernel
theorem dX4_isSlowed_2 : decode cX4_isSlowed 2 = .ok (.invokevirtual 82, 3) := by decide +kernel
theorem dX4_isSlowed_5 : decode cX4_isSlowed 5 = .ok (.invokevirtual 171, 3) := by decide +kernel
theorem dX4_isSlowed_8 : decode cX4_isSlowed 8 = .ok (.ireturn, 1) := by decide +kernel
set_option maxRecDepth 20000 in
theorem ggX4_cost_X4_callAt : GoodIn wsX4_cost wsX4_callAt := goodIn_ca (goodIn_r _ [5, 6, 7, 8, 9, 10, 11, 12, 13, 14, 15, 16, 17, 18, 19, 20, 21, 22, 23, 24, 25, 26, 27, 28, 29, 30, 31, 32, 40, 41, 42, 43, 44, 45, 46, 47, 48] (by decide +kernel) (by decide +kernel)) (goodIn_sub (fun _ h => List.mem_cons_of_mem _ (List.mem_append_right _ h)) (by decide +kernel))
set_option maxRecDepth 20000 in
theorem gX4_cost_X4_callAt : GoodIn wsX4_cost (wsV RX4 126 RX4 yX4_callAt wsX4_callAt) := goodIn_app (goodIn_of _ (by decide +kernel)) ggX4_cost_X4_callAt
theorem dX4_cost_0 : decode cX4_cost 0 = .ok (.aload_n 0, 1) := by decide +kernel
theorem dX4_cost_1 : decode cX4_cost 1 = .ok (.iload_n 1, 1) := by decide +kernel
theorem dX4_cost_2 : decode cX4_cost 2 = .ok (.invokevirtual 126, 3) := by decide +kernel
theorem dX4_cost_5 : decode cX4_cost 5 = .ok (.getfield 140, 3) := by decide +kernel
theorem dX4_cost_8 : decode cX4_cost 8 = .ok (.ireturn, 1) := by decide +kernel
set_option maxRecDepth 20000 in
theorem ggX4_spent_X4_keyAt : GoodIn wsX4_spent wsX4_keyAt := goodIn_ca (goodIn_r _ [5, 6, 7, 8, 9, 10, 11, 12, 13, 14, 15, 16, 17, 18, 19, 20, 21, 22, 23, 24, 25, 26, 27, 28, 29, 30, 31, 32, 42, 43, 44, 45, 46, 47, 48, 49, 50] (by decide +kernel) (by decide +kernel)) (goodIn_sub (fun _ h => List.mem_cons_of_mem _ (List.mem_append_right _ h)) (by decide +kernel))
set_option maxRecDepth 20000 in
theorem gX4_spent_X4_keyAt : GoodIn wsX4_spent (wsV RX4 82 RX4 yX4_keyAt wsX4_keyAt) := goodIn_app (goodIn_of _ (by decide +kernel)) ggX4_spent_X4_keyAt
theorem dX4_spent_0 : decode cX4_spent 0 = .ok (.aload_n 0, 1) := by decide +kernel
theorem dX4_spent_1 : decode cX4_spent 1 = .ok (.iload_n 1, 1) := by decide +kernel
theorem dX4_spent_2 : decode cX4_spent 2 = .ok (.invokevirtual 82, 3) := by decide +kernel
theorem dX4_spent_5 : decode cX4_spent 5 = .ok (.getfield 174, 3) := by decide +kernel
theorem dX4_spent_8 : decode cX4_spent 8 = .ok (.ireturn, 1) := by decide +kernel
set_option maxRecDepth 20000 in
theorem ggX4_paid_X4_keyAt : GoodIn wsX4_paid wsX4_keyAt := goodIn_ca (goodIn_r _ [5, 6, 7, 8, 9, 10, 11, 12, 13, 14, 15, 16, 17, 18, 19, 20, 21, 22, 23, 24, 25, 26, 27, 28, 29, 30, 31, 32, 42, 43, 44, 45, 46, 47, 48, 49, 50] (by decide +kernel) (by decide +kernel)) (goodIn_sub (fun _ h => List.mem_cons_of_mem _ (List.mem_append_right _ h)) (by decide +kernel))
set_option maxRecDepth 20000 in
theorem gX4_paid_X4_keyAt : GoodIn wsX4_paid (wsV RX4 82 RX4 yX4_keyAt wsX4_keyAt) := goodIn_app (goodIn_of _ (by decide +kernel)) ggX4_paid_X4_keyAt
theorem dX4_paid_0 : decode cX4_paid 0 = .ok (.aload_n 0, 1) := by decide +kernel
theorem dX4_paid_1 : decode cX4_paid 1 = .ok (.iload_n 1, 1) := by decide +kernel
theorem dX4_paid_2 : decode cX4_paid 2 = .ok (.invokevirtual 82, 3) := by decide +kernel
theorem dX4_paid_5 : decode cX4_paid 5 = .ok (.getfield 97, 3) := by decide +kernel
theorem dX4_paid_8 : decode cX4_paid 8 = .ok (.ireturn, 1) := by decide +kernel
theorem dX4_planAt_0 : decode cX4_planAt 0 = .ok (.iload_n 1, 1) := by decide +kernel
theorem dX4_planAt_1 : decode cX4_planAt 1 = .ok (.ifCond .lt 12, 3) := by decide +kernel
theorem dX4_planAt_4 : decode cX4_planAt 4 = .ok (.iload_n 1, 1) := by decide +kernel
theorem dX4_planAt_5 : decode cX4_planAt 5 = .ok (.aload_n 0, 1) := by decide +kernel
theorem dX4_planAt_6 : decode cX4_planAt 6 = .ok (.getfield 11, 3) := by decide +kernel
theorem dX4_planAt_9 : decode cX4_planAt 9 = .ok (.arraylength, 1) := by decide +kernel
theorem dX4_planAt_10 : decode cX4_planAt 10 = .ok (.if_icmp .lt 13, 3) := by decide +kernel
theorem dX4_planAt_13 : decode cX4_planAt 13 = .ok (.new 177, 3) := by decide +kernel
theorem dX4_planAt_16 : decode cX4_planAt 16 = .ok (.dup, 1) := by decide +kernel
theorem dX4_planAt_17 : decode cX4_planAt 17 = .ok (.ldc 179, 2) := by decide +kernel
theorem dX4_planAt_19 : decode cX4_planAt 19 = .ok (.invokespecial 181, 3) := by decide +kernel
theorem dX4_planAt_22 : decode cX4_planAt 22 = .ok (.athrow, 1) := by decide +kernel
theorem dX4_planAt_23 : decode cX4_planAt 23 = .ok (.aload_n 0, 1) := by decide +kernel
theorem dX4_planAt_24 : decode cX4_planAt 24 = .ok (.getfield 11, 3) := by decide +kernel
theorem dX4_planAt_27 : decode cX4_planAt 27 = .ok (.iload_n 1, 1) := by decide +kernel
theorem dX4_planAt_28 : decode cX4_planAt 28 = .ok (.aaload, 1) := by decide +kernel
theorem dX4_planAt_29 : decode cX4_planAt 29 = .ok (.areturn, 1) := by decide +kernel
theorem dX4_routeAt_0 : decode cX4_routeAt 0 = .ok (.iload_n 1, 1) := by decide +kernel
theorem dX4_routeAt_1 : decode cX4_routeAt 1 = .ok (.ifCond .lt 12, 3) := by decide +kernel
theorem dX4_routeAt_4 : decode cX4_routeAt 4 = .ok (.iload_n 1, 1) := by decide +kernel
theorem dX4_routeAt_5 : decode cX4_routeAt 5 = .ok (.aload_n 0, 1) := by decide +kernel
theorem dX4_routeAt_6 : decode cX4_routeAt 6 = .ok (.getfield 17, 3) := by decide +kernel
theorem dX4_routeAt_9 : decode cX4_routeAt 9 = .ok (.arraylength, 1) := by decide +kernel
theorem dX4_routeAt_10 : decode cX4_routeAt 10 = .ok (.if_icmp .lt 13, 3) := by decide +kernel
theorem dX4_routeAt_13 : decode cX4_routeAt 13 = .ok (.new 177, 3) := by decide +kernel
theorem dX4_routeAt_16 : decode cX4_routeAt 16 = .ok (.dup, 1) := by decide +kernel
theorem dX4_routeAt_17 : decode cX4_routeAt 17 = .ok (.ldc 182, 2) := by decide +kernel
theorem dX4_routeAt_19 : decode cX4_routeAt 19 = .ok (.invokespecial 181, 3) := by decide +kernel
theorem dX4_routeAt_22 : decode cX4_routeAt 22 = .ok (.athrow, 1) := by decide +kernel
theorem dX4_routeAt_23 : decode cX4_routeAt 23 = .ok (.aload_n 0, 1) := by decide +kernel
theorem dX4_routeAt_24 : decode cX4_routeAt 24 = .ok (.getfield 17, 3) := by decide +kernel
theorem dX4_routeAt_27 : decode cX4_routeAt 27 = .ok (.iload_n 1, 1) := by decide +kernel
theorem dX4_routeAt_28 : decode cX4_routeAt 28 = .ok (.aaload, 1) := by decide +kernel
theorem dX4_routeAt_29 : decode cX4_routeAt 29 = .ok (.areturn, 1) := by decide +kernel
set_option maxRecDepth 20000 in
theorem ggX4_keyAt_Jx4a65c_size_8abf5 : GoodIn wsX4_keyAt wsJx4a65c_size_8abf5 := goodIn_r _ [9, 10, 34, 35, 36] (by decide +kernel) (by decide +kernel)
set_option maxRecDepth 20000 in
theorem gX4_keyAt_Jx4a65c_size_8abf5 : GoodIn wsX4_keyAt (wsV RX4 63 RJx4a65c yJx4a65c_size_8abf5 wsJx4a65c_size_8abf5) := goodIn_app (goodIn_of _ (by decide +kernel)) ggX4_keyAt_Jx4a65c_size_8abf5
set_option maxRecDepth 20000 in
theorem ggX4_keyAt_Jx4a65c_get_915e3 : GoodIn wsX4_keyAt wsJx4a65c_get_915e3 := goodIn_r _ [14, 10, 15, 16, 17, 18, 19, 20, 21, 22, 23, 24, 25, 8, 26, 27, 34, 35, 36] (by decide +kernel) (by decide +kernel)
set_option maxRecDepth 20000 in
theorem gX4_keyAt_Jx4a65c_get_915e3 : GoodIn wsX4_keyAt (wsV RX4 189 RJx4a65c yJx4a65c_get_915e3 wsJx4a65c_get_915e3) := goodIn_app (goodIn_of _ (by decide +kernel)) ggX4_keyAt_Jx4a65c_get_915e3
theorem dX4_keyAt_0 : decode cX4_keyAt 0 = .ok (.iload_n 1, 1) := by decide +kernel
theorem dX4_keyAt_1 : decode cX4_keyAt 1 = .ok (.ifCond .lt 14, 3) := by decide +kernel
theorem dX4_keyAt_4 : decode cX4_keyAt 4 = .ok (.iload_n 1, 1) := by decide +kernel
theorem dX4_keyAt_5 : decode cX4_keyAt 5 = .ok (.aload_n 0, 1) := by decide +kernel
theorem dX4_keyAt_6 : decode cX4_keyAt 6 = .ok (.getfield 24, 3) := by decide +kernel
theorem dX4_keyAt_9 : decode cX4_keyAt 9 = .ok (.invokevirtual 63, 3) := by decide +kernel
theorem dX4_keyAt_12 : decode cX4_keyAt 12 = .ok (.if_icmp .lt 13, 3) := by decide +kernel
theorem dX4_keyAt_15 : decode cX4_keyAt 15 = .ok (.new 184, 3) := by decide +kernel
theorem dX4_keyAt_18 : decode cX4_keyAt 18 = .ok (.dup, 1) := by decide +kernel
theorem dX4_keyAt_19 : decode cX4_keyAt 19 = .ok (.ldc 186, 2) := by decide +kernel
theorem dX4_keyAt_21 : decode cX4_keyAt 21 = .ok (.invokespecial 188, 3) := by decide +kernel
theorem dX4_keyAt_24 : decode cX4_keyAt 24 = .ok (.athrow, 1) := by decide +kernel
theorem dX4_keyAt_25 : decode cX4_keyAt 25 = .ok (.aload_n 0, 1) := by decide +kernel
theorem dX4_keyAt_26 : decode cX4_keyAt 26 = .ok (.getfield 24, 3) := by decide +kernel
theorem dX4_keyAt_29 : decode cX4_keyAt 29 = .ok (.iload_n 1, 1) := by decide +kernel
theorem dX4_keyAt_30 : decode cX4_keyAt 30 = .ok (.invokevirtual 189, 3) := by decide +kernel
theorem dX4_keyAt_33 : decode cX4_keyAt 33 = .ok (.checkcast 73, 3) := by decide +kernel
theorem dX4_keyAt_36 : decode cX4_keyAt 36 = .ok (.areturn, 1) := by decide +kernel
set_option maxRecDepth 20000 in
theorem ggX4_callAt_Jx4a65c_size_8abf5 : GoodIn wsX4_callAt wsJx4a65c_size_8abf5 := goodIn_r _ [9, 10, 34, 35, 36] (by decide +kernel) (by decide +kernel)
set_option maxRecDepth 20000 in
theorem gX4_callAt_Jx4a65c_size_8abf5 : GoodIn wsX4_callAt (wsV RX4 63 RJx4a65c yJx4a65c_size_8abf5 wsJx4a65c_size_8abf5) := goodIn_app (goodIn_of _ (by decide +kernel)) ggX4_callAt_Jx4a65c_size_8abf5
set_option maxRecDepth 20000 in
theorem ggX4_callAt_Jx4a65c_get_915e3 : GoodIn wsX4_callAt wsJx4a65c_get_915e3 := goodIn_r _ [14, 10, 15, 16, 17, 18, 19, 20, 21, 22, 23, 24, 25, 8, 26, 27, 34, 35, 36] (by decide +kernel) (by decide +kernel)
set_option maxRecDepth 20000 in
theorem gX4_callAt_Jx4a65c_get_915e3 : GoodIn wsX4_callAt (wsV RX4 189 RJx4a65c yJx4a65c_get_915e3 wsJx4a65c_get_915e3) := goodIn_app (goodIn_of _ (by decide +kernel)) ggX4_callAt_Jx4a65c_get_915e3
theorem dX4_callAt_0 : decode cX4_callAt 0 = .ok (.iload_n 1, 1) := by decide +kernel
theorem dX4_callAt_1 : decode cX4_callAt 1 = .ok (.ifCond .lt 14, 3) := by decide +kernel
theorem dX4_callAt_4 : decode cX4_callAt 4 = .ok (.iload_n 1, 1) := by decide +kernel
theorem dX4_callAt_5 : decode cX4_callAt 5 = .ok (.aload_n 0, 1) := by decide +kernel
theorem dX4_callAt_6 : decode cX4_callAt 6 = .ok (.getfield 28, 3) := by decide +kernel
theorem dX4_callAt_9 : decode cX4_callAt 9 = .ok (.invokevirtual 63, 3) := by decide +kernel
theorem dX4_callAt_12 : decode cX4_callAt 12 = .ok (.if_icmp .lt 13, 3) := by decide +kernel
theorem dX4_callAt_15 : decode cX4_callAt 15 = .ok (.new 184, 3) := by decide +kernel
theorem dX4_callAt_18 : decode cX4_callAt 18 = .ok (.dup, 1) := by decide +kernel
theorem dX4_callAt_19 : decode cX4_callAt 19 = .ok (.ldc 193, 2) := by decide +kernel
theorem dX4_callAt_21 : decode cX4_callAt 21 = .ok (.invokespecial 188, 3) := by decide +kernel
theorem dX4_callAt_24 : decode cX4_callAt 24 = .ok (.athrow, 1) := by decide +kernel
theorem dX4_callAt_25 : decode cX4_callAt 25 = .ok (.aload_n 0, 1) := by decide +kernel
theorem dX4_callAt_26 : decode cX4_callAt 26 = .ok (.getfield 28, 3) := by decide +kernel
theorem dX4_callAt_29 : decode cX4_callAt 29 = .ok (.iload_n 1, 1) := by decide +kernel
theorem dX4_callAt_30 : decode cX4_callAt 30 = .ok (.invokevirtual 189, 3) := by decide +kernel
theorem dX4_callAt_33 : decode cX4_callAt 33 = .ok (.checkcast 118, 3) := by decide +kernel
theorem dX4_callAt_36 : decode cX4_callAt 36 = .ok (.areturn, 1) := by decide +kernel
theorem dX4_refuseOutside_0 : decode cX4_refuseOutside 0 = .ok (.iload_n 0, 1) := by decide +kernel
theorem dX4_refuseOutside_1 : decode cX4_refuseOutside 1 = .ok (.iload_n 1, 1) := by decide +kernel
theorem dX4_refuseOutside_2 : decode cX4_refuseOutside 2 = .ok (.if_icmp .lt 8, 3) := by decide +kernel
theorem dX4_refuseOutside_5 : decode cX4_refuseOutside 5 = .ok (.iload_n 0, 1) := by decide +kernel
theorem dX4_refuseOutside_6 : decode cX4_refuseOutside 6 = .ok (.iload_n 2, 1) := by decide +kernel
theorem dX4_refuseOutside_7 : decode cX4_refuseOutside 7 = .ok (.if_icmp .le 13, 3) := by decide +kernel
theorem dX4_refuseOutside_10 : decode cX4_refuseOutside 10 = .ok (.new 177, 3) := by decide +kernel
theorem dX4_refuseOutside_13 : decode cX4_refuseOutside 13 = .ok (.dup, 1) := by decide +kernel
theorem dX4_refuseOutside_14 : decode cX4_refuseOutside 14 = .ok (.ldc 195, 2) := by decide +kernel
theorem dX4_refuseOutside_16 : decode cX4_refuseOutside 16 = .ok (.invokespecial 181, 3) := by decide +kernel
theorem dX4_refuseOutside_19 : decode cX4_refuseOutside 19 = .ok (.athrow, 1) := by decide +kernel
theorem dX4_refuseOutside_20 : decode cX4_refuseOutside 20 = .ok (.return_, 1) := by decide +kernel
set_option maxRecDepth 20000 in
theorem ggX4_runOutHolds_Jx4a65c_size_8abf5 : GoodIn wsX4_runOutHolds wsJx4a65c_size_8abf5 := goodIn_r _ [9, 10, 73, 74, 75] (by decide +kernel) (by decide +kernel)
set_option maxRecDepth 20000 in
theorem gX4_runOutHolds_Jx4a65c_size_8abf5 : GoodIn wsX4_runOutHolds (wsV RX4 63 RJx4a65c yJx4a65c_size_8abf5 wsJx4a65c_size_8abf5) := goodIn_app (goodIn_of _ (by decide +kernel)) ggX4_runOutHolds_Jx4a65c_size_8abf5
set_option maxRecDepth 20000 in
theorem ggX4_runOutHolds_Jx4a65c_get_915e3 : GoodIn wsX4_runOutHolds wsJx4a65c_get_915e3 := goodIn_r _ [14, 10, 15, 16, 17, 18, 19, 20, 21, 22, 23, 24, 25, 8, 26, 27, 73, 74, 75] (by decide +kernel) (by decide +kernel)
set_option maxRecDepth 20000 in
theorem gX4_runOutHolds_Jx4a65c_get_915e3 : GoodIn wsX4_runOutHolds (wsV RX4 189 RJx4a65c yJx4a65c_get_915e3 wsJx4a65c_get_915e3) := goodIn_app (goodIn_of _ (by decide +kernel)) ggX4_runOutHolds_Jx4a65c_get_915e3
set_option maxRecDepth 20000 in
theorem ggX4_runOutHolds_X0_hasEnded : GoodIn wsX4_runOutHolds wsX0_hasEnded := goodIn_r _ [31, 32, 66, 67, 68, 69, 70, 71, 72] (by decide +kernel) (by decide +kernel)
set_option maxRecDepth 20000 in
theorem gX4_runOutHolds_X0_hasEnded_n130 : GoodIn wsX4_runOutHolds (wsX0_hasEnded) := ggX4_runOutHolds_X0_hasEnded
set_option maxRecDepth 20000 in
theorem ggX4_runOutHolds_X0_settle : GoodIn wsX4_runOutHolds wsX0_settle := goodIn_r _ [35, 32, 36, 37, 38, 39, 40, 41, 29, 42, 43, 44, 45, 46, 47, 48, 49, 50, 51, 52, 53, 54, 55, 56, 57, 58, 59, 66, 67, 68, 69, 70, 71, 72, 76, 77, 78, 79, 80, 81, 82, 83, 84] (by decide +kernel) (by decide +kernel)
set_option maxRecDepth 20000 in
theorem gX4_runOutHolds_X0_settle_n136 : GoodIn wsX4_runOutHolds (wsX0_settle) := ggX4_runOutHolds_X0_settle
theorem dX4_runOutHolds_0 : decode cX4_runOutHolds 0 = .ok (.iconst 0, 1) := by decide +kernel
theorem dX4_runOutHolds_1 : decode cX4_runOutHolds 1 = .ok (.istore_n 1, 1) := by decide +kernel
theorem dX4_runOutHolds_2 : decode cX4_runOutHolds 2 = .ok (.aload_n 0, 1) := by decide +kernel
theorem dX4_runOutHolds_3 : decode cX4_runOutHolds 3 = .ok (.getfield 197, 3) := by decide +kernel
theorem dX4_runOutHolds_6 : decode cX4_runOutHolds 6 = .ok (.aload_n 0, 1) := by decide +kernel
theorem dX4_runOutHolds_7 : decode cX4_runOutHolds 7 = .ok (.getfield 28, 3) := by decide +kernel
theorem dX4_runOutHolds_10 : decode cX4_runOutHolds 10 = .ok (.invokevirtual 63, 3) := by decide +kernel
theorem dX4_runOutHolds_13 : decode cX4_runOutHolds 13 = .ok (.if_icmp .ge 74, 3) := by decide +kernel
theorem dX4_runOutHolds_16 : decode cX4_runOutHolds 16 = .ok (.aload_n 0, 1) := by decide +kernel
theorem dX4_runOutHolds_17 : decode cX4_runOutHolds 17 = .ok (.getfield 28, 3) := by decide +kernel
theorem dX4_runOutHolds_20 : decode cX4_runOutHolds 20 = .ok (.aload_n 0, 1) := by decide +kernel
theorem dX4_runOutHolds_21 : decode cX4_runOutHolds 21 = .ok (.getfield 197, 3) := by decide +kernel
theorem dX4_runOutHolds_24 : decode cX4_runOutHolds 24 = .ok (.invokevirtual 189, 3) := by decide +kernel
theorem dX4_runOutHolds_27 : decode cX4_runOutHolds 27 = .ok (.checkcast 118, 3) := by decide +kernel
theorem dX4_runOutHolds_30 : decode cX4_runOutHolds 30 = .ok (.getfield 200, 3) := by decide +kernel
theorem dX4_runOutHolds_33 : decode cX4_runOutHolds 33 = .ok (.aload_n 0, 1) := by decide +kernel
theorem dX4_runOutHolds_34 : decode cX4_runOutHolds 34 = .ok (.getfield 120, 3) := by decide +kernel
theorem dX4_runOutHolds_37 : decode cX4_runOutHolds 37 = .ok (.if_icmp .gt 50, 3) := by decide +kernel
theorem dX4_runOutHolds_40 : decode cX4_runOutHolds 40 = .ok (.aload_n 0, 1) := by decide +kernel
theorem dX4_runOutHolds_41 : decode cX4_runOutHolds 41 = .ok (.getfield 28, 3) := by decide +kernel
theorem dX4_runOutHolds_44 : decode cX4_runOutHolds 44 = .ok (.aload_n 0, 1) := by decide +kernel
theorem dX4_runOutHolds_45 : decode cX4_runOutHolds 45 = .ok (.getfield 197, 3) := by decide +kernel
theorem dX4_runOutHolds_48 : decode cX4_runOutHolds 48 = .ok (.invokevirtual 189, 3) := by decide +kernel
theorem dX4_runOutHolds_51 : decode cX4_runOutHolds 51 = .ok (.checkcast 118, 3) := by decide +kernel
theorem dX4_runOutHolds_54 : decode cX4_runOutHolds 54 = .ok (.astore_n 2, 1) := by decide +kernel
theorem dX4_runOutHolds_55 : decode cX4_runOutHolds 55 = .ok (.aload_n 2, 1) := by decide +kernel
theorem dX4_runOutHolds_56 : decode cX4_runOutHolds 56 = .ok (.invokevirtual 130, 3) := by decide +kernel
theorem dX4_runOutHolds_59 : decode cX4_runOutHolds 59 = .ok (.ifCond .ne 15, 3) := by decide +kernel
theorem dX4_runOutHolds_62 : decode cX4_runOutHolds 62 = .ok (.aload_n 2, 1) := by decide +kernel
theorem dX4_runOutHolds_63 : decode cX4_runOutHolds 63 = .ok (.iconst 0, 1) := by decide +kernel
theorem dX4_runOutHolds_64 : decode cX4_runOutHolds 64 = .ok (.aload_n 0, 1) := by decide +kernel
theorem dX4_runOutHolds_65 : decode cX4_runOutHolds 65 = .ok (.getfield 120, 3) := by decide +kernel
theorem dX4_runOutHolds_68 : decode cX4_runOutHolds 68 = .ok (.invokevirtual 136, 3) := by decide +kernel
theorem dX4_runOutHolds_71 : decode cX4_runOutHolds 71 = .ok (.iinc 1 1, 3) := by decide +kernel
theorem dX4_runOutHolds_74 : decode cX4_runOutHolds 74 = .ok (.aload_n 0, 1) := by decide +kernel
theorem dX4_runOutHolds_75 : decode cX4_runOutHolds 75 = .ok (.dup, 1) := by decide +kernel
theorem dX4_runOutHolds_76 : decode cX4_runOutHolds 76 = .ok (.getfield 197, 3) := by decide +kernel
theorem dX4_runOutHolds_79 : decode cX4_runOutHolds 79 = .ok (.iconst 1, 1) := by decide +kernel
theorem dX4_runOutHolds_80 : decode cX4_runOutHolds 80 = .ok (.iadd, 1) := by decide +kernel
theorem dX4_runOutHolds_81 : decode cX4_runOutHolds 81 = .ok (.putfield 197, 3) := by decide +kernel
theorem dX4_runOutHolds_84 : decode cX4_runOutHolds 84 = .ok (.goto (-82), 3) := by decide +kernel
theorem dX4_runOutHolds_87 : decode cX4_runOutHolds 87 = .ok (.iload_n 1, 1) := by decide +kernel
theorem dX4_runOutHolds_88 : decode cX4_runOutHolds 88 = .ok (.ireturn, 1) := by decide +kernel
set_option maxRecDepth 20000 in
theorem ggX4_refillBuckets_Jx4a65c_size_8abf5 : GoodIn wsX4_refillBuckets wsJx4a65c_size_8abf5 := goodIn_r _ [7, 8, 48, 49, 50] (by decide +kernel) (by decide +kernel)
set_option maxRecDepth 20000 in
theorem gX4_refillBuckets_Jx4a65c_size_8abf5 : GoodIn wsX4_refillBuckets (wsV RX4 63 RJx4a65c yJx4a65c_size_8abf5 wsJx4a65c_size_8abf5) := goodIn_app (goodIn_of _ (by decide +kernel)) ggX4_refillBuckets_Jx4a65c_size_8abf5
set_option maxRecDepth 20000 in
theorem ggX4_refillBuckets_Jx4a65c_get_915e3 : GoodIn wsX4_refillBuckets wsJx4a65c_get_915e3 := goodIn_r _ [12, 8, 13, 14, 15, 16, 17, 18, 19, 20, 21, 22, 23, 6, 24, 25, 48, 49, 50] (by decide +kernel) (by decide +kernel)
set_option maxRecDepth 20000 in
theorem gX4_refillBuckets_Jx4a65c_get_915e3 : GoodIn wsX4_refillBuckets (wsV RX4 189 RJx4a65c yJx4a65c_get_915e3 wsJx4a65c_get_915e3) := goodIn_app (goodIn_of _ (by decide +kernel)) ggX4_refillBuckets_Jx4a65c_get_915e3
set_option maxRecDepth 20000 in
theorem ggX4_refillBuckets_X1_refillBucket : GoodIn wsX4_refillBuckets wsX1_refillBucket := goodIn_r _ [29, 30, 31, 32, 33, 34, 35, 36, 37, 38, 27, 39, 40, 41, 51, 52, 53, 54, 55, 56, 57, 58, 59, 60, 61, 62, 63] (by decide +kernel) (by decide +kernel)
set_option maxRecDepth 20000 in
theorem gX4_refillBuckets_X1_refillBucket_n203 : GoodIn wsX4_refillBuckets (wsX1_refillBucket) := ggX4_refillBuckets_X1_refillBucket
theorem dX4_refillBuckets_0 : decode cX4_refillBuckets 0 = .ok (.iconst 0, 1) := by decide +kernel
theorem dX4_refillBuckets_1 : decode cX4_refillBuckets 1 = .ok (.istore_n 1, 1) := by decide +kernel
theorem dX4_refillBuckets_2 : decode cX4_refillBuckets 2 = .ok (.iload_n 1, 1) := by decide +kernel
theorem dX4_refillBuckets_3 : decode cX4_refillBuckets 3 = .ok (.aload_n 0, 1) := by decide +kernel
theorem dX4_refillBuckets_4 : decode cX4_refillBuckets 4 = .ok (.getfield 24, 3) := by decide +kernel
theorem dX4_refillBuckets_7 : decode cX4_refillBuckets 7 = .ok (.invokevirtual 63, 3) := by decide +kernel
theorem dX4_refillBuckets_10 : decode cX4_refillBuckets 10 = .ok (.if_icmp .ge 23, 3) := by decide +kernel
theorem dX4_refillBuckets_13 : decode cX4_refillBuckets 13 = .ok (.aload_n 0, 1) := by decide +kernel
theorem dX4_refillBuckets_14 : decode cX4_refillBuckets 14 = .ok (.getfield 24, 3) := by decide +kernel
theorem dX4_refillBuckets_17 : decode cX4_refillBuckets 17 = .ok (.iload_n 1, 1) := by decide +kernel
theorem dX4_refillBuckets_18 : decode cX4_refillBuckets 18 = .ok (.invokevirtual 189, 3) := by decide +kernel
theorem dX4_refillBuckets_21 : decode cX4_refillBuckets 21 = .ok (.checkcast 73, 3) := by decide +kernel
theorem dX4_refillBuckets_24 : decode cX4_refillBuckets 24 = .ok (.invokevirtual 203, 3) := by decide +kernel
theorem dX4_refillBuckets_27 : decode cX4_refillBuckets 27 = .ok (.iinc 1 1, 3) := by decide +kernel
theorem dX4_refillBuckets_30 : decode cX4_refillBuckets 30 = .ok (.goto (-28), 3) := by decide +kernel
theorem dX4_refillBuckets_33 : decode cX4_refillBuckets 33 = .ok (.return_, 1) := by decide +kernel
end
section
theorem dX5_init_0 : decode cX5_init 0 = .ok (.aload_n 0, 1) := by decide +kernel
theorem dX5_init_1 : decode cX5_init 1 = .ok (.invokespecial 1, 3) := by decide +kernel
theorem dX5_init_4 : decode cX5_init 4 = .ok (.aload_n 0, 1) := by decide +kernel
theorem dX5_init_5 : decode cX5_init 5 = .ok (.iconst 4, 1) := by decide +kernel
theorem dX5_init_6 : decode cX5_init 6 = .ok (.newarray .int, 2) := by decide +kernel
theorem dX5_init_8 : decode cX5_init 8 = .ok (.dup, 1) := by decide +kernel
theorem dX5_init_9 : decode cX5_init 9 = .ok (.iconst 0, 1) := by decide +kernel
theorem dX5_init_10 : decode cX5_init 10 = .ok (.bipush 10, 2) := by decide +kernel
theorem dX5_init_12 : decode cX5_init 12 = .ok (.iastore, 1) := by decide +kernel
theorem dX5_init_13 : decode cX5_init 13 = .ok (.dup, 1) := by decide +kernel
theorem dX5_init_14 : decode cX5_init 14 = .ok (.iconst 1, 1) := by decide +kernel
theorem dX5_init_15 : decode cX5_init 15 = .ok (.bipush 10, 2) := by decide +kernel
theorem dX5_init_17 : decode cX5_init 17 = .ok (.iastore, 1) := by decide +kernel
theorem dX5_init_18 : decode cX5_init 18 = .ok (.dup, 1) := by decide +kernel
theorem dX5_init_19 : decode cX5_init 19 = .ok (.iconst 2, 1) := by decide +kernel
theorem dX5_init_20 : decode cX5_init 20 = .ok (.bipush 10, 2) := by decide +kernel
theorem dX5_init_22 : decode cX5_init 22 = .ok (.iastore, 1) := by decide +kernel
theorem dX5_init_23 : decode cX5_init 23 = .ok (.dup, 1) := by decide +kernel
theorem dX5_init_24 : decode cX5_init 24 = .ok (.iconst 3, 1) := by decide +kernel
theorem dX5_init_25 : decode cX5_init 25 = .ok (.bipush 10, 2) := by decide +kernel
theorem dX5_init_27 : decode cX5_init 27 = .ok (.iastore, 1) := by decide +kernel
theorem dX5_init_28 : decode cX5_init 28 = .ok (.putfield 7, 3) := by decide +kernel
theorem dX5_init_31 : decode cX5_init 31 = .ok (.aload_n 0, 1) := by decide +kernel
theorem dX5_init_32 : decode cX5_init 32 = .ok (.iconst 4, 1) := by decide +kernel
theorem dX5_init_33 : decode cX5_init 33 = .ok (.newarray .int, 2) := by decide +kernel
theorem dX5_init_35 : decode cX5_init 35 = .ok (.dup, 1) := by decide +kernel
theorem dX5_init_36 : decode cX5_init 36 = .ok (.iconst 0, 1) := by decide +kernel
theorem dX5_init_37 : decode cX5_init 37 = .ok (.iconst 1, 1) := by decide +kernel
theorem dX5_init_38 : decode cX5_init 38 = .ok (.iastore, 1) := by decide +kernel
theorem dX5_init_39 : decode cX5_init 39 = .ok (.dup, 1) := by decide +kernel
theorem dX5_init_40 : decode cX5_init 40 = .ok (.iconst 1, 1) := by decide +kernel
theorem dX5_init_41 : decode cX5_init 41 = .ok (.iconst 1, 1) := by decide +kernel
theorem dX5_init_42 : decode cX5_init 42 = .ok (.iastore, 1) := by decide +kernel
theorem dX5_init_43 : decode cX5_init 43 = .ok (.dup, 1) := by decide +kernel
theorem dX5_init_44 : decode cX5_init 44 = .ok (.iconst 2, 1) := by decide +kernel
theorem dX5_init_45 : decode cX5_init 45 = .ok (.iconst 1, 1) := by decide +kernel
theorem dX5_init_46 : decode cX5_init 46 = .ok (.iastore, 1) := by decide +kernel
theorem dX5_init_47 : decode cX5_init 47 = .ok (.dup, 1) := by decide +kernel
theorem dX5_init_48 : decode cX5_init 48 = .ok (.iconst 3, 1) := by decide +kernel
theorem dX5_init_49 : decode cX5_init 49 = .ok (.iconst 1, 1) := by decide +kernel
theorem dX5_init_50 : decode cX5_init 50 = .ok (.iastore, 1) := by decide +kernel
theorem dX5_init_51 : decode cX5_init 51 = .ok (.putfield 13, 3) := by decide +kernel
theorem dX5_init_54 : decode cX5_init 54 = .ok (.aload_n 0, 1) := by decide +kernel
theorem dX5_init_55 : decode cX5_init 55 = .ok (.iconst 4, 1) := by decide +kernel
theorem dX5_init_56 : decode cX5_init 56 = .ok (.newarray .int, 2) := by decide +kernel
theorem dX5_init_58 : decode cX5_init 58 = .ok (.putfield 16, 3) := by decide +kernel
theorem dX5_init_61 : decode cX5_init 61 = .ok (.aload_n 0, 1) := by decide +kernel
theorem dX5_init_62 : decode cX5_init 62 = .ok (.bipush 6, 2) := by decide +kernel
theorem dX5_init_64 : decode cX5_init 64 = .ok (.newarray .int, 2) := by decide +kernel
theorem dX5_init_66 : decode cX5_init 66 = .ok (.dup, 1) := by decide +kernel
theorem dX5_init_67 : decode cX5_init 67 = .ok (.iconst 0, 1) := by decide +kernel
theorem dX5_init_68 : decode cX5_init 68 = .ok (.bipush 10, 2) := by decide +kernel
theorem dX5_init_70 : decode cX5_init 70 = .ok (.iastore, 1) := by decide +kernel
theorem dX5_init_71 : decode cX5_init 71 = .ok (.dup, 1) := by decide +kernel
theorem dX5_init_72 : decode cX5_init 72 = .ok (.iconst 1, 1) := by decide +kernel
theorem dX5_init_73 : decode cX5_init 73 = .ok (.bipush 10, 2) := by decide +kernel
theorem dX5_init_75 : decode cX5_init 75 = .ok (.iastore, 1) := by decide +kernel
theorem dX5_init_76 : decode cX5_init 76 = .ok (.dup, 1) := by decide +kernel
theorem dX5_init_77 : decode cX5_init 77 = .ok (.iconst 2, 1) := by decide +kernel
theorem dX5_init_78 : decode cX5_init 78 = .ok (.bipush 10, 2) := by decide +kernel
theorem dX5_init_80 : decode cX5_init 80 = .ok (.iastore, 1) := by decide +kernel
theorem dX5_init_81 : decode cX5_init 81 = .ok (.dup, 1) := by decide +kernel
theorem dX5_init_82 : decode cX5_init 82 = .ok (.iconst 3, 1) := by decide +kernel
theorem dX5_init_83 : decode cX5_init 83 = .ok (.bipush 10, 2) := by decide +kernel
theorem dX5_init_85 : decode cX5_init 85 = .ok (.iastore, 1) := by decide +kernel
theorem dX5_init_86 : decode cX5_init 86 = .ok (.dup, 1) := by decide +kernel
theorem dX5_init_87 : decode cX5_init 87 = .ok (.iconst 4, 1) := by decide +kernel
theorem dX5_init_88 : decode cX5_init 88 = .ok (.bipush 10, 2) := by decide +kernel
theorem dX5_init_90 : decode cX5_init 90 = .ok (.iastore, 1) := by decide +kernel
theorem dX5_init_91 : decode cX5_init 91 = .ok (.dup, 1) := by decide +kernel
theorem dX5_init_92 : decode cX5_init 92 = .ok (.iconst 5, 1) := by decide +kernel
theorem dX5_init_93 : decode cX5_init 93 = .ok (.bipush 10, 2) := by decide +kernel
theorem dX5_init_95 : decode cX5_init 95 = .ok (.iastore, 1) := by decide +kernel
theorem dX5_init_96 : decode cX5_init 96 = .ok (.putfield 19, 3) := by decide +kernel
theorem dX5_init_99 : decode cX5_init 99 = .ok (.aload_n 0, 1) := by decide +kernel
theorem dX5_init_100 : decode cX5_init 100 = .ok (.bipush 6, 2) := by decide +kernel
theorem dX5_init_102 : decode cX5_init 102 = .ok (.newarray .int, 2) := by decide +kernel
theorem dX5_init_104 : decode cX5_init 104 = .ok (.dup, 1) := by decide +kernel
theorem dX5_init_105 : decode cX5_init 105 = .ok (.iconst 0, 1) := by decide +kernel
theorem dX5_init_106 : decode cX5_init 106 = .ok (.iconst 1, 1) := by decide +kernel
theorem dX5_init_107 : decode cX5_init 107 = .ok (.iastore, 1) := by decide +kernel
theorem dX5_init_108 : decode cX5_init 108 = .ok (.dup, 1) := by decide +kernel
theorem dX5_init_109 : decode cX5_init 109 = .ok (.iconst 1, 1) := by decide +kernel
theorem dX5_init_110 : decode cX5_init 110 = .ok (.iconst 1, 1) := by decide +kernel
theorem dX5_init_111 : decode cX5_init 111 = .ok (.iastore, 1) := by decide +kernel
theorem dX5_init_112 : decode cX5_init 112 = .ok (.dup, 1) := by decide +kernel
theorem dX5_init_113 : decode cX5_init 113 = .ok (.iconst 2, 1) := by decide +kernel
theorem dX5_init_114 : decode cX5_init 114 = .ok (.iconst 1, 1) := by decide +kernel
theorem dX5_init_115 : decode cX5_init 115 = .ok (.iastore, 1) := by decide +kernel
theorem dX5_init_116 : decode cX5_init 116 = .ok (.dup, 1) := by decide +kernel
theorem dX5_init_117 : decode cX5_init 117 = .ok (.iconst 3, 1) := by decide +kernel
theorem dX5_init_118 : decode cX5_init 118 = .ok (.iconst 1, 1) := by decide +kernel
theorem dX5_init_119 : decode cX5_init 119 = .ok (.iastore, 1) := by decide +kernel
theorem dX5_init_120 : decode cX5_init 120 = .ok (.dup, 1) := by decide +kernel
theorem dX5_init_121 : decode cX5_init 121 = .ok (.iconst 4, 1) := by decide +kernel
theorem dX5_init_122 : decode cX5_init 122 = .ok (.iconst 1, 1) := by decide +kernel
theorem dX5_init_123 : decode cX5_init 123 = .ok (.iastore, 1) := by decide +kernel
theorem dX5_init_124 : decode cX5_init 124 = .ok (.dup, 1) := by decide +kernel
theorem dX5_init_125 : decode cX5_init 125 = .ok (.iconst 5, 1) := by decide +kernel
theorem dX5_init_126 : decode cX5_init 126 = .ok (.iconst 1, 1) := by decide +kernel
theorem dX5_init_127 : decode cX5_init 127 = .ok (.iastore, 1) := by decide +kernel
theorem dX5_init_128 : decode cX5_init 128 = .ok (.putfield 22, 3) := by decide +kernel
theorem dX5_init_131 : decode cX5_init 131 = .ok (.aload_n 0, 1) := by decide +kernel
theorem dX5_init_132 : decode cX5_init 132 = .ok (.bipush 8, 2) := by decide +kernel
theorem dX5_init_134 : decode cX5_init 134 = .ok (.newarray .int, 2) := by decide +kernel
theorem dX5_init_136 : decode cX5_init 136 = .ok (.putfield 25, 3) := by decide +kernel
theorem dX5_init_139 : decode cX5_init 139 = .ok (.aload_n 0, 1) := by decide +kernel
theorem dX5_init_140 : decode cX5_init 140 = .ok (.bipush 8, 2) := by decide +kernel
theorem dX5_init_142 : decode cX5_init 142 = .ok (.newarray .int, 2) := by decide +kernel
theorem dX5_init_144 : decode cX5_init 144 = .ok (.putfield 28, 3) := by decide +kernel
theorem dX5_init_147 : decode cX5_init 147 = .ok (.aload_n 0, 1) := by decide +kernel
theorem dX5_init_148 : decode cX5_init 148 = .ok (.bipush 8, 2) := by decide +kernel
theorem dX5_init_150 : decode cX5_init 150 = .ok (.newarray .int, 2) := by decide +kernel
theorem dX5_init_152 : decode cX5_init 152 = .ok (.putfield 31, 3) := by decide +kernel
theorem dX5_init_155 : decode cX5_init 155 = .ok (.aload_n 0, 1) := by decide +kernel
theorem dX5_init_156 : decode cX5_init 156 = .ok (.bipush 8, 2) := by decide +kernel
theorem dX5_init_158 : decode cX5_init 158 = .ok (.newarray .int, 2) := by decide +kernel
theorem dX5_init_160 : decode cX5_init 160 = .ok (.putfield 34, 3) := by decide +kernel
theorem dX5_init_163 : decode cX5_init 163 = .ok (.aload_n 0, 1) := by decide +kernel
theorem dX5_init_164 : decode cX5_init 164 = .ok (.bipush 8, 2) := by decide +kernel
theorem dX5_init_166 : decode cX5_init 166 = .ok (.newarray .int, 2) := by decide +kernel
theorem dX5_init_168 : decode cX5_init 168 = .ok (.putfield 37, 3) := by decide +kernel
theorem dX5_init_171 : decode cX5_init 171 = .ok (.aload_n 0, 1) := by decide +kernel
theorem dX5_init_172 : decode cX5_init 172 = .ok (.bipush 8, 2) := by decide +kernel
theorem dX5_init_174 : decode cX5_init 174 = .ok (.newarray .int, 2) := by decide +kernel
theorem dX5_init_176 : decode cX5_init 176 = .ok (.putfield 40, 3) := by decide +kernel
theorem dX5_init_179 : decode cX5_init 179 = .ok (.aload_n 0, 1) := by decide +kernel
theorem dX5_init_180 : decode cX5_init 180 = .ok (.bipush 80, 2) := by decide +kernel
theorem dX5_init_182 : decode cX5_init 182 = .ok (.newarray .int, 2) := by decide +kernel
theorem dX5_init_184 : decode cX5_init 184 = .ok (.putfield 43, 3) := by decide +kernel
theorem dX5_init_187 : decode cX5_init 187 = .ok (.aload_n 0, 1) := by decide +kernel
theorem dX5_init_188 : decode cX5_init 188 = .ok (.bipush 80, 2) := by decide +kernel
theorem dX5_init_190 : decode cX5_init 190 = .ok (.newarray .int, 2) := by decide +kernel
theorem dX5_init_192 : decode cX5_init 192 = .ok (.putfield 46, 3) := by decide +kernel
theorem dX5_init_195 : decode cX5_init 195 = .ok (.aload_n 0, 1) := by decide +kernel
theorem dX5_init_196 : decode cX5_init 196 = .ok (.bipush 80, 2) := by decide +kernel
theorem dX5_init_198 : decode cX5_init 198 = .ok (.newarray .int, 2) := by decide +kernel
theorem dX5_init_200 : decode cX5_init 200 = .ok (.putfield 49, 3) := by decide +kernel
theorem dX5_init_203 : decode cX5_init 203 = .ok (.aload_n 0, 1) := by decide +kernel
theorem dX5_init_204 : decode cX5_init 204 = .ok (.bipush 80, 2) := by decide +kernel
theorem dX5_init_206 : decode cX5_init 206 = .ok (.newarray .int, 2) := by decide +kernel
theorem dX5_init_208 : decode cX5_init 208 = .ok (.putfield 52, 3) := by decide +kernel
theorem dX5_init_211 : decode cX5_init 211 = .ok (.aload_n 0, 1) := by decide +kernel
theorem dX5_init_212 : decode cX5_init 212 = .ok (.bipush 80, 2) := by decide +kernel
theorem dX5_init_214 : decode cX5_init 214 = .ok (.newarray .int, 2) := by decide +kernel
theorem dX5_init_216 : decode cX5_init 216 = .ok (.putfield 55, 3) := by decide +kernel
theorem dX5_init_219 : decode cX5_init 219 = .ok (.aload_n 0, 1) := by decide +kernel
theorem dX5_init_220 : decode cX5_init 220 = .ok (.bipush 80, 2) := by decide +kernel
theorem dX5_init_222 : decode cX5_init 222 = .ok (.newarray .int, 2) := by decide +kernel
theorem dX5_init_224 : decode cX5_init 224 = .ok (.putfield 58, 3) := by decide +kernel
theorem dX5_init_227 : decode cX5_init 227 = .ok (.aload_n 0, 1) := by decide +kernel
theorem dX5_init_228 : decode cX5_init 228 = .ok (.bipush 80, 2) := by decide +kernel
theorem dX5_init_230 : decode cX5_init 230 = .ok (.newarray .boolean, 2) := by decide +kernel
theorem dX5_init_232 : decode cX5_init 232 = .ok (.putfield 61, 3) := by decide +kernel
theorem dX5_init_235 : decode cX5_init 235 = .ok (.aload_n 0, 1) := by decide +kernel
theorem dX5_init_236 : decode cX5_init 236 = .ok (.bipush 80, 2) := by decide +kernel
theorem dX5_init_238 : decode cX5_init 238 = .ok (.newarray .boolean, 2) := by decide +kernel
theorem dX5_init_240 : decode cX5_init 240 = .ok (.putfield 65, 3) := by decide +kernel
theorem dX5_init_243 : decode cX5_init 243 = .ok (.return_, 1) := by decide +kernel
theorem dX5_thrown_0 : decode cX5_thrown 0 = .ok (.aload_n 0, 1) := by decide +kernel
theorem dX5_thrown_1 : decode cX5_thrown 1 = .ok (.getfield 68, 3) := by decide +kernel
theorem dX5_thrown_4 : decode cX5_thrown 4 = .ok (.ireturn, 1) := by decide +kernel
theorem dX5_goesWell_0 : decode cX5_goesWell 0 = .ok (.aload_n 0, 1) := by decide +kernel
theorem dX5_goesWell_1 : decode cX5_goesWell 1 = .ok (.iload_n 1, 1) := by decide +kernel
theorem dX5_goesWell_2 : decode cX5_goesWell 2 = .ok (.putfield 68, 3) := by decide +kernel
theorem dX5_goesWell_5 : decode cX5_goesWell 5 = .ok (.iload_n 1, 1) := by decide +kernel
theorem dX5_goesWell_6 : decode cX5_goesWell 6 = .ok (.ifCond .ne 7, 3) := by decide +kernel
theorem dX5_goesWell_9 : decode cX5_goesWell 9 = .ok (.iconst 1, 1) := by decide +kernel
theorem dX5_goesWell_10 : decode cX5_goesWell 10 = .ok (.goto 4, 3) := by decide +kernel
theorem dX5_goesWell_13 : decode cX5_goesWell 13 = .ok (.iconst 0, 1) := by decide +kernel
theorem dX5_goesWell_14 : decode cX5_goesWell 14 = .ok (.ireturn, 1) := by decide +kernel
theorem dX5_in_0 : decode cX5_in 0 = .ok (.iload_n 0, 1) := by decide +kernel
theorem dX5_in_1 : decode cX5_in 1 = .ok (.iload_n 1, 1) := by decide +kernel
theorem dX5_in_2 : decode cX5_in 2 = .ok (.if_icmp .lt 12, 3) := by decide +kernel
theorem dX5_in_5 : decode cX5_in 5 = .ok (.iload_n 0, 1) := by decide +kernel
theorem dX5_in_6 : decode cX5_in 6 = .ok (.iload_n 2, 1) := by decide +kernel
theorem dX5_in_7 : decode cX5_in 7 = .ok (.if_icmp .gt 7, 3) := by decide +kernel
theorem dX5_in_10 : decode cX5_in 10 = .ok (.iconst 1, 1) := by decide +kernel
theorem dX5_in_11 : decode cX5_in 11 = .ok (.goto 4, 3) := by decide +kernel
theorem dX5_in_14 : decode cX5_in 14 = .ok (.iconst 0, 1) := by decide +kernel
theorem dX5_in_15 : decode cX5_in 15 = .ok (.ireturn, 1) := by decide +kernel
set_option maxRecDepth 20000 in
theorem ggX5_isPlan_X5_in : GoodIn wsX5_isPlan wsX5_in := goodIn_r _ [4] (by decide +kernel) (by decide +kernel)
set_option maxRecDepth 20000 in
theorem gX5_isPlan_X5_in : GoodIn wsX5_isPlan (va_wsS RX5 72 yX5_in wsX5_in) := goodIn_app (goodIn_of _ (by decide +kernel)) ggX5_isPlan_X5_in
theorem dX5_isPlan_0 : decode cX5_isPlan 0 = .ok (.iload_n 0, 1) := by decide +kernel
theorem dX5_isPlan_1 : decode cX5_isPlan 1 = .ok (.iconst 0, 1) := by decide +kernel
theorem dX5_isPlan_2 : decode cX5_isPlan 2 = .ok (.iconst 3, 1) := by decide +kernel
theorem dX5_isPlan_3 : decode cX5_isPlan 3 = .ok (.invokestatic 72, 3) := by decide +kernel
theorem dX5_isPlan_6 : decode cX5_isPlan 6 = .ok (.ireturn, 1) := by decide +kernel
set_option maxRecDepth 20000 in
theorem ggX5_isRoute_X5_in : GoodIn wsX5_isRoute wsX5_in := goodIn_r _ [4] (by decide +kernel) (by decide +kernel)
set_option maxRecDepth 20000 in
theorem gX5_isRoute_X5_in : GoodIn wsX5_isRoute (va_wsS RX5 72 yX5_in wsX5_in) := goodIn_app (goodIn_of _ (by decide +kernel)) ggX5_isRoute_X5_in
theorem dX5_isRoute_0 : decode cX5_isRoute 0 = .ok (.iload_n 0, 1) := by decide +kernel
theorem dX5_isRoute_1 : decode cX5_isRoute 1 = .ok (.iconst 0, 1) := by decide +kernel
theorem dX5_isRoute_2 : decode cX5_isRoute 2 = .ok (.iconst 5, 1) := by decide +kernel
theorem dX5_isRoute_3 : decode cX5_isRoute 3 = .ok (.invokestatic 72, 3) := by decide +kernel
theorem dX5_isRoute_6 : decode cX5_isRoute 6 = .ok (.ireturn, 1) := by decide +kernel
set_option maxRecDepth 20000 in
theorem ggX5_isKey_X5_in : GoodIn wsX5_isKey wsX5_in := goodIn_r _ [5] (by decide +kernel) (by decide +kernel)
set_option maxRecDepth 20000 in
theorem gX5_isKey_X5_in : GoodIn wsX5_isKey (va_wsS RX5 72 yX5_in wsX5_in) := goodIn_app (goodIn_of _ (by decide +kernel)) ggX5_isKey_X5_in
theorem dX5_isKey_0 : decode cX5_isKey 0 = .ok (.iload_n 1, 1) := by decide +kernel
theorem dX5_isKey_1 : decode cX5_isKey 1 = .ok (.iconst 0, 1) := by decide +kernel
theorem dX5_isKey_2 : decode cX5_isKey 2 = .ok (.aload_n 0, 1) := by decide +kernel
theorem dX5_isKey_3 : decode cX5_isKey 3 = .ok (.getfield 76, 3) := by decide +kernel
theorem dX5_isKey_6 : decode cX5_isKey 6 = .ok (.iconst 1, 1) := by decide +kernel
theorem dX5_isKey_7 : decode cX5_isKey 7 = .ok (.isub, 1) := by decide +kernel
theorem dX5_isKey_8 : decode cX5_isKey 8 = .ok (.invokestatic 72, 3) := by decide +kernel
theorem dX5_isKey_11 : decode cX5_isKey 11 = .ok (.ireturn, 1) := by decide +kernel
set_option maxRecDepth 20000 in
theorem ggX5_isCall_X5_in : GoodIn wsX5_isCall wsX5_in := goodIn_r _ [5] (by decide +kernel) (by decide +kernel)
set_option maxRecDepth 20000 in
theorem gX5_isCall_X5_in : GoodIn wsX5_isCall (va_wsS RX5 72 yX5_in wsX5_in) := goodIn_app (goodIn_of _ (by decide +kernel)) ggX5_isCall_X5_in
theorem dX5_isCall_0 : decode cX5_isCall 0 = .ok (.iload_n 1, 1) := by decide +kernel
theorem dX5_isCall_1 : decode cX5_isCall 1 = .ok (.iconst 0, 1) := by decide +kernel
theorem dX5_isCall_2 : decode cX5_isCall 2 = .ok (.aload_n 0, 1) := by decide +kernel
theorem dX5_isCall_3 : decode cX5_isCall 3 = .ok (.getfield 79, 3) := by decide +kernel
theorem dX5_isCall_6 : decode cX5_isCall 6 = .ok (.iconst 1, 1) := by decide +kernel
theorem dX5_isCall_7 : decode cX5_isCall 7 = .ok (.isub, 1) := by decide +kernel
theorem dX5_isCall_8 : decode cX5_isCall 8 = .ok (.invokestatic 72, 3) := by decide +kernel
theorem dX5_isCall_11 : decode cX5_isCall 11 = .ok (.ireturn, 1) := by decide +kernel
set_option maxRecDepth 20000 in
theorem ggX5_setPlan_X5_isPlan : GoodIn wsX5_setPlan wsX5_isPlan := goodIn_r _ [7, 8, 9, 6, 10] (by decide +kernel) (by decide +kernel)
set_option maxRecDepth 20000 in
theorem gX5_setPlan_X5_isPlan : GoodIn wsX5_setPlan (va_wsS RX5 82 yX5_isPlan wsX5_isPlan) := goodIn_app (goodIn_of _ (by decide +kernel)) ggX5_setPlan_X5_isPlan
set_option maxRecDepth 20000 in
theorem ggX5_setPlan_X5_in : GoodIn wsX5_setPlan wsX5_in := goodIn_r _ [10] (by decide +kernel) (by decide +kernel)
set_option maxRecDepth 20000 in
theorem gX5_setPlan_X5_in : GoodIn wsX5_setPlan (va_wsS RX5 72 yX5_in wsX5_in) := goodIn_app (goodIn_of _ (by decide +kernel)) ggX5_setPlan_X5_in
set_option maxRecDepth 20000 in
theorem ggX5_setPlan_X5_goesWell : GoodIn wsX5_setPlan wsX5_goesWell := goodIn_r _ [14, 15, 16, 17, 18, 19, 20, 21, 22, 23, 24, 25, 26, 27, 28, 29, 30, 31, 32, 33, 34, 35, 36, 37, 38] (by decide +kernel) (by decide +kernel)
set_option maxRecDepth 20000 in
theorem gX5_setPlan_X5_goesWell : GoodIn wsX5_setPlan (wsV RX5 86 RX5 yX5_goesWell wsX5_goesWell) := goodIn_app (goodIn_of _ (by decide +kernel)) ggX5_setPlan_X5_goesWell
theorem dX5_setPlan_0 : decode cX5_setPlan 0 = .ok (.aload_n 0, 1) := by decide +kernel
theorem dX5_setPlan_1 : decode cX5_setPlan 1 = .ok (.iload_n 1, 1) := by decide +kernel
theorem dX5_setPlan_2 : decode cX5_setPlan 2 = .ok (.invokestatic 82, 3) := by decide +kernel
theorem dX5_setPlan_5 : decode cX5_setPlan 5 = .ok (.ifCond .eq 37, 3) := by decide +kernel
theorem dX5_setPlan_8 : decode cX5_setPlan 8 = .ok (.iload_n 2, 1) := by decide +kernel
theorem dX5_setPlan_9 : decode cX5_setPlan 9 = .ok (.iconst 1, 1) := by decide +kernel
theorem dX5_setPlan_10 : decode cX5_setPlan 10 = .ok (.bipush 100, 2) := by decide +kernel
theorem dX5_setPlan_12 : decode cX5_setPlan 12 = .ok (.invokestatic 72, 3) := by decide +kernel
theorem dX5_setPlan_15 : decode cX5_setPlan 15 = .ok (.ifCond .eq 27, 3) := by decide +kernel
theorem dX5_setPlan_18 : decode cX5_setPlan 18 = .ok (.iload_n 3, 1) := by decide +kernel
theorem dX5_setPlan_19 : decode cX5_setPlan 19 = .ok (.iconst 0, 1) := by decide +kernel
theorem dX5_setPlan_20 : decode cX5_setPlan 20 = .ok (.bipush 100, 2) := by decide +kernel
theorem dX5_setPlan_22 : decode cX5_setPlan 22 = .ok (.invokestatic 72, 3) := by decide +kernel
theorem dX5_setPlan_25 : decode cX5_setPlan 25 = .ok (.ifCond .eq 17, 3) := by decide +kernel
theorem dX5_setPlan_28 : decode cX5_setPlan 28 = .ok (.iload 4, 2) := by decide +kernel
theorem dX5_setPlan_30 : decode cX5_setPlan 30 = .ok (.iconst 0, 1) := by decide +kernel
theorem dX5_setPlan_31 : decode cX5_setPlan 31 = .ok (.iload_n 3, 1) := by decide +kernel
theorem dX5_setPlan_32 : decode cX5_setPlan 32 = .ok (.invokestatic 72, 3) := by decide +kernel
theorem dX5_setPlan_35 : decode cX5_setPlan 35 = .ok (.ifCond .eq 7, 3) := by decide +kernel
theorem dX5_setPlan_38 : decode cX5_setPlan 38 = .ok (.iconst 0, 1) := by decide +kernel
theorem dX5_setPlan_39 : decode cX5_setPlan 39 = .ok (.goto 4, 3) := by decide +kernel
theorem dX5_setPlan_42 : decode cX5_setPlan 42 = .ok (.iconst 1, 1) := by decide +kernel
theorem dX5_setPlan_43 : decode cX5_setPlan 43 = .ok (.invokevirtual 86, 3) := by decide +kernel
theorem dX5_setPlan_46 : decode cX5_setPlan 46 = .ok (.ifCond .eq 25, 3) := by decide +kernel
theorem dX5_setPlan_49 : decode cX5_setPlan 49 = .ok (.aload_n 0, 1) := by decide +kernel
theorem dX5_setPlan_50 : decode cX5_setPlan 50 = .ok (.getfield 7, 3) := by decide +kernel
theorem dX5_setPlan_53 : decode cX5_setPlan 53 = .ok (.iload_n 1, 1) := by decide +kernel
theorem dX5_setPlan_54 : decode cX5_setPlan 54 = .ok (.iload_n 2, 1) := by decide +kernel
theorem dX5_setPlan_55 : decode cX5_setPlan 55 = .ok (.iastore, 1) := by decide +kernel
theorem dX5_setPlan_56 : decode cX5_setPlan 56 = .ok (.aload_n 0, 1) := by decide +kernel
theorem dX5_setPlan_57 : decode cX5_setPlan 57 = .ok (.getfield 13, 3) := by decide +kernel
theorem dX5_setPlan_60 : decode cX5_setPlan 60 = .ok (.iload_n 1, 1) := by decide +kernel
theorem dX5_setPlan_61 : decode cX5_setPlan 61 = .ok (.iload_n 3, 1) := by decide +kernel
theorem dX5_setPlan_62 : decode cX5_setPlan 62 = .ok (.iastore, 1) := by decide +kernel
theorem dX5_setPlan_63 : decode cX5_setPlan 63 = .ok (.aload_n 0, 1) := by decide +kernel
theorem dX5_setPlan_64 : decode cX5_setPlan 64 = .ok (.getfield 16, 3) := by decide +kernel
theorem dX5_setPlan_67 : decode cX5_setPlan 67 = .ok (.iload_n 1, 1) := by decide +kernel
theorem dX5_setPlan_68 : decode cX5_setPlan 68 = .ok (.iload 4, 2) := by decide +kernel
theorem dX5_setPlan_70 : decode cX5_setPlan 70 = .ok (.iastore, 1) := by decide +kernel
theorem dX5_setPlan_71 : decode cX5_setPlan 71 = .ok (.return_, 1) := by decide +kernel
set_option maxRecDepth 20000 in
theorem ggX5_setRoute_X5_isRoute : GoodIn wsX5_setRoute wsX5_isRoute := goodIn_r _ [6, 7, 8, 5, 9] (by decide +kernel) (by decide +kernel)
set_option maxRecDepth 20000 in
theorem gX5_setRoute_X5_isRoute : GoodIn wsX5_setRoute (va_wsS RX5 89 yX5_isRoute wsX5_isRoute) := goodIn_app (goodIn_of _ (by decide +kernel)) ggX5_setRoute_X5_isRoute
set_option maxRecDepth 20000 in
theorem ggX5_setRoute_X5_in : GoodIn wsX5_setRoute wsX5_in := goodIn_r _ [9] (by decide +kernel) (by decide +kernel)
set_option maxRecDepth 20000 in
theorem gX5_setRoute_X5_in : GoodIn wsX5_setRoute (va_wsS RX5 72 yX5_in wsX5_in) := goodIn_app (goodIn_of _ (by decide +kernel)) ggX5_setRoute_X5_in
set_option maxRecDepth 20000 in
theorem ggX5_setRoute_X5_goesWell : GoodIn wsX5_setRoute wsX5_goesWell := goodIn_r _ [13, 14, 15, 16, 17, 18, 19, 20, 21, 22, 23, 24, 25, 26, 27, 28, 29, 30, 31, 32, 33, 34, 35, 36, 37] (by decide +kernel) (by decide +kernel)
set_option maxRecDepth 20000 in
theorem gX5_setRoute_X5_goesWell : GoodIn wsX5_setRoute (wsV RX5 86 RX5 yX5_goesWell wsX5_goesWell) := goodIn_app (goodIn_of _ (by decide +kernel)) ggX5_setRoute_X5_goesWell
theorem dX5_setRoute_0 : decode cX5_setRoute 0 = .ok (.aload_n 0, 1) := by decide +kernel
theorem dX5_setRoute_1 : decode cX5_setRoute 1 = .ok (.iload_n 1, 1) := by decide +kernel
theorem dX5_setRoute_2 : decode cX5_setRoute 2 = .ok (.invokestatic 89, 3) := by decide +kernel
theorem dX5_setRoute_5 : decode cX5_setRoute 5 = .ok (.ifCond .eq 28, 3) := by decide +kernel
theorem dX5_setRoute_8 : decode cX5_setRoute 8 = .ok (.iload_n 2, 1) := by decide +kernel
theorem dX5_setRoute_9 : decode cX5_setRoute 9 = .ok (.iconst 0, 1) := by decide +kernel
theorem dX5_setRoute_10 : decode cX5_setRoute 10 = .ok (.sipush 1000, 3) := by decide +kernel
theorem dX5_setRoute_13 : decode cX5_setRoute 13 = .ok (.invokestatic 72, 3) := by decide +kernel
theorem dX5_setRoute_16 : decode cX5_setRoute 16 = .ok (.ifCond .eq 17, 3) := by decide +kernel
theorem dX5_setRoute_19 : decode cX5_setRoute 19 = .ok (.iload_n 3, 1) := by decide +kernel
theorem dX5_setRoute_20 : decode cX5_setRoute 20 = .ok (.iconst 1, 1) := by decide +kernel
theorem dX5_setRoute_21 : decode cX5_setRoute 21 = .ok (.bipush 20, 2) := by decide +kernel
theorem dX5_setRoute_23 : decode cX5_setRoute 23 = .ok (.invokestatic 72, 3) := by decide +kernel
theorem dX5_setRoute_26 : decode cX5_setRoute 26 = .ok (.ifCond .eq 7, 3) := by decide +kernel
theorem dX5_setRoute_29 : decode cX5_setRoute 29 = .ok (.iconst 0, 1) := by decide +kernel
theorem dX5_setRoute_30 : decode cX5_setRoute 30 = .ok (.goto 4, 3) := by decide +kernel
theorem dX5_setRoute_33 : decode cX5_setRoute 33 = .ok (.iconst 1, 1) := by decide +kernel
theorem dX5_setRoute_34 : decode cX5_setRoute 34 = .ok (.invokevirtual 86, 3) := by decide +kernel
theorem dX5_setRoute_37 : decode cX5_setRoute 37 = .ok (.ifCond .eq 17, 3) := by decide +kernel
theorem dX5_setRoute_40 : decode cX5_setRoute 40 = .ok (.aload_n 0, 1) := by decide +kernel
theorem dX5_setRoute_41 : decode cX5_setRoute 41 = .ok (.getfield 19, 3) := by decide +kernel
theorem dX5_setRoute_44 : decode cX5_setRoute 44 = .ok (.iload_n 1, 1) := by decide +kernel
theorem dX5_setRoute_45 : decode cX5_setRoute 45 = .ok (.iload_n 2, 1) := by decide +kernel
theorem dX5_setRoute_46 : decode cX5_setRoute 46 = .ok (.iastore, 1) := by decide +kernel
theorem dX5_setRoute_47 : decode cX5_setRoute 47 = .ok (.aload_n 0, 1) := by decide +kernel
theorem dX5_setRoute_48 : decode cX5_setRoute 48 = .ok (.getfield 22, 3) := by decide +kernel
theorem dX5_setRoute_51 : decode cX5_setRoute 51 = .ok (.iload_n 1, 1) := by decide +kernel
theorem dX5_setRoute_52 : decode cX5_setRoute 52 = .ok (.iload_n 3, 1) := by decide +kernel
theorem dX5_setRoute_53 : decode cX5_setRoute 53 = .ok (.iastore, 1) := by decide +kernel
theorem dX5_setRoute_54 : decode cX5_setRoute 54 = .ok (.return_, 1) := by decide +kernel
set_option maxRecDepth 20000 in
theorem ggX5_addKey_X5_isPlan : GoodIn wsX5_addKey wsX5_isPlan := goodIn_r _ [8, 9, 10, 7, 11] (by decide +kernel) (by decide +kernel)
set_option maxRecDepth 20000 in
theorem gX5_addKey_X5_isPlan : GoodIn wsX5_addKey (va_wsS RX5 82 yX5_isPlan wsX5_isPlan) := goodIn_app (goodIn_of _ (by decide +kernel)) ggX5_addKey_X5_isPlan
set_option maxRecDepth 20000 in
theorem ggX5_addKey_X5_goesWell : GoodIn wsX5_addKey wsX5_goesWell := goodIn_r _ [15, 16, 17, 18, 19, 20, 21, 22, 23, 24, 25, 26, 27, 28, 29, 30, 31, 32, 33, 34, 35, 36, 37, 38, 39] (by decide +kernel) (by decide +kernel)
set_option maxRecDepth 20000 in
theorem gX5_addKey_X5_goesWell : GoodIn wsX5_addKey (wsV RX5 86 RX5 yX5_goesWell wsX5_goesWell) := goodIn_app (goodIn_of _ (by decide +kernel)) ggX5_addKey_X5_goesWell
theorem dX5_addKey_0 : decode cX5_addKey 0 = .ok (.aload_n 0, 1) := by decide +kernel
theorem dX5_addKey_1 : decode cX5_addKey 1 = .ok (.iload_n 1, 1) := by decide +kernel
theorem dX5_addKey_2 : decode cX5_addKey 2 = .ok (.invokestatic 82, 3) := by decide +kernel
theorem dX5_addKey_5 : decode cX5_addKey 5 = .ok (.ifCond .ne 7, 3) := by decide +kernel
theorem dX5_addKey_8 : decode cX5_addKey 8 = .ok (.iconst 1, 1) := by decide +kernel
theorem dX5_addKey_9 : decode cX5_addKey 9 = .ok (.goto 17, 3) := by decide +kernel
theorem dX5_addKey_12 : decode cX5_addKey 12 = .ok (.aload_n 0, 1) := by decide +kernel
theorem dX5_addKey_13 : decode cX5_addKey 13 = .ok (.getfield 76, 3) := by decide +kernel
theorem dX5_addKey_16 : decode cX5_addKey 16 = .ok (.bipush 8, 2) := by decide +kernel
theorem dX5_addKey_18 : decode cX5_addKey 18 = .ok (.if_icmp .ne 7, 3) := by decide +kernel
theorem dX5_addKey_21 : decode cX5_addKey 21 = .ok (.iconst 2, 1) := by decide +kernel
theorem dX5_addKey_22 : decode cX5_addKey 22 = .ok (.goto 4, 3) := by decide +kernel
theorem dX5_addKey_25 : decode cX5_addKey 25 = .ok (.iconst 0, 1) := by decide +kernel
theorem dX5_addKey_26 : decode cX5_addKey 26 = .ok (.invokevirtual 86, 3) := by decide +kernel
theorem dX5_addKey_29 : decode cX5_addKey 29 = .ok (.ifCond .ne 5, 3) := by decide +kernel
theorem dX5_addKey_32 : decode cX5_addKey 32 = .ok (.iconst 0, 1) := by decide +kernel
theorem dX5_addKey_33 : decode cX5_addKey 33 = .ok (.ireturn, 1) := by decide +kernel
theorem dX5_addKey_34 : decode cX5_addKey 34 = .ok (.aload_n 0, 1) := by decide +kernel
theorem dX5_addKey_35 : decode cX5_addKey 35 = .ok (.getfield 25, 3) := by decide +kernel
theorem dX5_addKey_38 : decode cX5_addKey 38 = .ok (.aload_n 0, 1) := by decide +kernel
theorem dX5_addKey_39 : decode cX5_addKey 39 = .ok (.getfield 76, 3) := by decide +kernel
theorem dX5_addKey_42 : decode cX5_addKey 42 = .ok (.iload_n 1, 1) := by decide +kernel
theorem dX5_addKey_43 : decode cX5_addKey 43 = .ok (.iastore, 1) := by decide +kernel
theorem dX5_addKey_44 : decode cX5_addKey 44 = .ok (.aload_n 0, 1) := by decide +kernel
theorem dX5_addKey_45 : decode cX5_addKey 45 = .ok (.getfield 37, 3) := by decide +kernel
theorem dX5_addKey_48 : decode cX5_addKey 48 = .ok (.aload_n 0, 1) := by decide +kernel
theorem dX5_addKey_49 : decode cX5_addKey 49 = .ok (.getfield 76, 3) := by decide +kernel
theorem dX5_addKey_52 : decode cX5_addKey 52 = .ok (.aload_n 0, 1) := by decide +kernel
theorem dX5_addKey_53 : decode cX5_addKey 53 = .ok (.getfield 7, 3) := by decide +kernel
theorem dX5_addKey_56 : decode cX5_addKey 56 = .ok (.iload_n 1, 1) := by decide +kernel
theorem dX5_addKey_57 : decode cX5_addKey 57 = .ok (.iaload, 1) := by decide +kernel
theorem dX5_addKey_58 : decode cX5_addKey 58 = .ok (.iastore, 1) := by decide +kernel
theorem dX5_addKey_59 : decode cX5_addKey 59 = .ok (.aload_n 0, 1) := by decide +kernel
theorem dX5_addKey_60 : decode cX5_addKey 60 = .ok (.dup, 1) := by decide +kernel
theorem dX5_addKey_61 : decode cX5_addKey 61 = .ok (.getfield 76, 3) := by decide +kernel
theorem dX5_addKey_64 : decode cX5_addKey 64 = .ok (.iconst 1, 1) := by decide +kernel
theorem dX5_addKey_65 : decode cX5_addKey 65 = .ok (.iadd, 1) := by decide +kernel
theorem dX5_addKey_66 : decode cX5_addKey 66 = .ok (.putfield 76, 3) := by decide +kernel
theorem dX5_addKey_69 : decode cX5_addKey 69 = .ok (.aload_n 0, 1) := by decide +kernel
theorem dX5_addKey_70 : decode cX5_addKey 70 = .ok (.getfield 76, 3) := by decide +kernel
theorem dX5_addKey_73 : decode cX5_addKey 73 = .ok (.iconst 1, 1) := by decide +kernel
theorem dX5_addKey_74 : decode cX5_addKey 74 = .ok (.isub, 1) := by decide +kernel
theorem dX5_addKey_75 : decode cX5_addKey 75 = .ok (.ireturn, 1) := by decide +kernel
set_option maxRecDepth 20000 in
theorem ggX5_setKeyPlan_X5_isKey : GoodIn wsX5_setKeyPlan wsX5_isKey := goodIn_r _ [6, 7, 8, 9, 5, 10, 19, 20, 21, 22, 23, 24, 25, 26, 27, 28, 29, 30, 31, 32, 33, 34, 35, 36, 37, 38, 39, 40, 41] (by decide +kernel) (by decide +kernel)
set_option maxRecDepth 20000 in
theorem gX5_setKeyPlan_X5_isKey : GoodIn wsX5_setKeyPlan (wsV RX5 92 RX5 yX5_isKey wsX5_isKey) := goodIn_app (goodIn_of _ (by decide +kernel)) ggX5_setKeyPlan_X5_isKey
set_option maxRecDepth 20000 in
theorem ggX5_setKeyPlan_X5_isPlan : GoodIn wsX5_setKeyPlan wsX5_isPlan := goodIn_r _ [13, 8, 9, 5, 10] (by decide +kernel) (by decide +kernel)
set_option maxRecDepth 20000 in
theorem gX5_setKeyPlan_X5_isPlan : GoodIn wsX5_setKeyPlan (va_wsS RX5 82 yX5_isPlan wsX5_isPlan) := goodIn_app (goodIn_of _ (by decide +kernel)) ggX5_setKeyPlan_X5_isPlan
set_option maxRecDepth 20000 in
theorem ggX5_setKeyPlan_X5_goesWell : GoodIn wsX5_setKeyPlan wsX5_goesWell := goodIn_r _ [17, 18, 19, 20, 21, 22, 23, 24, 25, 26, 27, 28, 29, 30, 31, 32, 33, 34, 35, 36, 37, 38, 39, 40, 41] (by decide +kernel) (by decide +kernel)
set_option maxRecDepth 20000 in
theorem gX5_setKeyPlan_X5_goesWell : GoodIn wsX5_setKeyPlan (wsV RX5 86 RX5 yX5_goesWell wsX5_goesWell) := goodIn_app (goodIn_of _ (by decide +kernel)) ggX5_setKeyPlan_X5_goesWell
theorem dX5_setKeyPlan_0 : decode cX5_setKeyPlan 0 = .ok (.aload_n 0, 1) := by decide +kernel
theorem dX5_setKeyPlan_1 : decode cX5_setKeyPlan 1 = .ok (.aload_n 0, 1) := by decide +kernel
theorem dX5_setKeyPlan_2 : decode cX5_setKeyPlan 2 = .ok (.iload_n 1, 1) := by decide +kernel
theorem dX5_setKeyPlan_3 : decode cX5_setKeyPlan 3 = .ok (.invokevirtual 92, 3) := by decide +kernel
theorem dX5_setKeyPlan_6 : decode cX5_setKeyPlan 6 = .ok (.ifCond .ne 7, 3) := by decide +kernel
theorem dX5_setKeyPlan_9 : decode cX5_setKeyPlan 9 = .ok (.iconst 1, 1) := by decide +kernel
theorem dX5_setKeyPlan_10 : decode cX5_setKeyPlan 10 = .ok (.goto 15, 3) := by decide +kernel
theorem dX5_setKeyPlan_13 : decode cX5_setKeyPlan 13 = .ok (.iload_n 2, 1) := by decide +kernel
theorem dX5_setKeyPlan_14 : decode cX5_setKeyPlan 14 = .ok (.invokestatic 82, 3) := by decide +kernel
theorem dX5_setKeyPlan_17 : decode cX5_setKeyPlan 17 = .ok (.ifCond .eq 7, 3) := by decide +kernel
theorem dX5_setKeyPlan_20 : decode cX5_setKeyPlan 20 = .ok (.iconst 0, 1) := by decide +kernel
theorem dX5_setKeyPlan_21 : decode cX5_setKeyPlan 21 = .ok (.goto 4, 3) := by decide +kernel
theorem dX5_setKeyPlan_24 : decode cX5_setKeyPlan 24 = .ok (.iconst 2, 1) := by decide +kernel
theorem dX5_setKeyPlan_25 : decode cX5_setKeyPlan 25 = .ok (.invokevirtual 86, 3) := by decide +kernel
theorem dX5_setKeyPlan_28 : decode cX5_setKeyPlan 28 = .ok (.ifCond .ne 5, 3) := by decide +kernel
theorem dX5_setKeyPlan_31 : decode cX5_setKeyPlan 31 = .ok (.iconst 0, 1) := by decide +kernel
theorem dX5_setKeyPlan_32 : decode cX5_setKeyPlan 32 = .ok (.ireturn, 1) := by decide +kernel
theorem dX5_setKeyPlan_33 : decode cX5_setKeyPlan 33 = .ok (.aload_n 0, 1) := by decide +kernel
theorem dX5_setKeyPlan_34 : decode cX5_setKeyPlan 34 = .ok (.getfield 25, 3) := by decide +kernel
theorem dX5_setKeyPlan_37 : decode cX5_setKeyPlan 37 = .ok (.iload_n 1, 1) := by decide +kernel
theorem dX5_setKeyPlan_38 : decode cX5_setKeyPlan 38 = .ok (.iaload, 1) := by decide +kernel
theorem dX5_setKeyPlan_39 : decode cX5_setKeyPlan 39 = .ok (.istore_n 3, 1) := by decide +kernel
theorem dX5_setKeyPlan_40 : decode cX5_setKeyPlan 40 = .ok (.aload_n 0, 1) := by decide +kernel
theorem dX5_setKeyPlan_41 : decode cX5_setKeyPlan 41 = .ok (.getfield 25, 3) := by decide +kernel
theorem dX5_setKeyPlan_44 : decode cX5_setKeyPlan 44 = .ok (.iload_n 1, 1) := by decide +kernel
theorem dX5_setKeyPlan_45 : decode cX5_setKeyPlan 45 = .ok (.iload_n 2, 1) := by decide +kernel
theorem dX5_setKeyPlan_46 : decode cX5_setKeyPlan 46 = .ok (.iastore, 1) := by decide +kernel
theorem dX5_setKeyPlan_47 : decode cX5_setKeyPlan 47 = .ok (.iload_n 3, 1) := by decide +kernel
theorem dX5_setKeyPlan_48 : decode cX5_setKeyPlan 48 = .ok (.ireturn, 1) := by decide +kernel
set_option maxRecDepth 20000 in
theorem ggX5_setTrust_X5_isKey : GoodIn wsX5_setTrust wsX5_isKey := goodIn_r _ [6, 7, 8, 9, 5, 10, 16, 17, 18, 19, 20, 21, 22, 23, 24, 25, 26, 27, 28, 29, 30, 31, 32, 33, 34, 35, 36, 37, 38] (by decide +kernel) (by decide +kernel)
set_option maxRecDepth 20000 in
theorem gX5_setTrust_X5_isKey : GoodIn wsX5_setTrust (wsV RX5 92 RX5 yX5_isKey wsX5_isKey) := goodIn_app (goodIn_of _ (by decide +kernel)) ggX5_setTrust_X5_isKey
set_option maxRecDepth 20000 in
theorem ggX5_setTrust_X5_in : GoodIn wsX5_setTrust wsX5_in := goodIn_r _ [10] (by decide +kernel) (by decide +kernel)
set_option maxRecDepth 20000 in
theorem gX5_setTrust_X5_in : GoodIn wsX5_setTrust (va_wsS RX5 72 yX5_in wsX5_in) := goodIn_app (goodIn_of _ (by decide +kernel)) ggX5_setTrust_X5_in
set_option maxRecDepth 20000 in
theorem ggX5_setTrust_X5_goesWell : GoodIn wsX5_setTrust wsX5_goesWell := goodIn_r _ [14, 15, 16, 17, 18, 19, 20, 21, 22, 23, 24, 25, 26, 27, 28, 29, 30, 31, 32, 33, 34, 35, 36, 37, 38] (by decide +kernel) (by decide +kernel)
set_option maxRecDepth 20000 in
theorem gX5_setTrust_X5_goesWell : GoodIn wsX5_setTrust (wsV RX5 86 RX5 yX5_goesWell wsX5_goesWell) := goodIn_app (goodIn_of _ (by decide +kernel)) ggX5_setTrust_X5_goesWell
theorem dX5_setTrust_0 : decode cX5_setTrust 0 = .ok (.aload_n 0, 1) := by decide +kernel
theorem dX5_setTrust_1 : decode cX5_setTrust 1 = .ok (.aload_n 0, 1) := by decide +kernel
theorem dX5_setTrust_2 : decode cX5_setTrust 2 = .ok (.iload_n 1, 1) := by decide +kernel
theorem dX5_setTrust_3 : decode cX5_setTrust 3 = .ok (.invokevirtual 92, 3) := by decide +kernel
theorem dX5_setTrust_6 : decode cX5_setTrust 6 = .ok (.ifCond .ne 7, 3) := by decide +kernel
theorem dX5_setTrust_9 : decode cX5_setTrust 9 = .ok (.iconst 1, 1) := by decide +kernel
theorem dX5_setTrust_10 : decode cX5_setTrust 10 = .ok (.goto 19, 3) := by decide +kernel
theorem dX5_setTrust_13 : decode cX5_setTrust 13 = .ok (.iload_n 2, 1) := by decide +kernel
theorem dX5_setTrust_14 : decode cX5_setTrust 14 = .ok (.iconst 0, 1) := by decide +kernel
theorem dX5_setTrust_15 : decode cX5_setTrust 15 = .ok (.sipush 10000, 3) := by decide +kernel
theorem dX5_setTrust_18 : decode cX5_setTrust 18 = .ok (.invokestatic 72, 3) := by decide +kernel
theorem dX5_setTrust_21 : decode cX5_setTrust 21 = .ok (.ifCond .eq 7, 3) := by decide +kernel
theorem dX5_setTrust_24 : decode cX5_setTrust 24 = .ok (.iconst 0, 1) := by decide +kernel
theorem dX5_setTrust_25 : decode cX5_setTrust 25 = .ok (.goto 4, 3) := by decide +kernel
theorem dX5_setTrust_28 : decode cX5_setTrust 28 = .ok (.iconst 2, 1) := by decide +kernel
theorem dX5_setTrust_29 : decode cX5_setTrust 29 = .ok (.invokevirtual 86, 3) := by decide +kernel
theorem dX5_setTrust_32 : decode cX5_setTrust 32 = .ok (.ifCond .ne 5, 3) := by decide +kernel
theorem dX5_setTrust_35 : decode cX5_setTrust 35 = .ok (.iconst 0, 1) := by decide +kernel
theorem dX5_setTrust_36 : decode cX5_setTrust 36 = .ok (.ireturn, 1) := by decide +kernel
theorem dX5_setTrust_37 : decode cX5_setTrust 37 = .ok (.aload_n 0, 1) := by decide +kernel
theorem dX5_setTrust_38 : decode cX5_setTrust 38 = .ok (.getfield 31, 3) := by decide +kernel
theorem dX5_setTrust_41 : decode cX5_setTrust 41 = .ok (.iload_n 1, 1) := by decide +kernel
theorem dX5_setTrust_42 : decode cX5_setTrust 42 = .ok (.iaload, 1) := by decide +kernel
theorem dX5_setTrust_43 : decode cX5_setTrust 43 = .ok (.istore_n 3, 1) := by decide +kernel
theorem dX5_setTrust_44 : decode cX5_setTrust 44 = .ok (.aload_n 0, 1) := by decide +kernel
theorem dX5_setTrust_45 : decode cX5_setTrust 45 = .ok (.getfield 31, 3) := by decide +kernel
theorem dX5_setTrust_48 : decode cX5_setTrust 48 = .ok (.iload_n 1, 1) := by decide +kernel
theorem dX5_setTrust_49 : decode cX5_setTrust 49 = .ok (.iload_n 2, 1) := by decide +kernel
theorem dX5_setTrust_50 : decode cX5_setTrust 50 = .ok (.iastore, 1) := by decide +kernel
theorem dX5_setTrust_51 : decode cX5_setTrust 51 = .ok (.iload_n 3, 1) := by decide +kernel
theorem dX5_setTrust_52 : decode cX5_setTrust 52 = .ok (.ireturn, 1) := by decide +kernel
theorem dX5_give_0 : decode cX5_give 0 = .ok (.iload_n 2, 1) := by decide +kernel
theorem dX5_give_1 : decode cX5_give 1 = .ok (.aload_n 0, 1) := by decide +kernel
theorem dX5_give_2 : decode cX5_give 2 = .ok (.getfield 34, 3) := by decide +kernel
theorem dX5_give_5 : decode cX5_give 5 = .ok (.iload_n 1, 1) := by decide +kernel
theorem dX5_give_6 : decode cX5_give 6 = .ok (.iaload, 1) := by decide +kernel
theorem dX5_give_7 : decode cX5_give 7 = .ok (.if_icmp .ge 7, 3) := by decide +kernel
theorem dX5_give_10 : decode cX5_give 10 = .ok (.iload_n 2, 1) := by decide +kernel
theorem dX5_give_11 : decode cX5_give 11 = .ok (.goto 9, 3) := by decide +kernel
theorem dX5_give_14 : decode cX5_give 14 = .ok (.aload_n 0, 1) := by decide +kernel
theorem dX5_give_15 : decode cX5_give 15 = .ok (.getfield 34, 3) := by decide +kernel
theorem dX5_give_18 : decode cX5_give 18 = .ok (.iload_n 1, 1) := by decide +kernel
theorem dX5_give_19 : decode cX5_give 19 = .ok (.iaload, 1) := by decide +kernel
theorem dX5_give_20 : decode cX5_give 20 = .ok (.istore_n 3, 1) := by decide +kernel
theorem dX5_give_21 : decode cX5_give 21 = .ok (.aload_n 0, 1) := by decide +kernel
theorem dX5_give_22 : decode cX5_give 22 = .ok (.getfield 34, 3) := by decide +kernel
theorem dX5_give_25 : decode cX5_give 25 = .ok (.iload_n 1, 1) := by decide +kernel
theorem dX5_give_26 : decode cX5_give 26 = .ok (.dup2, 1) := by decide +kernel
theorem dX5_give_27 : decode cX5_give 27 = .ok (.iaload, 1) := by decide +kernel
theorem dX5_give_28 : decode cX5_give 28 = .ok (.iload_n 3, 1) := by decide +kernel
theorem dX5_give_29 : decode cX5_give 29 = .ok (.isub, 1) := by decide +kernel
theorem dX5_give_30 : decode cX5_give 30 = .ok (.iastore, 1) := by decide +kernel
theorem dX5_give_31 : decode cX5_give 31 = .ok (.aload_n 0, 1) := by decide +kernel
theorem dX5_give_32 : decode cX5_give 32 = .ok (.getfield 28, 3) := by decide +kernel
theorem dX5_give_35 : decode cX5_give 35 = .ok (.iload_n 1, 1) := by decide +kernel
theorem dX5_give_36 : decode cX5_give 36 = .ok (.dup2, 1) := by decide +kernel
theorem dX5_give_37 : decode cX5_give 37 = .ok (.iaload, 1) := by decide +kernel
theorem dX5_give_38 : decode cX5_give 38 = .ok (.iload_n 2, 1) := by decide +kernel
theorem dX5_give_39 : decode cX5_give 39 = .ok (.iload_n 3, 1) := by decide +kernel
theorem dX5_give_40 : decode cX5_give 40 = .ok (.isub, 1) := by decide +kernel
theorem dX5_give_41 : decode cX5_give 41 = .ok (.iadd, 1) := by decide +kernel
theorem dX5_give_42 : decode cX5_give 42 = .ok (.iastore, 1) := by decide +kernel
theorem dX5_give_43 : decode cX5_give 43 = .ok (.return_, 1) := by decide +kernel
set_option maxRecDepth 20000 in
theorem ggX5_pay_X5_isKey : GoodIn wsX5_pay wsX5_isKey := goodIn_r _ [8, 9, 10, 11, 7, 12, 23, 24, 25, 26, 27, 28, 29, 30, 31, 32, 33, 34, 35, 36, 37, 38, 39, 40, 41, 42, 43, 44, 45] (by decide +kernel) (by decide +kernel)
set_option maxRecDepth 20000 in
theorem gX5_pay_X5_isKey : GoodIn wsX5_pay (wsV RX5 92 RX5 yX5_isKey wsX5_isKey) := goodIn_app (goodIn_of _ (by decide +kernel)) ggX5_pay_X5_isKey
set_option maxRecDepth 20000 in
theorem ggX5_pay_X5_in : GoodIn wsX5_pay wsX5_in := goodIn_r _ [12] (by decide +kernel) (by decide +kernel)
set_option maxRecDepth 20000 in
theorem gX5_pay_X5_in : GoodIn wsX5_pay (va_wsS RX5 72 yX5_in wsX5_in) := goodIn_app (goodIn_of _ (by decide +kernel)) ggX5_pay_X5_in
set_option maxRecDepth 20000 in
theorem ggX5_pay_X5_goesWell : GoodIn wsX5_pay wsX5_goesWell := goodIn_r _ [16, 17, 23, 24, 25, 26, 27, 28, 29, 30, 31, 32, 33, 34, 35, 36, 37, 38, 39, 40, 41, 42, 43, 44, 45] (by decide +kernel) (by decide +kernel)
set_option maxRecDepth 20000 in
theorem gX5_pay_X5_goesWell : GoodIn wsX5_pay (wsV RX5 86 RX5 yX5_goesWell wsX5_goesWell) := goodIn_app (goodIn_of _ (by decide +kernel)) ggX5_pay_X5_goesWell
set_option maxRecDepth 20000 in
theorem ggX5_pay_X5_give : GoodIn wsX5_pay wsX5_give := goodIn_r _ [21, 22, 3, 23, 24, 25, 26, 27, 28, 29, 30, 31, 32, 33, 34, 35, 36, 37, 38, 39, 40, 41, 42, 43, 44, 45] (by decide +kernel) (by decide +kernel)
set_option maxRecDepth 20000 in
theorem gX5_pay_X5_give : GoodIn wsX5_pay (wsV RX5 96 RX5 yX5_give wsX5_give) := goodIn_app (goodIn_of _ (by decide +kernel)) ggX5_pay_X5_give
theorem dX5_pay_0 : decode cX5_pay 0 = .ok (.aload_n 0, 1) := by decide +kernel
theorem dX5_pay_1 : decode cX5_pay 1 = .ok (.aload_n 0, 1) := by decide +kernel
theorem dX5_pay_2 : decode cX5_pay 2 = .ok (.iload_n 1, 1) := by decide +kernel
theorem dX5_pay_3 : decode cX5_pay 3 = .ok (.invokevirtual 92, 3) := by decide +kernel
theorem dX5_pay_6 : decode cX5_pay 6 = .ok (.ifCond .ne 7, 3) := by decide +kernel
theorem dX5_pay_9 : decode cX5_pay 9 = .ok (.iconst 1, 1) := by decide +kernel
theorem dX5_pay_10 : decode cX5_pay 10 = .ok (.goto 18, 3) := by decide +kernel
theorem dX5_pay_13 : decode cX5_pay 13 = .ok (.iload_n 2, 1) := by decide +kernel
theorem dX5_pay_14 : decode cX5_pay 14 = .ok (.iconst 1, 1) := by decide +kernel
theorem dX5_pay_15 : decode cX5_pay 15 = .ok (.ldc 95, 2) := by decide +kernel
theorem dX5_pay_17 : decode cX5_pay 17 = .ok (.invokestatic 72, 3) := by decide +kernel
theorem dX5_pay_20 : decode cX5_pay 20 = .ok (.ifCond .eq 7, 3) := by decide +kernel
theorem dX5_pay_23 : decode cX5_pay 23 = .ok (.iconst 0, 1) := by decide +kernel
theorem dX5_pay_24 : decode cX5_pay 24 = .ok (.goto 4, 3) := by decide +kernel
theorem dX5_pay_27 : decode cX5_pay 27 = .ok (.iconst 2, 1) := by decide +kernel
theorem dX5_pay_28 : decode cX5_pay 28 = .ok (.invokevirtual 86, 3) := by decide +kernel
theorem dX5_pay_31 : decode cX5_pay 31 = .ok (.ifCond .ne 5, 3) := by decide +kernel
theorem dX5_pay_34 : decode cX5_pay 34 = .ok (.iconst 0, 1) := by decide +kernel
theorem dX5_pay_35 : decode cX5_pay 35 = .ok (.ireturn, 1) := by decide +kernel
theorem dX5_pay_36 : decode cX5_pay 36 = .ok (.aload_n 0, 1) := by decide +kernel
theorem dX5_pay_37 : decode cX5_pay 37 = .ok (.iload_n 1, 1) := by decide +kernel
theorem dX5_pay_38 : decode cX5_pay 38 = .ok (.iload_n 2, 1) := by decide +kernel
theorem dX5_pay_39 : decode cX5_pay 39 = .ok (.invokevirtual 96, 3) := by decide +kernel
theorem dX5_pay_42 : decode cX5_pay 42 = .ok (.aload_n 0, 1) := by decide +kernel
theorem dX5_pay_43 : decode cX5_pay 43 = .ok (.getfield 40, 3) := by decide +kernel
theorem dX5_pay_46 : decode cX5_pay 46 = .ok (.iload_n 1, 1) := by decide +kernel
theorem dX5_pay_47 : decode cX5_pay 47 = .ok (.dup2, 1) := by decide +kernel
theorem dX5_pay_48 : decode cX5_pay 48 = .ok (.iaload, 1) := by decide +kernel
theorem dX5_pay_49 : decode cX5_pay 49 = .ok (.iload_n 2, 1) := by decide +kernel
theorem dX5_pay_50 : decode cX5_pay 50 = .ok (.iadd, 1) := by decide +kernel
theorem dX5_pay_51 : decode cX5_pay 51 = .ok (.iastore, 1) := by decide +kernel
theorem dX5_pay_52 : decode cX5_pay 52 = .ok (.aload_n 0, 1) := by decide +kernel
theorem dX5_pay_53 : decode cX5_pay 53 = .ok (.getfield 28, 3) := by decide +kernel
theorem dX5_pay_56 : decode cX5_pay 56 = .ok (.iload_n 1, 1) := by decide +kernel
theorem dX5_pay_57 : decode cX5_pay 57 = .ok (.iaload, 1) := by decide +kernel
theorem dX5_pay_58 : decode cX5_pay 58 = .ok (.ireturn, 1) := by decide +kernel
theorem dX5_leftOf_0 : decode cX5_leftOf 0 = .ok (.aload_n 0, 1) := by decide +kernel
theorem dX5_leftOf_1 : decode cX5_leftOf 1 = .ok (.getfield 31, 3) := by decide +kernel
theorem dX5_leftOf_4 : decode cX5_leftOf 4 = .ok (.iload_n 1, 1) := by decide +kernel
theorem dX5_leftOf_5 : decode cX5_leftOf 5 = .ok (.iaload, 1) := by decide +kernel
theorem dX5_leftOf_6 : decode cX5_leftOf 6 = .ok (.aload_n 0, 1) := by decide +kernel
theorem dX5_leftOf_7 : decode cX5_leftOf 7 = .ok (.getfield 34, 3) := by decide +kernel
theorem dX5_leftOf_10 : decode cX5_leftOf 10 = .ok (.iload_n 1, 1) := by decide +kernel
theorem dX5_leftOf_11 : decode cX5_leftOf 11 = .ok (.iaload, 1) := by decide +kernel
theorem dX5_leftOf_12 : decode cX5_leftOf 12 = .ok (.if_icmp .le 19, 3) := by decide +kernel
theorem dX5_leftOf_15 : decode cX5_leftOf 15 = .ok (.aload_n 0, 1) := by decide +kernel
theorem dX5_leftOf_16 : decode cX5_leftOf 16 = .ok (.getfield 31, 3) := by decide +kernel
theorem dX5_leftOf_19 : decode cX5_leftOf 19 = .ok (.iload_n 1, 1) := by decide +kernel
theorem dX5_leftOf_20 : decode cX5_leftOf 20 = .ok (.iaload, 1) := by decide +kernel
theorem dX5_leftOf_21 : decode cX5_leftOf 21 = .ok (.aload_n 0, 1) := by decide +kernel
theorem dX5_leftOf_22 : decode cX5_leftOf 22 = .ok (.getfield 34, 3) := by decide +kernel
theorem dX5_leftOf_25 : decode cX5_leftOf 25 = .ok (.iload_n 1, 1) := by decide +kernel
theorem dX5_leftOf_26 : decode cX5_leftOf 26 = .ok (.iaload, 1) := by decide +kernel
theorem dX5_leftOf_27 : decode cX5_leftOf 27 = .ok (.isub, 1) := by decide +kernel
theorem dX5_leftOf_28 : decode cX5_leftOf 28 = .ok (.goto 4, 3) := by decide +kernel
theorem dX5_leftOf_31 : decode cX5_leftOf 31 = .ok (.iconst 0, 1) := by decide +kernel
theorem dX5_leftOf_32 : decode cX5_leftOf 32 = .ok (.ireturn, 1) := by decide +kernel
set_option maxRecDepth 20000 in
theorem ggX5_call_X5_isRoute : GoodIn wsX5_call wsX5_isRoute := goodIn_r _ [15, 16, 17, 14, 18] (by decide +kernel) (by decide +kernel)
set_option maxRecDepth 20000 in
theorem gX5_call_X5_isRoute : GoodIn wsX5_call (va_wsS RX5 89 yX5_isRoute wsX5_isRoute) := goodIn_app (goodIn_of _ (by decide +kernel)) ggX5_call_X5_isRoute
set_option maxRecDepth 20000 in
theorem ggX5_call_X5_in : GoodIn wsX5_call wsX5_in := goodIn_r _ [18] (by decide +kernel) (by decide +kernel)
set_option maxRecDepth 20000 in
theorem gX5_call_X5_in : GoodIn wsX5_call (va_wsS RX5 72 yX5_in wsX5_in) := goodIn_app (goodIn_of _ (by decide +kernel)) ggX5_call_X5_in
set_option maxRecDepth 20000 in
theorem ggX5_call_X5_isKey : GoodIn wsX5_call wsX5_isKey := goodIn_r _ [22, 23, 16, 17, 14, 18, 34, 35, 36, 37, 38, 39, 40, 41, 42, 43, 44, 45, 46, 47, 48, 49, 50, 51, 52, 53, 54, 55, 56] (by decide +kernel) (by decide +kernel)
set_option maxRecDepth 20000 in
theorem gX5_call_X5_isKey : GoodIn wsX5_call (wsV RX5 92 RX5 yX5_isKey wsX5_isKey) := goodIn_app (goodIn_of _ (by decide +kernel)) ggX5_call_X5_isKey
set_option maxRecDepth 20000 in
theorem ggX5_call_X5_goesWell : GoodIn wsX5_call wsX5_goesWell := goodIn_r _ [27, 28, 34, 35, 36, 37, 38, 39, 40, 41, 42, 43, 44, 45, 46, 47, 48, 49, 50, 51, 52, 53, 54, 55, 56] (by decide +kernel) (by decide +kernel)
set_option maxRecDepth 20000 in
theorem gX5_call_X5_goesWell : GoodIn wsX5_call (wsV RX5 86 RX5 yX5_goesWell wsX5_goesWell) := goodIn_app (goodIn_of _ (by decide +kernel)) ggX5_call_X5_goesWell
set_option maxRecDepth 20000 in
theorem ggX5_call_X5_leftOf : GoodIn wsX5_call wsX5_leftOf := goodIn_r _ [32, 33, 6, 34, 35, 36, 37, 38, 39, 40, 41, 42, 43, 44, 45, 46, 47, 48, 49, 50, 51, 52, 53, 54, 55, 56] (by decide +kernel) (by decide +kernel)
set_option maxRecDepth 20000 in
theorem gX5_call_X5_leftOf : GoodIn wsX5_call (wsV RX5 100 RX5 yX5_leftOf wsX5_leftOf) := goodIn_app (goodIn_of _ (by decide +kernel)) ggX5_call_X5_leftOf
theorem dX5_call_0 : decode cX5_call 0 = .ok (.iload_n 2, 1) := by decide +kernel
theorem dX5_call_1 : decode cX5_call 1 = .ok (.invokestatic 89, 3) := by decide +kernel
theorem dX5_call_4 : decode cX5_call 4 = .ok (.ifCond .eq 17, 3) := by decide +kernel
theorem dX5_call_7 : decode cX5_call 7 = .ok (.iload_n 3, 1) := by decide +kernel
theorem dX5_call_8 : decode cX5_call 8 = .ok (.iconst 1, 1) := by decide +kernel
theorem dX5_call_9 : decode cX5_call 9 = .ok (.bipush 9, 2) := by decide +kernel
theorem dX5_call_11 : decode cX5_call 11 = .ok (.invokestatic 72, 3) := by decide +kernel
theorem dX5_call_14 : decode cX5_call 14 = .ok (.ifCond .eq 7, 3) := by decide +kernel
theorem dX5_call_17 : decode cX5_call 17 = .ok (.iconst 1, 1) := by decide +kernel
theorem dX5_call_18 : decode cX5_call 18 = .ok (.goto 4, 3) := by decide +kernel
theorem dX5_call_21 : decode cX5_call 21 = .ok (.iconst 0, 1) := by decide +kernel
theorem dX5_call_22 : decode cX5_call 22 = .ok (.istore 4, 2) := by decide +kernel
theorem dX5_call_24 : decode cX5_call 24 = .ok (.aload_n 0, 1) := by decide +kernel
theorem dX5_call_25 : decode cX5_call 25 = .ok (.aload_n 0, 1) := by decide +kernel
theorem dX5_call_26 : decode cX5_call 26 = .ok (.iload_n 1, 1) := by decide +kernel
theorem dX5_call_27 : decode cX5_call 27 = .ok (.invokevirtual 92, 3) := by decide +kernel
theorem dX5_call_30 : decode cX5_call 30 = .ok (.ifCond .ne 7, 3) := by decide +kernel
theorem dX5_call_33 : decode cX5_call 33 = .ok (.iconst 1, 1) := by decide +kernel
theorem dX5_call_34 : decode cX5_call 34 = .ok (.goto 26, 3) := by decide +kernel
theorem dX5_call_37 : decode cX5_call 37 = .ok (.iload 4, 2) := by decide +kernel
theorem dX5_call_39 : decode cX5_call 39 = .ok (.ifCond .ne 7, 3) := by decide +kernel
theorem dX5_call_42 : decode cX5_call 42 = .ok (.iconst 2, 1) := by decide +kernel
theorem dX5_call_43 : decode cX5_call 43 = .ok (.goto 17, 3) := by decide +kernel
theorem dX5_call_46 : decode cX5_call 46 = .ok (.aload_n 0, 1) := by decide +kernel
theorem dX5_call_47 : decode cX5_call 47 = .ok (.getfield 79, 3) := by decide +kernel
theorem dX5_call_50 : decode cX5_call 50 = .ok (.bipush 80, 2) := by decide +kernel
theorem dX5_call_52 : decode cX5_call 52 = .ok (.if_icmp .ne 7, 3) := by decide +kernel
theorem dX5_call_55 : decode cX5_call 55 = .ok (.iconst 3, 1) := by decide +kernel
theorem dX5_call_56 : decode cX5_call 56 = .ok (.goto 4, 3) := by decide +kernel
theorem dX5_call_59 : decode cX5_call 59 = .ok (.iconst 0, 1) := by decide +kernel
theorem dX5_call_60 : decode cX5_call 60 = .ok (.invokevirtual 86, 3) := by decide +kernel
theorem dX5_call_63 : decode cX5_call 63 = .ok (.ifCond .ne 5, 3) := by decide +kernel
theorem dX5_call_66 : decode cX5_call 66 = .ok (.iconst 0, 1) := by decide +kernel
theorem dX5_call_67 : decode cX5_call 67 = .ok (.ireturn, 1) := by decide +kernel
theorem dX5_call_68 : decode cX5_call 68 = .ok (.aload_n 0, 1) := by decide +kernel
theorem dX5_call_69 : decode cX5_call 69 = .ok (.getfield 19, 3) := by decide +kernel
theorem dX5_call_72 : decode cX5_call 72 = .ok (.iload_n 2, 1) := by decide +kernel
theorem dX5_call_73 : decode cX5_call 73 = .ok (.iaload, 1) := by decide +kernel
theorem dX5_call_74 : decode cX5_call 74 = .ok (.iload_n 3, 1) := by decide +kernel
theorem dX5_call_75 : decode cX5_call 75 = .ok (.imul, 1) := by decide +kernel
theorem dX5_call_76 : decode cX5_call 76 = .ok (.istore 5, 2) := by decide +kernel
theorem dX5_call_78 : decode cX5_call 78 = .ok (.aload_n 0, 1) := by decide +kernel
theorem dX5_call_79 : decode cX5_call 79 = .ok (.getfield 37, 3) := by decide +kernel
theorem dX5_call_82 : decode cX5_call 82 = .ok (.iload_n 1, 1) := by decide +kernel
theorem dX5_call_83 : decode cX5_call 83 = .ok (.iaload, 1) := by decide +kernel
theorem dX5_call_84 : decode cX5_call 84 = .ok (.aload_n 0, 1) := by decide +kernel
theorem dX5_call_85 : decode cX5_call 85 = .ok (.getfield 22, 3) := by decide +kernel
theorem dX5_call_88 : decode cX5_call 88 = .ok (.iload_n 2, 1) := by decide +kernel
theorem dX5_call_89 : decode cX5_call 89 = .ok (.iaload, 1) := by decide +kernel
theorem dX5_call_90 : decode cX5_call 90 = .ok (.if_icmp .ge 5, 3) := by decide +kernel
theorem dX5_call_93 : decode cX5_call 93 = .ok (.iconst 1, 1) := by decide +kernel
theorem dX5_call_94 : decode cX5_call 94 = .ok (.ireturn, 1) := by decide +kernel
theorem dX5_call_95 : decode cX5_call 95 = .ok (.aload_n 0, 1) := by decide +kernel
theorem dX5_call_96 : decode cX5_call 96 = .ok (.getfield 28, 3) := by decide +kernel
theorem dX5_call_99 : decode cX5_call 99 = .ok (.iload_n 1, 1) := by decide +kernel
theorem dX5_call_100 : decode cX5_call 100 = .ok (.iaload, 1) := by decide +kernel
theorem dX5_call_101 : decode cX5_call 101 = .ok (.iload 5, 2) := by decide +kernel
theorem dX5_call_103 : decode cX5_call 103 = .ok (.if_icmp .ge 22, 3) := by decide +kernel
theorem dX5_call_106 : decode cX5_call 106 = .ok (.aload_n 0, 1) := by decide +kernel
theorem dX5_call_107 : decode cX5_call 107 = .ok (.getfield 28, 3) := by decide +kernel
theorem dX5_call_110 : decode cX5_call 110 = .ok (.iload_n 1, 1) := by decide +kernel
theorem dX5_call_111 : decode cX5_call 111 = .ok (.iaload, 1) := by decide +kernel
theorem dX5_call_112 : decode cX5_call 112 = .ok (.aload_n 0, 1) := by decide +kernel
theorem dX5_call_113 : decode cX5_call 113 = .ok (.iload_n 1, 1) := by decide +kernel
theorem dX5_call_114 : decode cX5_call 114 = .ok (.invokevirtual 100, 3) := by decide +kernel
theorem dX5_call_117 : decode cX5_call 117 = .ok (.iadd, 1) := by decide +kernel
theorem dX5_call_118 : decode cX5_call 118 = .ok (.iload 5, 2) := by decide +kernel
theorem dX5_call_120 : decode cX5_call 120 = .ok (.if_icmp .ge 5, 3) := by decide +kernel
theorem dX5_call_123 : decode cX5_call 123 = .ok (.iconst 2, 1) := by decide +kernel
theorem dX5_call_124 : decode cX5_call 124 = .ok (.ireturn, 1) := by decide +kernel
theorem dX5_call_125 : decode cX5_call 125 = .ok (.aload_n 0, 1) := by decide +kernel
theorem dX5_call_126 : decode cX5_call 126 = .ok (.getfield 28, 3) := by decide +kernel
theorem dX5_call_129 : decode cX5_call 129 = .ok (.iload_n 1, 1) := by decide +kernel
theorem dX5_call_130 : decode cX5_call 130 = .ok (.iaload, 1) := by decide +kernel
theorem dX5_call_131 : decode cX5_call 131 = .ok (.iload 5, 2) := by decide +kernel
theorem dX5_call_133 : decode cX5_call 133 = .ok (.if_icmp .ge 12, 3) := by decide +kernel
theorem dX5_call_136 : decode cX5_call 136 = .ok (.aload_n 0, 1) := by decide +kernel
theorem dX5_call_137 : decode cX5_call 137 = .ok (.getfield 28, 3) := by decide +kernel
theorem dX5_call_140 : decode cX5_call 140 = .ok (.iload_n 1, 1) := by decide +kernel
theorem dX5_call_141 : decode cX5_call 141 = .ok (.iaload, 1) := by decide +kernel
theorem dX5_call_142 : decode cX5_call 142 = .ok (.goto 5, 3) := by decide +kernel
theorem dX5_call_145 : decode cX5_call 145 = .ok (.iload 5, 2) := by decide +kernel
theorem dX5_call_147 : decode cX5_call 147 = .ok (.istore 6, 2) := by decide +kernel
theorem dX5_call_149 : decode cX5_call 149 = .ok (.aload_n 0, 1) := by decide +kernel
theorem dX5_call_150 : decode cX5_call 150 = .ok (.getfield 28, 3) := by decide +kernel
theorem dX5_call_153 : decode cX5_call 153 = .ok (.iload_n 1, 1) := by decide +kernel
theorem dX5_call_154 : decode cX5_call 154 = .ok (.dup2, 1) := by decide +kernel
theorem dX5_call_155 : decode cX5_call 155 = .ok (.iaload, 1) := by decide +kernel
theorem dX5_call_156 : decode cX5_call 156 = .ok (.iload 6, 2) := by decide +kernel
theorem dX5_call_158 : decode cX5_call 158 = .ok (.isub, 1) := by decide +kernel
theorem dX5_call_159 : decode cX5_call 159 = .ok (.iastore, 1) := by decide +kernel
theorem dX5_call_160 : decode cX5_call 160 = .ok (.aload_n 0, 1) := by decide +kernel
theorem dX5_call_161 : decode cX5_call 161 = .ok (.getfield 34, 3) := by decide +kernel
theorem dX5_call_164 : decode cX5_call 164 = .ok (.iload_n 1, 1) := by decide +kernel
theorem dX5_call_165 : decode cX5_call 165 = .ok (.dup2, 1) := by decide +kernel
theorem dX5_call_166 : decode cX5_call 166 = .ok (.iaload, 1) := by decide +kernel
theorem dX5_call_167 : decode cX5_call 167 = .ok (.iload 5, 2) := by decide +kernel
theorem dX5_call_169 : decode cX5_call 169 = .ok (.iload 6, 2) := by decide +kernel
theorem dX5_call_171 : decode cX5_call 171 = .ok (.isub, 1) := by decide +kernel
theorem dX5_call_172 : decode cX5_call 172 = .ok (.iadd, 1) := by decide +kernel
theorem dX5_call_173 : decode cX5_call 173 = .ok (.iastore, 1) := by decide +kernel
theorem dX5_call_174 : decode cX5_call 174 = .ok (.aload_n 0, 1) := by decide +kernel
theorem dX5_call_175 : decode cX5_call 175 = .ok (.getfield 37, 3) := by decide +kernel
theorem dX5_call_178 : decode cX5_call 178 = .ok (.iload_n 1, 1) := by decide +kernel
theorem dX5_call_179 : decode cX5_call 179 = .ok (.dup2, 1) := by decide +kernel
theorem dX5_call_180 : decode cX5_call 180 = .ok (.iaload, 1) := by decide +kernel
theorem dX5_call_181 : decode cX5_call 181 = .ok (.aload_n 0, 1) := by decide +kernel
theorem dX5_call_182 : decode cX5_call 182 = .ok (.getfield 22, 3) := by decide +kernel
theorem dX5_call_185 : decode cX5_call 185 = .ok (.iload_n 2, 1) := by decide +kernel
theorem dX5_call_186 : decode cX5_call 186 = .ok (.iaload, 1) := by decide +kernel
theorem dX5_call_187 : decode cX5_call 187 = .ok (.isub, 1) := by decide +kernel
theorem dX5_call_188 : decode cX5_call 188 = .ok (.iastore, 1) := by decide +kernel
theorem dX5_call_189 : decode cX5_call 189 = .ok (.aload_n 0, 1) := by decide +kernel
theorem dX5_call_190 : decode cX5_call 190 = .ok (.getfield 43, 3) := by decide +kernel
theorem dX5_call_193 : decode cX5_call 193 = .ok (.aload_n 0, 1) := by decide +kernel
theorem dX5_call_194 : decode cX5_call 194 = .ok (.getfield 79, 3) := by decide +kernel
theorem dX5_call_197 : decode cX5_call 197 = .ok (.iload_n 1, 1) := by decide +kernel
theorem dX5_call_198 : decode cX5_call 198 = .ok (.iastore, 1) := by decide +kernel
theorem dX5_call_199 : decode cX5_call 199 = .ok (.aload_n 0, 1) := by decide +kernel
theorem dX5_call_200 : decode cX5_call 200 = .ok (.getfield 46, 3) := by decide +kernel
theorem dX5_call_203 : decode cX5_call 203 = .ok (.aload_n 0, 1) := by decide +kernel
theorem dX5_call_204 : decode cX5_call 204 = .ok (.getfield 79, 3) := by decide +kernel
theorem dX5_call_207 : decode cX5_call 207 = .ok (.iload 5, 2) := by decide +kernel
theorem dX5_call_209 : decode cX5_call 209 = .ok (.iastore, 1) := by decide +kernel
theorem dX5_call_210 : decode cX5_call 210 = .ok (.aload_n 0, 1) := by decide +kernel
theorem dX5_call_211 : decode cX5_call 211 = .ok (.getfield 49, 3) := by decide +kernel
theorem dX5_call_214 : decode cX5_call 214 = .ok (.aload_n 0, 1) := by decide +kernel
theorem dX5_call_215 : decode cX5_call 215 = .ok (.getfield 79, 3) := by decide +kernel
theorem dX5_call_218 : decode cX5_call 218 = .ok (.aload_n 0, 1) := by decide +kernel
theorem dX5_call_219 : decode cX5_call 219 = .ok (.getfield 22, 3) := by decide +kernel
theorem dX5_call_222 : decode cX5_call 222 = .ok (.iload_n 2, 1) := by decide +kernel
theorem dX5_call_223 : decode cX5_call 223 = .ok (.iaload, 1) := by decide +kernel
theorem dX5_call_224 : decode cX5_call 224 = .ok (.iastore, 1) := by decide +kernel
theorem dX5_call_225 : decode cX5_call 225 = .ok (.aload_n 0, 1) := by decide +kernel
theorem dX5_call_226 : decode cX5_call 226 = .ok (.getfield 52, 3) := by decide +kernel
theorem dX5_call_229 : decode cX5_call 229 = .ok (.aload_n 0, 1) := by decide +kernel
theorem dX5_call_230 : decode cX5_call 230 = .ok (.getfield 79, 3) := by decide +kernel
theorem dX5_call_233 : decode cX5_call 233 = .ok (.aload_n 0, 1) := by decide +kernel
theorem dX5_call_234 : decode cX5_call 234 = .ok (.getfield 104, 3) := by decide +kernel
theorem dX5_call_237 : decode cX5_call 237 = .ok (.iastore, 1) := by decide +kernel
theorem dX5_call_238 : decode cX5_call 238 = .ok (.aload_n 0, 1) := by decide +kernel
theorem dX5_call_239 : decode cX5_call 239 = .ok (.dup, 1) := by decide +kernel
theorem dX5_call_240 : decode cX5_call 240 = .ok (.getfield 79, 3) := by decide +kernel
theorem dX5_call_243 : decode cX5_call 243 = .ok (.iconst 1, 1) := by decide +kernel
theorem dX5_call_244 : decode cX5_call 244 = .ok (.iadd, 1) := by decide +kernel
theorem dX5_call_245 : decode cX5_call 245 = .ok (.putfield 79, 3) := by decide +kernel
theorem dX5_call_248 : decode cX5_call 248 = .ok (.iconst 0, 1) := by decide +kernel
theorem dX5_call_249 : decode cX5_call 249 = .ok (.ireturn, 1) := by decide +kernel
set_option maxRecDepth 20000 in
theorem ggX5_settle_X5_give : GoodIn wsX5_settle wsX5_give := goodIn_r _ [11, 12, 13, 14, 15, 16, 17, 18, 19, 20, 21, 22, 23, 24, 25, 26, 27, 28, 29, 30, 31, 32, 33, 34, 35, 36] (by decide +kernel) (by decide +kernel)
set_option maxRecDepth 20000 in
theorem gX5_settle_X5_give : GoodIn wsX5_settle (wsV RX5 96 RX5 yX5_give wsX5_give) := goodIn_app (goodIn_of _ (by decide +kernel)) ggX5_settle_X5_give
theorem dX5_settle_0 : decode cX5_settle 0 = .ok (.aload_n 0, 1) := by decide +kernel
theorem dX5_settle_1 : decode cX5_settle 1 = .ok (.getfield 61, 3) := by decide +kernel
theorem dX5_settle_4 : decode cX5_settle 4 = .ok (.iload_n 1, 1) := by decide +kernel
theorem dX5_settle_5 : decode cX5_settle 5 = .ok (.iconst 1, 1) := by decide +kernel
theorem dX5_settle_6 : decode cX5_settle 6 = .ok (.bastore, 1) := by decide +kernel
theorem dX5_settle_7 : decode cX5_settle 7 = .ok (.aload_n 0, 1) := by decide +kernel
theorem dX5_settle_8 : decode cX5_settle 8 = .ok (.getfield 55, 3) := by decide +kernel
theorem dX5_settle_11 : decode cX5_settle 11 = .ok (.iload_n 1, 1) := by decide +kernel
theorem dX5_settle_12 : decode cX5_settle 12 = .ok (.iload_n 2, 1) := by decide +kernel
theorem dX5_settle_13 : decode cX5_settle 13 = .ok (.iastore, 1) := by decide +kernel
theorem dX5_settle_14 : decode cX5_settle 14 = .ok (.aload_n 0, 1) := by decide +kernel
theorem dX5_settle_15 : decode cX5_settle 15 = .ok (.getfield 58, 3) := by decide +kernel
theorem dX5_settle_18 : decode cX5_settle 18 = .ok (.iload_n 1, 1) := by decide +kernel
theorem dX5_settle_19 : decode cX5_settle 19 = .ok (.aload_n 0, 1) := by decide +kernel
theorem dX5_settle_20 : decode cX5_settle 20 = .ok (.getfield 104, 3) := by decide +kernel
theorem dX5_settle_23 : decode cX5_settle 23 = .ok (.iastore, 1) := by decide +kernel
theorem dX5_settle_24 : decode cX5_settle 24 = .ok (.aload_n 0, 1) := by decide +kernel
theorem dX5_settle_25 : decode cX5_settle 25 = .ok (.aload_n 0, 1) := by decide +kernel
theorem dX5_settle_26 : decode cX5_settle 26 = .ok (.getfield 43, 3) := by decide +kernel
theorem dX5_settle_29 : decode cX5_settle 29 = .ok (.iload_n 1, 1) := by decide +kernel
theorem dX5_settle_30 : decode cX5_settle 30 = .ok (.iaload, 1) := by decide +kernel
theorem dX5_settle_31 : decode cX5_settle 31 = .ok (.aload_n 0, 1) := by decide +kernel
theorem dX5_settle_32 : decode cX5_settle 32 = .ok (.getfield 46, 3) := by decide +kernel
theorem dX5_settle_35 : decode cX5_settle 35 = .ok (.iload_n 1, 1) := by decide +kernel
theorem dX5_settle_36 : decode cX5_settle 36 = .ok (.iaload, 1) := by decide +kernel
theorem dX5_settle_37 : decode cX5_settle 37 = .ok (.iload_n 2, 1) := by decide +kernel
theorem dX5_settle_38 : decode cX5_settle 38 = .ok (.isub, 1) := by decide +kernel
theorem dX5_settle_39 : decode cX5_settle 39 = .ok (.invokevirtual 96, 3) := by decide +kernel
theorem dX5_settle_42 : decode cX5_settle 42 = .ok (.return_, 1) := by decide +kernel
set_option maxRecDepth 20000 in
theorem ggX5_end_X5_isCall : GoodIn wsX5_end wsX5_isCall := goodIn_r _ [8, 9, 10, 11, 7, 12, 31, 32, 33, 34, 35, 36, 37, 38, 39, 40, 41, 42, 43, 44, 45, 46, 47, 48, 49, 50, 51, 52, 53] (by decide +kernel) (by decide +kernel)
set_option maxRecDepth 20000 in
theorem gX5_end_X5_isCall : GoodIn wsX5_end (wsV RX5 107 RX5 yX5_isCall wsX5_isCall) := goodIn_app (goodIn_of _ (by decide +kernel)) ggX5_end_X5_isCall
set_option maxRecDepth 20000 in
theorem ggX5_end_X5_in : GoodIn wsX5_end wsX5_in := goodIn_r _ [12] (by decide +kernel) (by decide +kernel)
set_option maxRecDepth 20000 in
theorem gX5_end_X5_in : GoodIn wsX5_end (va_wsS RX5 72 yX5_in wsX5_in) := goodIn_app (goodIn_of _ (by decide +kernel)) ggX5_end_X5_in
set_option maxRecDepth 20000 in
theorem ggX5_end_X5_goesWell : GoodIn wsX5_end wsX5_goesWell := goodIn_r _ [16, 17, 31, 32, 33, 34, 35, 36, 37, 38, 39, 40, 41, 42, 43, 44, 45, 46, 47, 48, 49, 50, 51, 52, 53] (by decide +kernel) (by decide +kernel)
set_option maxRecDepth 20000 in
theorem gX5_end_X5_goesWell : GoodIn wsX5_end (wsV RX5 86 RX5 yX5_goesWell wsX5_goesWell) := goodIn_app (goodIn_of _ (by decide +kernel)) ggX5_end_X5_goesWell
set_option maxRecDepth 20000 in
theorem ggX5_end_X5_settle : GoodIn wsX5_end wsX5_settle := goodIn_r _ [21, 1, 3, 22, 23, 24, 2, 25, 26, 27, 7, 28, 29, 30, 31, 32, 33, 34, 35, 36, 37, 38, 39, 40, 41, 42, 43, 44, 45, 46, 47, 48, 49, 50, 51, 52, 53] (by decide +kernel) (by decide +kernel)
set_option maxRecDepth 20000 in
theorem gX5_end_X5_settle : GoodIn wsX5_end (wsV RX5 110 RX5 yX5_settle wsX5_settle) := goodIn_app (goodIn_of _ (by decide +kernel)) ggX5_end_X5_settle
theorem dX5_end_0 : decode cX5_end 0 = .ok (.aload_n 0, 1) := by decide +kernel
theorem dX5_end_1 : decode cX5_end 1 = .ok (.iload_n 1, 1) := by decide +kernel
theorem dX5_end_2 : decode cX5_end 2 = .ok (.invokevirtual 107, 3) := by decide +kernel
theorem dX5_end_5 : decode cX5_end 5 = .ok (.istore_n 3, 1) := by decide +kernel
theorem dX5_end_6 : decode cX5_end 6 = .ok (.aload_n 0, 1) := by decide +kernel
theorem dX5_end_7 : decode cX5_end 7 = .ok (.iload_n 3, 1) := by decide +kernel
theorem dX5_end_8 : decode cX5_end 8 = .ok (.ifCond .ne 7, 3) := by decide +kernel
theorem dX5_end_11 : decode cX5_end 11 = .ok (.iconst 1, 1) := by decide +kernel
theorem dX5_end_12 : decode cX5_end 12 = .ok (.goto 30, 3) := by decide +kernel
theorem dX5_end_15 : decode cX5_end 15 = .ok (.iload_n 2, 1) := by decide +kernel
theorem dX5_end_16 : decode cX5_end 16 = .ok (.iconst 0, 1) := by decide +kernel
theorem dX5_end_17 : decode cX5_end 17 = .ok (.iconst 2, 1) := by decide +kernel
theorem dX5_end_18 : decode cX5_end 18 = .ok (.invokestatic 72, 3) := by decide +kernel
theorem dX5_end_21 : decode cX5_end 21 = .ok (.ifCond .ne 7, 3) := by decide +kernel
theorem dX5_end_24 : decode cX5_end 24 = .ok (.iconst 2, 1) := by decide +kernel
theorem dX5_end_25 : decode cX5_end 25 = .ok (.goto 17, 3) := by decide +kernel
theorem dX5_end_28 : decode cX5_end 28 = .ok (.aload_n 0, 1) := by decide +kernel
theorem dX5_end_29 : decode cX5_end 29 = .ok (.getfield 61, 3) := by decide +kernel
theorem dX5_end_32 : decode cX5_end 32 = .ok (.iload_n 1, 1) := by decide +kernel
theorem dX5_end_33 : decode cX5_end 33 = .ok (.baload, 1) := by decide +kernel
theorem dX5_end_34 : decode cX5_end 34 = .ok (.ifCond .eq 7, 3) := by decide +kernel
theorem dX5_end_37 : decode cX5_end 37 = .ok (.iconst 3, 1) := by decide +kernel
theorem dX5_end_38 : decode cX5_end 38 = .ok (.goto 4, 3) := by decide +kernel
theorem dX5_end_41 : decode cX5_end 41 = .ok (.iconst 0, 1) := by decide +kernel
theorem dX5_end_42 : decode cX5_end 42 = .ok (.invokevirtual 86, 3) := by decide +kernel
theorem dX5_end_45 : decode cX5_end 45 = .ok (.ifCond .ne 5, 3) := by decide +kernel
theorem dX5_end_48 : decode cX5_end 48 = .ok (.iconst 0, 1) := by decide +kernel
theorem dX5_end_49 : decode cX5_end 49 = .ok (.ireturn, 1) := by decide +kernel
theorem dX5_end_50 : decode cX5_end 50 = .ok (.aload_n 0, 1) := by decide +kernel
theorem dX5_end_51 : decode cX5_end 51 = .ok (.getfield 46, 3) := by decide +kernel
theorem dX5_end_54 : decode cX5_end 54 = .ok (.iload_n 1, 1) := by decide +kernel
theorem dX5_end_55 : decode cX5_end 55 = .ok (.iaload, 1) := by decide +kernel
theorem dX5_end_56 : decode cX5_end 56 = .ok (.istore 4, 2) := by decide +kernel
theorem dX5_end_58 : decode cX5_end 58 = .ok (.aload_n 0, 1) := by decide +kernel
theorem dX5_end_59 : decode cX5_end 59 = .ok (.iload_n 1, 1) := by decide +kernel
theorem dX5_end_60 : decode cX5_end 60 = .ok (.iload_n 2, 1) := by decide +kernel
theorem dX5_end_61 : decode cX5_end 61 = .ok (.ifCond .ne 8, 3) := by decide +kernel
theorem dX5_end_64 : decode cX5_end 64 = .ok (.iload 4, 2) := by decide +kernel
theorem dX5_end_66 : decode cX5_end 66 = .ok (.goto 18, 3) := by decide +kernel
theorem dX5_end_69 : decode cX5_end 69 = .ok (.iload_n 2, 1) := by decide +kernel
theorem dX5_end_70 : decode cX5_end 70 = .ok (.iconst 1, 1) := by decide +kernel
theorem dX5_end_71 : decode cX5_end 71 = .ok (.if_icmp .ne 12, 3) := by decide +kernel
theorem dX5_end_74 : decode cX5_end 74 = .ok (.iload 4, 2) := by decide +kernel
theorem dX5_end_76 : decode cX5_end 76 = .ok (.iconst 1, 1) := by decide +kernel
theorem dX5_end_77 : decode cX5_end 77 = .ok (.iadd, 1) := by decide +kernel
theorem dX5_end_78 : decode cX5_end 78 = .ok (.iconst 2, 1) := by decide +kernel
theorem dX5_end_79 : decode cX5_end 79 = .ok (.idiv, 1) := by decide +kernel
theorem dX5_end_80 : decode cX5_end 80 = .ok (.goto 4, 3) := by decide +kernel
theorem dX5_end_83 : decode cX5_end 83 = .ok (.iconst 0, 1) := by decide +kernel
theorem dX5_end_84 : decode cX5_end 84 = .ok (.invokevirtual 110, 3) := by decide +kernel
theorem dX5_end_87 : decode cX5_end 87 = .ok (.aload_n 0, 1) := by decide +kernel
theorem dX5_end_88 : decode cX5_end 88 = .ok (.getfield 55, 3) := by decide +kernel
theorem dX5_end_91 : decode cX5_end 91 = .ok (.iload_n 1, 1) := by decide +kernel
theorem dX5_end_92 : decode cX5_end 92 = .ok (.iaload, 1) := by decide +kernel
theorem dX5_end_93 : decode cX5_end 93 = .ok (.ireturn, 1) := by decide +kernel
set_option maxRecDepth 20000 in
theorem ggX5_dispute_X5_isCall : GoodIn wsX5_dispute wsX5_isCall := goodIn_r _ [13, 14, 15, 16, 12, 17, 29, 30, 31, 32, 33, 34, 35, 36, 37, 38, 39, 40, 41, 42, 43, 44, 45, 46, 47, 48, 49, 50, 51] (by decide +kernel) (by decide +kernel)
set_option maxRecDepth 20000 in
theorem gX5_dispute_X5_isCall : GoodIn wsX5_dispute (wsV RX5 107 RX5 yX5_isCall wsX5_isCall) := goodIn_app (goodIn_of _ (by decide +kernel)) ggX5_dispute_X5_isCall
set_option maxRecDepth 20000 in
theorem ggX5_dispute_X5_goesWell : GoodIn wsX5_dispute wsX5_goesWell := goodIn_r _ [21, 22, 29, 30, 31, 32, 33, 34, 35, 36, 37, 38, 39, 40, 41, 42, 43, 44, 45, 46, 47, 48, 49, 50, 51] (by decide +kernel) (by decide +kernel)
set_option maxRecDepth 20000 in
theorem gX5_dispute_X5_goesWell : GoodIn wsX5_dispute (wsV RX5 86 RX5 yX5_goesWell wsX5_goesWell) := goodIn_app (goodIn_of _ (by decide +kernel)) ggX5_dispute_X5_goesWell
set_option maxRecDepth 20000 in
theorem ggX5_dispute_X5_give : GoodIn wsX5_dispute wsX5_give := goodIn_r _ [26, 27, 28, 29, 30, 31, 32, 33, 34, 35, 36, 37, 38, 39, 40, 41, 42, 43, 44, 45, 46, 47, 48, 49, 50, 51] (by decide +kernel) (by decide +kernel)
set_option maxRecDepth 20000 in
theorem gX5_dispute_X5_give : GoodIn wsX5_dispute (wsV RX5 96 RX5 yX5_give wsX5_give) := goodIn_app (goodIn_of _ (by decide +kernel)) ggX5_dispute_X5_give
theorem dX5_dispute_0 : decode cX5_dispute 0 = .ok (.aload_n 0, 1) := by decide +kernel
theorem dX5_dispute_1 : decode cX5_dispute 1 = .ok (.iload_n 1, 1) := by decide +kernel
theorem dX5_dispute_2 : decode cX5_dispute 2 = .ok (.invokevirtual 107, 3) := by decide +kernel
theorem dX5_dispute_5 : decode cX5_dispute 5 = .ok (.istore_n 2, 1) := by decide +kernel
theorem dX5_dispute_6 : decode cX5_dispute 6 = .ok (.iload_n 2, 1) := by decide +kernel
theorem dX5_dispute_7 : decode cX5_dispute 7 = .ok (.ifCond .eq 41, 3) := by decide +kernel
theorem dX5_dispute_10 : decode cX5_dispute 10 = .ok (.aload_n 0, 1) := by decide +kernel
theorem dX5_dispute_11 : decode cX5_dispute 11 = .ok (.getfield 61, 3) := by decide +kernel
theorem dX5_dispute_14 : decode cX5_dispute 14 = .ok (.iload_n 1, 1) := by decide +kernel
theorem dX5_dispute_15 : decode cX5_dispute 15 = .ok (.baload, 1) := by decide +kernel
theorem dX5_dispute_16 : decode cX5_dispute 16 = .ok (.ifCond .eq 32, 3) := by decide +kernel
theorem dX5_dispute_19 : decode cX5_dispute 19 = .ok (.aload_n 0, 1) := by decide +kernel
theorem dX5_dispute_20 : decode cX5_dispute 20 = .ok (.getfield 65, 3) := by decide +kernel
theorem dX5_dispute_23 : decode cX5_dispute 23 = .ok (.iload_n 1, 1) := by decide +kernel
theorem dX5_dispute_24 : decode cX5_dispute 24 = .ok (.baload, 1) := by decide +kernel
theorem dX5_dispute_25 : decode cX5_dispute 25 = .ok (.ifCond .ne 23, 3) := by decide +kernel
theorem dX5_dispute_28 : decode cX5_dispute 28 = .ok (.aload_n 0, 1) := by decide +kernel
theorem dX5_dispute_29 : decode cX5_dispute 29 = .ok (.getfield 104, 3) := by decide +kernel
theorem dX5_dispute_32 : decode cX5_dispute 32 = .ok (.aload_n 0, 1) := by decide +kernel
theorem dX5_dispute_33 : decode cX5_dispute 33 = .ok (.getfield 58, 3) := by decide +kernel
theorem dX5_dispute_36 : decode cX5_dispute 36 = .ok (.iload_n 1, 1) := by decide +kernel
theorem dX5_dispute_37 : decode cX5_dispute 37 = .ok (.iaload, 1) := by decide +kernel
theorem dX5_dispute_38 : decode cX5_dispute 38 = .ok (.isub, 1) := by decide +kernel
theorem dX5_dispute_39 : decode cX5_dispute 39 = .ok (.bipush 50, 2) := by decide +kernel
theorem dX5_dispute_41 : decode cX5_dispute 41 = .ok (.if_icmp .gt 7, 3) := by decide +kernel
theorem dX5_dispute_44 : decode cX5_dispute 44 = .ok (.iconst 1, 1) := by decide +kernel
theorem dX5_dispute_45 : decode cX5_dispute 45 = .ok (.goto 4, 3) := by decide +kernel
theorem dX5_dispute_48 : decode cX5_dispute 48 = .ok (.iconst 0, 1) := by decide +kernel
theorem dX5_dispute_49 : decode cX5_dispute 49 = .ok (.istore_n 3, 1) := by decide +kernel
theorem dX5_dispute_50 : decode cX5_dispute 50 = .ok (.aload_n 0, 1) := by decide +kernel
theorem dX5_dispute_51 : decode cX5_dispute 51 = .ok (.iload_n 2, 1) := by decide +kernel
theorem dX5_dispute_52 : decode cX5_dispute 52 = .ok (.ifCond .ne 7, 3) := by decide +kernel
theorem dX5_dispute_55 : decode cX5_dispute 55 = .ok (.iconst 1, 1) := by decide +kernel
theorem dX5_dispute_56 : decode cX5_dispute 56 = .ok (.goto 12, 3) := by decide +kernel
theorem dX5_dispute_59 : decode cX5_dispute 59 = .ok (.iload_n 3, 1) := by decide +kernel
theorem dX5_dispute_60 : decode cX5_dispute 60 = .ok (.ifCond .eq 7, 3) := by decide +kernel
theorem dX5_dispute_63 : decode cX5_dispute 63 = .ok (.iconst 0, 1) := by decide +kernel
theorem dX5_dispute_64 : decode cX5_dispute 64 = .ok (.goto 4, 3) := by decide +kernel
theorem dX5_dispute_67 : decode cX5_dispute 67 = .ok (.iconst 2, 1) := by decide +kernel
theorem dX5_dispute_68 : decode cX5_dispute 68 = .ok (.invokevirtual 86, 3) := by decide +kernel
theorem dX5_dispute_71 : decode cX5_dispute 71 = .ok (.ifCond .ne 5, 3) := by decide +kernel
theorem dX5_dispute_74 : decode cX5_dispute 74 = .ok (.iconst 0, 1) := by decide +kernel
theorem dX5_dispute_75 : decode cX5_dispute 75 = .ok (.ireturn, 1) := by decide +kernel
theorem dX5_dispute_76 : decode cX5_dispute 76 = .ok (.aload_n 0, 1) := by decide +kernel
theorem dX5_dispute_77 : decode cX5_dispute 77 = .ok (.getfield 65, 3) := by decide +kernel
theorem dX5_dispute_80 : decode cX5_dispute 80 = .ok (.iload_n 1, 1) := by decide +kernel
theorem dX5_dispute_81 : decode cX5_dispute 81 = .ok (.iconst 1, 1) := by decide +kernel
theorem dX5_dispute_82 : decode cX5_dispute 82 = .ok (.bastore, 1) := by decide +kernel
theorem dX5_dispute_83 : decode cX5_dispute 83 = .ok (.aload_n 0, 1) := by decide +kernel
theorem dX5_dispute_84 : decode cX5_dispute 84 = .ok (.getfield 55, 3) := by decide +kernel
theorem dX5_dispute_87 : decode cX5_dispute 87 = .ok (.iload_n 1, 1) := by decide +kernel
theorem dX5_dispute_88 : decode cX5_dispute 88 = .ok (.iaload, 1) := by decide +kernel
theorem dX5_dispute_89 : decode cX5_dispute 89 = .ok (.istore 4, 2) := by decide +kernel
theorem dX5_dispute_91 : decode cX5_dispute 91 = .ok (.aload_n 0, 1) := by decide +kernel
theorem dX5_dispute_92 : decode cX5_dispute 92 = .ok (.getfield 55, 3) := by decide +kernel
theorem dX5_dispute_95 : decode cX5_dispute 95 = .ok (.iload_n 1, 1) := by decide +kernel
theorem dX5_dispute_96 : decode cX5_dispute 96 = .ok (.iconst 0, 1) := by decide +kernel
theorem dX5_dispute_97 : decode cX5_dispute 97 = .ok (.iastore, 1) := by decide +kernel
theorem dX5_dispute_98 : decode cX5_dispute 98 = .ok (.aload_n 0, 1) := by decide +kernel
theorem dX5_dispute_99 : decode cX5_dispute 99 = .ok (.aload_n 0, 1) := by decide +kernel
theorem dX5_dispute_100 : decode cX5_dispute 100 = .ok (.getfield 43, 3) := by decide +kernel
theorem dX5_dispute_103 : decode cX5_dispute 103 = .ok (.iload_n 1, 1) := by decide +kernel
theorem dX5_dispute_104 : decode cX5_dispute 104 = .ok (.iaload, 1) := by decide +kernel
theorem dX5_dispute_105 : decode cX5_dispute 105 = .ok (.iload 4, 2) := by decide +kernel
theorem dX5_dispute_107 : decode cX5_dispute 107 = .ok (.invokevirtual 96, 3) := by decide +kernel
theorem dX5_dispute_110 : decode cX5_dispute 110 = .ok (.aload_n 0, 1) := by decide +kernel
theorem dX5_dispute_111 : decode cX5_dispute 111 = .ok (.getfield 37, 3) := by decide +kernel
theorem dX5_dispute_114 : decode cX5_dispute 114 = .ok (.aload_n 0, 1) := by decide +kernel
theorem dX5_dispute_115 : decode cX5_dispute 115 = .ok (.getfield 43, 3) := by decide +kernel
theorem dX5_dispute_118 : decode cX5_dispute 118 = .ok (.iload_n 1, 1) := by decide +kernel
theorem dX5_dispute_119 : decode cX5_dispute 119 = .ok (.iaload, 1) := by decide +kernel
theorem dX5_dispute_120 : decode cX5_dispute 120 = .ok (.dup2, 1) := by decide +kernel
theorem dX5_dispute_121 : decode cX5_dispute 121 = .ok (.iaload, 1) := by decide +kernel
theorem dX5_dispute_122 : decode cX5_dispute 122 = .ok (.aload_n 0, 1) := by decide +kernel
theorem dX5_dispute_123 : decode cX5_dispute 123 = .ok (.getfield 49, 3) := by decide +kernel
theorem dX5_dispute_126 : decode cX5_dispute 126 = .ok (.iload_n 1, 1) := by decide +kernel
theorem dX5_dispute_127 : decode cX5_dispute 127 = .ok (.iaload, 1) := by decide +kernel
theorem dX5_dispute_128 : decode cX5_dispute 128 = .ok (.iadd, 1) := by decide +kernel
theorem dX5_dispute_129 : decode cX5_dispute 129 = .ok (.iastore, 1) := by decide +kernel
theorem dX5_dispute_130 : decode cX5_dispute 130 = .ok (.iload 4, 2) := by decide +kernel
theorem dX5_dispute_132 : decode cX5_dispute 132 = .ok (.ireturn, 1) := by decide +kernel
theorem dX5_isSlow_0 : decode cX5_isSlow 0 = .ok (.aload_n 0, 1) := by decide +kernel
theorem dX5_isSlow_1 : decode cX5_isSlow 1 = .ok (.getfield 28, 3) := by decide +kernel
theorem dX5_isSlow_4 : decode cX5_isSlow 4 = .ok (.iload_n 1, 1) := by decide +kernel
theorem dX5_isSlow_5 : decode cX5_isSlow 5 = .ok (.iaload, 1) := by decide +kernel
theorem dX5_isSlow_6 : decode cX5_isSlow 6 = .ok (.ifCond .ne 7, 3) := by decide +kernel
theorem dX5_isSlow_9 : decode cX5_isSlow 9 = .ok (.iconst 1, 1) := by decide +kernel
theorem dX5_isSlow_10 : decode cX5_isSlow 10 = .ok (.goto 4, 3) := by decide +kernel
theorem dX5_isSlow_13 : decode cX5_isSlow 13 = .ok (.iconst 0, 1) := by decide +kernel
theorem dX5_isSlow_14 : decode cX5_isSlow 14 = .ok (.istore_n 2, 1) := by decide +kernel
theorem dX5_isSlow_15 : decode cX5_isSlow 15 = .ok (.iconst 0, 1) := by decide +kernel
theorem dX5_isSlow_16 : decode cX5_isSlow 16 = .ok (.istore_n 3, 1) := by decide +kernel
theorem dX5_isSlow_17 : decode cX5_isSlow 17 = .ok (.iload_n 3, 1) := by decide +kernel
theorem dX5_isSlow_18 : decode cX5_isSlow 18 = .ok (.aload_n 0, 1) := by decide +kernel
theorem dX5_isSlow_19 : decode cX5_isSlow 19 = .ok (.getfield 79, 3) := by decide +kernel
theorem dX5_isSlow_22 : decode cX5_isSlow 22 = .ok (.if_icmp .ge 38, 3) := by decide +kernel
theorem dX5_isSlow_25 : decode cX5_isSlow 25 = .ok (.iload_n 2, 1) := by decide +kernel
theorem dX5_isSlow_26 : decode cX5_isSlow 26 = .ok (.ifCond .eq 26, 3) := by decide +kernel
theorem dX5_isSlow_29 : decode cX5_isSlow 29 = .ok (.aload_n 0, 1) := by decide +kernel
theorem dX5_isSlow_30 : decode cX5_isSlow 30 = .ok (.getfield 43, 3) := by decide +kernel
theorem dX5_isSlow_33 : decode cX5_isSlow 33 = .ok (.iload_n 3, 1) := by decide +kernel
theorem dX5_isSlow_34 : decode cX5_isSlow 34 = .ok (.iaload, 1) := by decide +kernel
theorem dX5_isSlow_35 : decode cX5_isSlow 35 = .ok (.iload_n 1, 1) := by decide +kernel
theorem dX5_isSlow_36 : decode cX5_isSlow 36 = .ok (.if_icmp .ne 12, 3) := by decide +kernel
theorem dX5_isSlow_39 : decode cX5_isSlow 39 = .ok (.aload_n 0, 1) := by decide +kernel
theorem dX5_isSlow_40 : decode cX5_isSlow 40 = .ok (.getfield 61, 3) := by decide +kernel
theorem dX5_isSlow_43 : decode cX5_isSlow 43 = .ok (.iload_n 3, 1) := by decide +kernel
theorem dX5_isSlow_44 : decode cX5_isSlow 44 = .ok (.baload, 1) := by decide +kernel
theorem dX5_isSlow_45 : decode cX5_isSlow 45 = .ok (.ifCond .eq 7, 3) := by decide +kernel
theorem dX5_isSlow_48 : decode cX5_isSlow 48 = .ok (.iconst 1, 1) := by decide +kernel
theorem dX5_isSlow_49 : decode cX5_isSlow 49 = .ok (.goto 4, 3) := by decide +kernel
theorem dX5_isSlow_52 : decode cX5_isSlow 52 = .ok (.iconst 0, 1) := by decide +kernel
theorem dX5_isSlow_53 : decode cX5_isSlow 53 = .ok (.istore_n 2, 1) := by decide +kernel
theorem dX5_isSlow_54 : decode cX5_isSlow 54 = .ok (.iinc 3 1, 3) := by decide +kernel
theorem dX5_isSlow_57 : decode cX5_isSlow 57 = .ok (.goto (-40), 3) := by decide +kernel
theorem dX5_isSlow_60 : decode cX5_isSlow 60 = .ok (.iload_n 2, 1) := by decide +kernel
theorem dX5_isSlow_61 : decode cX5_isSlow 61 = .ok (.ireturn, 1) := by decide +kernel
set_option maxRecDepth 20000 in
theorem ggX5_passOne_X5_settle : GoodIn wsX5_passOne wsX5_settle := goodIn_r _ [16, 3, 17, 18, 1, 19, 5, 20, 21, 22, 15, 23, 24, 25, 30, 31, 32, 33, 34, 35, 36, 37, 38, 39, 40, 41, 42, 43, 44, 45, 46, 47, 48, 49, 50, 51, 52] (by decide +kernel) (by decide +kernel)
set_option maxRecDepth 20000 in
theorem gX5_passOne_X5_settle : GoodIn wsX5_passOne (wsV RX5 110 RX5 yX5_settle wsX5_settle) := goodIn_app (goodIn_of _ (by decide +kernel)) ggX5_passOne_X5_settle
set_option maxRecDepth 20000 in
theorem ggX5_passOne_X5_isSlow : GoodIn wsX5_passOne wsX5_isSlow := goodIn_r _ [29, 25, 2, 19, 3, 30, 31, 32, 33, 34, 35, 36, 37, 38, 39, 40, 41, 42, 43, 44, 45, 46, 47, 48, 49, 50, 51, 52] (by decide +kernel) (by decide +kernel)
set_option maxRecDepth 20000 in
theorem gX5_passOne_X5_isSlow : GoodIn wsX5_passOne (wsV RX5 113 RX5 yX5_isSlow wsX5_isSlow) := goodIn_app (goodIn_of _ (by decide +kernel)) ggX5_passOne_X5_isSlow
theorem dX5_passOne_0 : decode cX5_passOne 0 = .ok (.aload_n 0, 1) := by decide +kernel
theorem dX5_passOne_1 : decode cX5_passOne 1 = .ok (.dup, 1) := by decide +kernel
theorem dX5_passOne_2 : decode cX5_passOne 2 = .ok (.getfield 104, 3) := by decide +kernel
theorem dX5_passOne_5 : decode cX5_passOne 5 = .ok (.iconst 1, 1) := by decide +kernel
theorem dX5_passOne_6 : decode cX5_passOne 6 = .ok (.iadd, 1) := by decide +kernel
theorem dX5_passOne_7 : decode cX5_passOne 7 = .ok (.putfield 104, 3) := by decide +kernel
theorem dX5_passOne_10 : decode cX5_passOne 10 = .ok (.iconst 0, 1) := by decide +kernel
theorem dX5_passOne_11 : decode cX5_passOne 11 = .ok (.istore_n 1, 1) := by decide +kernel
theorem dX5_passOne_12 : decode cX5_passOne 12 = .ok (.iconst 0, 1) := by decide +kernel
theorem dX5_passOne_13 : decode cX5_passOne 13 = .ok (.istore_n 2, 1) := by decide +kernel
theorem dX5_passOne_14 : decode cX5_passOne 14 = .ok (.iload_n 2, 1) := by decide +kernel
theorem dX5_passOne_15 : decode cX5_passOne 15 = .ok (.aload_n 0, 1) := by decide +kernel
theorem dX5_passOne_16 : decode cX5_passOne 16 = .ok (.getfield 79, 3) := by decide +kernel
theorem dX5_passOne_19 : decode cX5_passOne 19 = .ok (.if_icmp .ge 48, 3) := by decide +kernel
theorem dX5_passOne_22 : decode cX5_passOne 22 = .ok (.aload_n 0, 1) := by decide +kernel
theorem dX5_passOne_23 : decode cX5_passOne 23 = .ok (.getfield 61, 3) := by decide +kernel
theorem dX5_passOne_26 : decode cX5_passOne 26 = .ok (.iload_n 2, 1) := by decide +kernel
theorem dX5_passOne_27 : decode cX5_passOne 27 = .ok (.baload, 1) := by decide +kernel
theorem dX5_passOne_28 : decode cX5_passOne 28 = .ok (.ifCond .ne 33, 3) := by decide +kernel
theorem dX5_passOne_31 : decode cX5_passOne 31 = .ok (.aload_n 0, 1) := by decide +kernel
theorem dX5_passOne_32 : decode cX5_passOne 32 = .ok (.getfield 104, 3) := by decide +kernel
theorem dX5_passOne_35 : decode cX5_passOne 35 = .ok (.aload_n 0, 1) := by decide +kernel
theorem dX5_passOne_36 : decode cX5_passOne 36 = .ok (.getfield 52, 3) := by decide +kernel
theorem dX5_passOne_39 : decode cX5_passOne 39 = .ok (.iload_n 2, 1) := by decide +kernel
theorem dX5_passOne_40 : decode cX5_passOne 40 = .ok (.iaload, 1) := by decide +kernel
theorem dX5_passOne_41 : decode cX5_passOne 41 = .ok (.isub, 1) := by decide +kernel
theorem dX5_passOne_42 : decode cX5_passOne 42 = .ok (.bipush 20, 2) := by decide +kernel
theorem dX5_passOne_44 : decode cX5_passOne 44 = .ok (.if_icmp .ne 17, 3) := by decide +kernel
theorem dX5_passOne_47 : decode cX5_passOne 47 = .ok (.aload_n 0, 1) := by decide +kernel
theorem dX5_passOne_48 : decode cX5_passOne 48 = .ok (.iload_n 2, 1) := by decide +kernel
theorem dX5_passOne_49 : decode cX5_passOne 49 = .ok (.aload_n 0, 1) := by decide +kernel
theorem dX5_passOne_50 : decode cX5_passOne 50 = .ok (.getfield 46, 3) := by decide +kernel
theorem dX5_passOne_53 : decode cX5_passOne 53 = .ok (.iload_n 2, 1) := by decide +kernel
theorem dX5_passOne_54 : decode cX5_passOne 54 = .ok (.iaload, 1) := by decide +kernel
theorem dX5_passOne_55 : decode cX5_passOne 55 = .ok (.invokevirtual 110, 3) := by decide +kernel
theorem dX5_passOne_58 : decode cX5_passOne 58 = .ok (.iinc 1 1, 3) := by decide +kernel
theorem dX5_passOne_61 : decode cX5_passOne 61 = .ok (.iinc 2 1, 3) := by decide +kernel
theorem dX5_passOne_64 : decode cX5_passOne 64 = .ok (.goto (-50), 3) := by decide +kernel
theorem dX5_passOne_67 : decode cX5_passOne 67 = .ok (.iconst 0, 1) := by decide +kernel
theorem dX5_passOne_68 : decode cX5_passOne 68 = .ok (.istore_n 2, 1) := by decide +kernel
theorem dX5_passOne_69 : decode cX5_passOne 69 = .ok (.iload_n 2, 1) := by decide +kernel
theorem dX5_passOne_70 : decode cX5_passOne 70 = .ok (.aload_n 0, 1) := by decide +kernel
theorem dX5_passOne_71 : decode cX5_passOne 71 = .ok (.getfield 76, 3) := by decide +kernel
theorem dX5_passOne_74 : decode cX5_passOne 74 = .ok (.if_icmp .ge 100, 3) := by decide +kernel
theorem dX5_passOne_77 : decode cX5_passOne 77 = .ok (.aload_n 0, 1) := by decide +kernel
theorem dX5_passOne_78 : decode cX5_passOne 78 = .ok (.getfield 25, 3) := by decide +kernel
theorem dX5_passOne_81 : decode cX5_passOne 81 = .ok (.iload_n 2, 1) := by decide +kernel
theorem dX5_passOne_82 : decode cX5_passOne 82 = .ok (.iaload, 1) := by decide +kernel
theorem dX5_passOne_83 : decode cX5_passOne 83 = .ok (.istore_n 3, 1) := by decide +kernel
theorem dX5_passOne_84 : decode cX5_passOne 84 = .ok (.aload_n 0, 1) := by decide +kernel
theorem dX5_passOne_85 : decode cX5_passOne 85 = .ok (.getfield 37, 3) := by decide +kernel
theorem dX5_passOne_88 : decode cX5_passOne 88 = .ok (.iload_n 2, 1) := by decide +kernel
theorem dX5_passOne_89 : decode cX5_passOne 89 = .ok (.iaload, 1) := by decide +kernel
theorem dX5_passOne_90 : decode cX5_passOne 90 = .ok (.aload_n 0, 1) := by decide +kernel
theorem dX5_passOne_91 : decode cX5_passOne 91 = .ok (.iload_n 2, 1) := by decide +kernel
theorem dX5_passOne_92 : decode cX5_passOne 92 = .ok (.invokevirtual 113, 3) := by decide +kernel
theorem dX5_passOne_95 : decode cX5_passOne 95 = .ok (.ifCond .eq 12, 3) := by decide +kernel
theorem dX5_passOne_98 : decode cX5_passOne 98 = .ok (.aload_n 0, 1) := by decide +kernel
theorem dX5_passOne_99 : decode cX5_passOne 99 = .ok (.getfield 16, 3) := by decide +kernel
theorem dX5_passOne_102 : decode cX5_passOne 102 = .ok (.iload_n 3, 1) := by decide +kernel
theorem dX5_passOne_103 : decode cX5_passOne 103 = .ok (.iaload, 1) := by decide +kernel
theorem dX5_passOne_104 : decode cX5_passOne 104 = .ok (.goto 9, 3) := by decide +kernel
theorem dX5_passOne_107 : decode cX5_passOne 107 = .ok (.aload_n 0, 1) := by decide +kernel
theorem dX5_passOne_108 : decode cX5_passOne 108 = .ok (.getfield 13, 3) := by decide +kernel
theorem dX5_passOne_111 : decode cX5_passOne 111 = .ok (.iload_n 3, 1) := by decide +kernel
theorem dX5_passOne_112 : decode cX5_passOne 112 = .ok (.iaload, 1) := by decide +kernel
theorem dX5_passOne_113 : decode cX5_passOne 113 = .ok (.iadd, 1) := by decide +kernel
theorem dX5_passOne_114 : decode cX5_passOne 114 = .ok (.istore 4, 2) := by decide +kernel
theorem dX5_passOne_116 : decode cX5_passOne 116 = .ok (.aload_n 0, 1) := by decide +kernel
theorem dX5_passOne_117 : decode cX5_passOne 117 = .ok (.getfield 37, 3) := by decide +kernel
theorem dX5_passOne_120 : decode cX5_passOne 120 = .ok (.iload_n 2, 1) := by decide +kernel
theorem dX5_passOne_121 : decode cX5_passOne 121 = .ok (.iaload, 1) := by decide +kernel
theorem dX5_passOne_122 : decode cX5_passOne 122 = .ok (.aload_n 0, 1) := by decide +kernel
theorem dX5_passOne_123 : decode cX5_passOne 123 = .ok (.getfield 7, 3) := by decide +kernel
theorem dX5_passOne_126 : decode cX5_passOne 126 = .ok (.iload_n 3, 1) := by decide +kernel
theorem dX5_passOne_127 : decode cX5_passOne 127 = .ok (.iaload, 1) := by decide +kernel
theorem dX5_passOne_128 : decode cX5_passOne 128 = .ok (.if_icmp .le 12, 3) := by decide +kernel
theorem dX5_passOne_131 : decode cX5_passOne 131 = .ok (.aload_n 0, 1) := by decide +kernel
theorem dX5_passOne_132 : decode cX5_passOne 132 = .ok (.getfield 37, 3) := by decide +kernel
theorem dX5_passOne_135 : decode cX5_passOne 135 = .ok (.iload_n 2, 1) := by decide +kernel
theorem dX5_passOne_136 : decode cX5_passOne 136 = .ok (.iaload, 1) := by decide +kernel
theorem dX5_passOne_137 : decode cX5_passOne 137 = .ok (.goto 9, 3) := by decide +kernel
theorem dX5_passOne_140 : decode cX5_passOne 140 = .ok (.aload_n 0, 1) := by decide +kernel
theorem dX5_passOne_141 : decode cX5_passOne 141 = .ok (.getfield 7, 3) := by decide +kernel
theorem dX5_passOne_144 : decode cX5_passOne 144 = .ok (.iload_n 3, 1) := by decide +kernel
theorem dX5_passOne_145 : decode cX5_passOne 145 = .ok (.iaload, 1) := by decide +kernel
theorem dX5_passOne_146 : decode cX5_passOne 146 = .ok (.istore 5, 2) := by decide +kernel
theorem dX5_passOne_148 : decode cX5_passOne 148 = .ok (.aload_n 0, 1) := by decide +kernel
theorem dX5_passOne_149 : decode cX5_passOne 149 = .ok (.getfield 37, 3) := by decide +kernel
theorem dX5_passOne_152 : decode cX5_passOne 152 = .ok (.iload_n 2, 1) := by decide +kernel
theorem dX5_passOne_153 : decode cX5_passOne 153 = .ok (.iload 4, 2) := by decide +kernel
theorem dX5_passOne_155 : decode cX5_passOne 155 = .ok (.iload 5, 2) := by decide +kernel
theorem dX5_passOne_157 : decode cX5_passOne 157 = .ok (.if_icmp .ge 8, 3) := by decide +kernel
theorem dX5_passOne_160 : decode cX5_passOne 160 = .ok (.iload 4, 2) := by decide +kernel
theorem dX5_passOne_162 : decode cX5_passOne 162 = .ok (.goto 5, 3) := by decide +kernel
theorem dX5_passOne_165 : decode cX5_passOne 165 = .ok (.iload 5, 2) := by decide +kernel
theorem dX5_passOne_167 : decode cX5_passOne 167 = .ok (.iastore, 1) := by decide +kernel
theorem dX5_passOne_168 : decode cX5_passOne 168 = .ok (.iinc 2 1, 3) := by decide +kernel
theorem dX5_passOne_171 : decode cX5_passOne 171 = .ok (.goto (-102), 3) := by decide +kernel
theorem dX5_passOne_174 : decode cX5_passOne 174 = .ok (.iload_n 1, 1) := by decide +kernel
theorem dX5_passOne_175 : decode cX5_passOne 175 = .ok (.ireturn, 1) := by decide +kernel
set_option maxRecDepth 20000 in
theorem ggX5_pass_X5_in : GoodIn wsX5_pass wsX5_in := goodIn_r _ [4] (by decide +kernel) (by decide +kernel)
set_option maxRecDepth 20000 in
theorem gX5_pass_X5_in : GoodIn wsX5_pass (va_wsS RX5 72 yX5_in wsX5_in) := goodIn_app (goodIn_of _ (by decide +kernel)) ggX5_pass_X5_in
set_option maxRecDepth 20000 in
theorem ggX5_pass_X5_goesWell : GoodIn wsX5_pass wsX5_goesWell := goodIn_r _ [8, 9, 42, 43, 44, 45, 46, 47, 48, 49, 50, 51, 52, 53, 54, 55, 56, 57, 58, 59, 60, 61, 62, 63, 64] (by decide +kernel) (by decide +kernel)
set_option maxRecDepth 20000 in
theorem gX5_pass_X5_goesWell : GoodIn wsX5_pass (wsV RX5 86 RX5 yX5_goesWell wsX5_goesWell) := goodIn_app (goodIn_of _ (by decide +kernel)) ggX5_pass_X5_goesWell
set_option maxRecDepth 20000 in
theorem ggX5_pass_X5_passOne : GoodIn wsX5_pass wsX5_passOne := goodIn_r _ [13, 14, 15, 16, 17, 18, 19, 20, 21, 22, 23, 24, 25, 26, 27, 3, 28, 29, 30, 31, 32, 33, 34, 35, 36, 37, 38, 39, 40, 41, 42, 43, 44, 45, 46, 47, 48, 49, 50, 51, 52, 53, 54, 55, 56, 57, 58, 59, 60, 61, 62, 63, 64] (by decide +kernel) (by decide +kernel)
set_option maxRecDepth 20000 in
theorem gX5_pass_X5_passOne : GoodIn wsX5_pass (wsV RX5 116 RX5 yX5_passOne wsX5_passOne) := goodIn_app (goodIn_of _ (by decide +kernel)) ggX5_pass_X5_passOne
theorem dX5_pass_0 : decode cX5_pass 0 = .ok (.aload_n 0, 1) := by decide +kernel
theorem dX5_pass_1 : decode cX5_pass 1 = .ok (.iload_n 1, 1) := by decide +kernel
theorem dX5_pass_2 : decode cX5_pass 2 = .ok (.iconst 1, 1) := by decide +kernel
theorem dX5_pass_3 : decode cX5_pass 3 = .ok (.bipush 100, 2) := by decide +kernel
theorem dX5_pass_5 : decode cX5_pass 5 = .ok (.invokestatic 72, 3) := by decide +kernel
theorem dX5_pass_8 : decode cX5_pass 8 = .ok (.ifCond .eq 7, 3) := by decide +kernel
theorem dX5_pass_11 : decode cX5_pass 11 = .ok (.iconst 0, 1) := by decide +kernel
theorem dX5_pass_12 : decode cX5_pass 12 = .ok (.goto 4, 3) := by decide +kernel
theorem dX5_pass_15 : decode cX5_pass 15 = .ok (.iconst 1, 1) := by decide +kernel
theorem dX5_pass_16 : decode cX5_pass 16 = .ok (.invokevirtual 86, 3) := by decide +kernel
theorem dX5_pass_19 : decode cX5_pass 19 = .ok (.ifCond .ne 5, 3) := by decide +kernel
theorem dX5_pass_22 : decode cX5_pass 22 = .ok (.iconst 0, 1) := by decide +kernel
theorem dX5_pass_23 : decode cX5_pass 23 = .ok (.ireturn, 1) := by decide +kernel
theorem dX5_pass_24 : decode cX5_pass 24 = .ok (.iconst 0, 1) := by decide +kernel
theorem dX5_pass_25 : decode cX5_pass 25 = .ok (.istore_n 2, 1) := by decide +kernel
theorem dX5_pass_26 : decode cX5_pass 26 = .ok (.iconst 0, 1) := by decide +kernel
theorem dX5_pass_27 : decode cX5_pass 27 = .ok (.istore_n 3, 1) := by decide +kernel
theorem dX5_pass_28 : decode cX5_pass 28 = .ok (.iload_n 3, 1) := by decide +kernel
theorem dX5_pass_29 : decode cX5_pass 29 = .ok (.iload_n 1, 1) := by decide +kernel
theorem dX5_pass_30 : decode cX5_pass 30 = .ok (.if_icmp .ge 16, 3) := by decide +kernel
theorem dX5_pass_33 : decode cX5_pass 33 = .ok (.iload_n 2, 1) := by decide +kernel
theorem dX5_pass_34 : decode cX5_pass 34 = .ok (.aload_n 0, 1) := by decide +kernel
theorem dX5_pass_35 : decode cX5_pass 35 = .ok (.invokevirtual 116, 3) := by decide +kernel
theorem dX5_pass_38 : decode cX5_pass 38 = .ok (.iadd, 1) := by decide +kernel
theorem dX5_pass_39 : decode cX5_pass 39 = .ok (.istore_n 2, 1) := by decide +kernel
theorem dX5_pass_40 : decode cX5_pass 40 = .ok (.iinc 3 1, 3) := by decide +kernel
theorem dX5_pass_43 : decode cX5_pass 43 = .ok (.goto (-15), 3) := by decide +kernel
theorem dX5_pass_46 : decode cX5_pass 46 = .ok (.iload_n 2, 1) := by decide +kernel
theorem dX5_pass_47 : decode cX5_pass 47 = .ok (.ireturn, 1) := by decide +kernel
theorem dX5_now_0 : decode cX5_now 0 = .ok (.aload_n 0, 1) := by decide +kernel
theorem dX5_now_1 : decode cX5_now 1 = .ok (.iconst 0, 1) := by decide +kernel
theorem dX5_now_2 : decode cX5_now 2 = .ok (.putfield 68, 3) := by decide +kernel
theorem dX5_now_5 : decode cX5_now 5 = .ok (.aload_n 0, 1) := by decide +kernel
theorem dX5_now_6 : decode cX5_now 6 = .ok (.getfield 104, 3) := by decide +kernel
theorem dX5_now_9 : decode cX5_now 9 = .ok (.ireturn, 1) := by decide +kernel
theorem dX5_calls_0 : decode cX5_calls 0 = .ok (.aload_n 0, 1) := by decide +kernel
theorem dX5_calls_1 : decode cX5_calls 1 = .ok (.iconst 0, 1) := by decide +kernel
theorem dX5_calls_2 : decode cX5_calls 2 = .ok (.putfield 68, 3) := by decide +kernel
theorem dX5_calls_5 : decode cX5_calls 5 = .ok (.aload_n 0, 1) := by decide +kernel
theorem dX5_calls_6 : decode cX5_calls 6 = .ok (.getfield 79, 3) := by decide +kernel
theorem dX5_calls_9 : decode cX5_calls 9 = .ok (.ireturn, 1) := by decide +kernel
set_option maxRecDepth 20000 in
theorem ggX5_credit_X5_isKey : GoodIn wsX5_credit wsX5_isKey := goodIn_r _ [6, 7, 8, 9, 5, 10, 16, 17, 18, 19, 20, 21, 22, 23, 24, 25, 26, 27, 28, 29, 30, 31, 32, 33, 34, 35, 36, 37, 38] (by decide +kernel) (by decide +kernel)
set_option maxRecDepth 20000 in
theorem gX5_credit_X5_isKey : GoodIn wsX5_credit (wsV RX5 92 RX5 yX5_isKey wsX5_isKey) := goodIn_app (goodIn_of _ (by decide +kernel)) ggX5_credit_X5_isKey
set_option maxRecDepth 20000 in
theorem ggX5_credit_X5_goesWell : GoodIn wsX5_credit wsX5_goesWell := goodIn_r _ [14, 15, 16, 17, 18, 19, 20, 21, 22, 23, 24, 25, 26, 27, 28, 29, 30, 31, 32, 33, 34, 35, 36, 37, 38] (by decide +kernel) (by decide +kernel)
set_option maxRecDepth 20000 in
theorem gX5_credit_X5_goesWell : GoodIn wsX5_credit (wsV RX5 86 RX5 yX5_goesWell wsX5_goesWell) := goodIn_app (goodIn_of _ (by decide +kernel)) ggX5_credit_X5_goesWell
theorem dX5_credit_0 : decode cX5_credit 0 = .ok (.aload_n 0, 1) := by decide +kernel
theorem dX5_credit_1 : decode cX5_credit 1 = .ok (.aload_n 0, 1) := by decide +kernel
theorem dX5_credit_2 : decode cX5_credit 2 = .ok (.iload_n 1, 1) := by decide +kernel
theorem dX5_credit_3 : decode cX5_credit 3 = .ok (.invokevirtual 92, 3) := by decide +kernel
theorem dX5_credit_6 : decode cX5_credit 6 = .ok (.ifCond .eq 7, 3) := by decide +kernel
theorem dX5_credit_9 : decode cX5_credit 9 = .ok (.iconst 0, 1) := by decide +kernel
theorem dX5_credit_10 : decode cX5_credit 10 = .ok (.goto 4, 3) := by decide +kernel
theorem dX5_credit_13 : decode cX5_credit 13 = .ok (.iconst 1, 1) := by decide +kernel
theorem dX5_credit_14 : decode cX5_credit 14 = .ok (.invokevirtual 86, 3) := by decide +kernel
theorem dX5_credit_17 : decode cX5_credit 17 = .ok (.ifCond .eq 12, 3) := by decide +kernel
theorem dX5_credit_20 : decode cX5_credit 20 = .ok (.aload_n 0, 1) := by decide +kernel
theorem dX5_credit_21 : decode cX5_credit 21 = .ok (.getfield 28, 3) := by decide +kernel
theorem dX5_credit_24 : decode cX5_credit 24 = .ok (.iload_n 1, 1) := by decide +kernel
theorem dX5_credit_25 : decode cX5_credit 25 = .ok (.iaload, 1) := by decide +kernel
theorem dX5_credit_26 : decode cX5_credit 26 = .ok (.goto 4, 3) := by decide +kernel
theorem dX5_credit_29 : decode cX5_credit 29 = .ok (.iconst 0, 1) := by decide +kernel
theorem dX5_credit_30 : decode cX5_credit 30 = .ok (.ireturn, 1) := by decide +kernel
set_option maxRecDepth 20000 in
theorem ggX5_debt_X5_isKey : GoodIn wsX5_debt wsX5_isKey := goodIn_r _ [6, 7, 8, 9, 5, 10, 16, 17, 18, 19, 20, 21, 22, 23, 24, 25, 26, 27, 28, 29, 30, 31, 32, 33, 34, 35, 36, 37, 38] (by decide +kernel) (by decide +kernel)
set_option maxRecDepth 20000 in
theorem gX5_debt_X5_isKey : GoodIn wsX5_debt (wsV RX5 92 RX5 yX5_isKey wsX5_isKey) := goodIn_app (goodIn_of _ (by decide +kernel)) ggX5_debt_X5_isKey
set_option maxRecDepth 20000 in
theorem ggX5_debt_X5_goesWell : GoodIn wsX5_debt wsX5_goesWell := goodIn_r _ [14, 15, 16, 17, 18, 19, 20, 21, 22, 23, 24, 25, 26, 27, 28, 29, 30, 31, 32, 33, 34, 35, 36, 37, 38] (by decide +kernel) (by decide +kernel)
set_option maxRecDepth 20000 in
theorem gX5_debt_X5_goesWell : GoodIn wsX5_debt (wsV RX5 86 RX5 yX5_goesWell wsX5_goesWell) := goodIn_app (goodIn_of _ (by decide +kernel)) ggX5_debt_X5_goesWell
theorem dX5_debt_0 : decode cX5_debt 0 = .ok (.aload_n 0, 1) := by decide +kernel
theorem dX5_debt_1 : decode cX5_debt 1 = .ok (.aload_n 0, 1) := by decide +kernel
theorem dX5_debt_2 : decode cX5_debt 2 = .ok (.iload_n 1, 1) := by decide +kernel
theorem dX5_debt_3 : decode cX5_debt 3 = .ok (.invokevirtual 92, 3) := by decide +kernel
theorem dX5_debt_6 : decode cX5_debt 6 = .ok (.ifCond .eq 7, 3) := by decide +kernel
theorem dX5_debt_9 : decode cX5_debt 9 = .ok (.iconst 0, 1) := by decide +kernel
theorem dX5_debt_10 : decode cX5_debt 10 = .ok (.goto 4, 3) := by decide +kernel
theorem dX5_debt_13 : decode cX5_debt 13 = .ok (.iconst 1, 1) := by decide +kernel
theorem dX5_debt_14 : decode cX5_debt 14 = .ok (.invokevirtual 86, 3) := by decide +kernel
theorem dX5_debt_17 : decode cX5_debt 17 = .ok (.ifCond .eq 12, 3) := by decide +kernel
theorem dX5_debt_20 : decode cX5_debt 20 = .ok (.aload_n 0, 1) := by decide +kernel
theorem dX5_debt_21 : decode cX5_debt 21 = .ok (.getfield 34, 3) := by decide +kernel
theorem dX5_debt_24 : decode cX5_debt 24 = .ok (.iload_n 1, 1) := by decide +kernel
theorem dX5_debt_25 : decode cX5_debt 25 = .ok (.iaload, 1) := by decide +kernel
theorem dX5_debt_26 : decode cX5_debt 26 = .ok (.goto 4, 3) := by decide +kernel
theorem dX5_debt_29 : decode cX5_debt 29 = .ok (.iconst 0, 1) := by decide +kernel
theorem dX5_debt_30 : decode cX5_debt 30 = .ok (.ireturn, 1) := by decide +kernel
set_option maxRecDepth 20000 in
theorem ggX5_held_X5_isKey : GoodIn wsX5_held wsX5_isKey := goodIn_r _ [9, 10, 11, 12, 8, 13, 19, 20, 21, 22, 23, 24, 25, 26, 27, 28, 29, 30, 31, 32, 33, 34, 35, 36, 37, 38, 39, 40, 41] (by decide +kernel) (by decide +kernel)
set_option maxRecDepth 20000 in
theorem gX5_held_X5_isKey : GoodIn wsX5_held (wsV RX5 92 RX5 yX5_isKey wsX5_isKey) := goodIn_app (goodIn_of _ (by decide +kernel)) ggX5_held_X5_isKey
set_option maxRecDepth 20000 in
theorem ggX5_held_X5_goesWell : GoodIn wsX5_held wsX5_goesWell := goodIn_r _ [17, 18, 19, 20, 21, 22, 23, 24, 25, 26, 27, 28, 29, 30, 31, 32, 33, 34, 35, 36, 37, 38, 39, 40, 41] (by decide +kernel) (by decide +kernel)
set_option maxRecDepth 20000 in
theorem gX5_held_X5_goesWell : GoodIn wsX5_held (wsV RX5 86 RX5 yX5_goesWell wsX5_goesWell) := goodIn_app (goodIn_of _ (by decide +kernel)) ggX5_held_X5_goesWell
theorem dX5_held_0 : decode cX5_held 0 = .ok (.aload_n 0, 1) := by decide +kernel
theorem dX5_held_1 : decode cX5_held 1 = .ok (.aload_n 0, 1) := by decide +kernel
theorem dX5_held_2 : decode cX5_held 2 = .ok (.iload_n 1, 1) := by decide +kernel
theorem dX5_held_3 : decode cX5_held 3 = .ok (.invokevirtual 92, 3) := by decide +kernel
theorem dX5_held_6 : decode cX5_held 6 = .ok (.ifCond .eq 7, 3) := by decide +kernel
theorem dX5_held_9 : decode cX5_held 9 = .ok (.iconst 0, 1) := by decide +kernel
theorem dX5_held_10 : decode cX5_held 10 = .ok (.goto 4, 3) := by decide +kernel
theorem dX5_held_13 : decode cX5_held 13 = .ok (.iconst 1, 1) := by decide +kernel
theorem dX5_held_14 : decode cX5_held 14 = .ok (.invokevirtual 86, 3) := by decide +kernel
theorem dX5_held_17 : decode cX5_held 17 = .ok (.ifCond .ne 5, 3) := by decide +kernel
theorem dX5_held_20 : decode cX5_held 20 = .ok (.iconst 0, 1) := by decide +kernel
theorem dX5_held_21 : decode cX5_held 21 = .ok (.ireturn, 1) := by decide +kernel
theorem dX5_held_22 : decode cX5_held 22 = .ok (.iconst 0, 1) := by decide +kernel
theorem dX5_held_23 : decode cX5_held 23 = .ok (.istore_n 2, 1) := by decide +kernel
theorem dX5_held_24 : decode cX5_held 24 = .ok (.iconst 0, 1) := by decide +kernel
theorem dX5_held_25 : decode cX5_held 25 = .ok (.istore_n 3, 1) := by decide +kernel
theorem dX5_held_26 : decode cX5_held 26 = .ok (.iload_n 3, 1) := by decide +kernel
theorem dX5_held_27 : decode cX5_held 27 = .ok (.aload_n 0, 1) := by decide +kernel
theorem dX5_held_28 : decode cX5_held 28 = .ok (.getfield 79, 3) := by decide +kernel
theorem dX5_held_31 : decode cX5_held 31 = .ok (.if_icmp .ge 41, 3) := by decide +kernel
theorem dX5_held_34 : decode cX5_held 34 = .ok (.iload_n 2, 1) := by decide +kernel
theorem dX5_held_35 : decode cX5_held 35 = .ok (.aload_n 0, 1) := by decide +kernel
theorem dX5_held_36 : decode cX5_held 36 = .ok (.getfield 43, 3) := by decide +kernel
theorem dX5_held_39 : decode cX5_held 39 = .ok (.iload_n 3, 1) := by decide +kernel
theorem dX5_held_40 : decode cX5_held 40 = .ok (.iaload, 1) := by decide +kernel
theorem dX5_held_41 : decode cX5_held 41 = .ok (.iload_n 1, 1) := by decide +kernel
theorem dX5_held_42 : decode cX5_held 42 = .ok (.if_icmp .ne 21, 3) := by decide +kernel
theorem dX5_held_45 : decode cX5_held 45 = .ok (.aload_n 0, 1) := by decide +kernel
theorem dX5_held_46 : decode cX5_held 46 = .ok (.getfield 61, 3) := by decide +kernel
theorem dX5_held_49 : decode cX5_held 49 = .ok (.iload_n 3, 1) := by decide +kernel
theorem dX5_held_50 : decode cX5_held 50 = .ok (.baload, 1) := by decide +kernel
theorem dX5_held_51 : decode cX5_held 51 = .ok (.ifCond .ne 12, 3) := by decide +kernel
theorem dX5_held_54 : decode cX5_held 54 = .ok (.aload_n 0, 1) := by decide +kernel
theorem dX5_held_55 : decode cX5_held 55 = .ok (.getfield 46, 3) := by decide +kernel
theorem dX5_held_58 : decode cX5_held 58 = .ok (.iload_n 3, 1) := by decide +kernel
theorem dX5_held_59 : decode cX5_held 59 = .ok (.iaload, 1) := by decide +kernel
theorem dX5_held_60 : decode cX5_held 60 = .ok (.goto 4, 3) := by decide +kernel
theorem dX5_held_63 : decode cX5_held 63 = .ok (.iconst 0, 1) := by decide +kernel
theorem dX5_held_64 : decode cX5_held 64 = .ok (.iadd, 1) := by decide +kernel
theorem dX5_held_65 : decode cX5_held 65 = .ok (.istore_n 2, 1) := by decide +kernel
theorem dX5_held_66 : decode cX5_held 66 = .ok (.iinc 3 1, 3) := by decide +kernel
theorem dX5_held_69 : decode cX5_held 69 = .ok (.goto (-43), 3) := by decide +kernel
theorem dX5_held_72 : decode cX5_held 72 = .ok (.iload_n 2, 1) := by decide +kernel
theorem dX5_held_73 : decode cX5_held 73 = .ok (.ireturn, 1) := by decide +kernel
set_option maxRecDepth 20000 in
theorem ggX5_tokens_X5_isKey : GoodIn wsX5_tokens wsX5_isKey := goodIn_r _ [6, 7, 8, 9, 5, 10, 16, 17, 18, 19, 20, 21, 22, 23, 24, 25, 26, 27, 28, 29, 30, 31, 32, 33, 34, 35, 36, 37, 38] (by decide +kernel) (by decide +kernel)
set_option maxRecDepth 20000 in
theorem gX5_tokens_X5_isKey : GoodIn wsX5_tokens (wsV RX5 92 RX5 yX5_isKey wsX5_isKey) := goodIn_app (goodIn_of _ (by decide +kernel)) ggX5_tokens_X5_isKey
set_option maxRecDepth 20000 in
theorem ggX5_tokens_X5_goesWell : GoodIn wsX5_tokens wsX5_goesWell := goodIn_r _ [14, 15, 16, 17, 18, 19, 20, 21, 22, 23, 24, 25, 26, 27, 28, 29, 30, 31, 32, 33, 34, 35, 36, 37, 38] (by decide +kernel) (by decide +kernel)
set_option maxRecDepth 20000 in
theorem gX5_tokens_X5_goesWell : GoodIn wsX5_tokens (wsV RX5 86 RX5 yX5_goesWell wsX5_goesWell) := goodIn_app (goodIn_of _ (by decide +kernel)) ggX5_tokens_X5_goesWell
theorem dX5_tokens_0 : decode cX5_tokens 0 = .ok (.aload_n 0, 1) := by decide +kernel
theorem dX5_tokens_1 : decode cX5_tokens 1 = .ok (.aload_n 0, 1) := by decide +kernel
theorem dX5_tokens_2 : decode cX5_tokens 2 = .ok (.iload_n 1, 1) := by decide +kernel
theorem dX5_tokens_3 : decode cX5_tokens 3 = .ok (.invokevirtual 92, 3) := by decide +kernel
theorem dX5_tokens_6 : decode cX5_tokens 6 = .ok (.ifCond .eq 7, 3) := by decide +kernel
theorem dX5_tokens_9 : decode cX5_tokens 9 = .ok (.iconst 0, 1) := by decide +kernel
theorem dX5_tokens_10 : decode cX5_tokens 10 = .ok (.goto 4, 3) := by decide +kernel
theorem dX5_tokens_13 : decode cX5_tokens 13 = .ok (.iconst 1, 1) := by decide +kernel
theorem dX5_tokens_14 : decode cX5_tokens 14 = .ok (.invokevirtual 86, 3) := by decide +kernel
theorem dX5_tokens_17 : decode cX5_tokens 17 = .ok (.ifCond .eq 12, 3) := by decide +kernel
theorem dX5_tokens_20 : decode cX5_tokens 20 = .ok (.aload_n 0, 1) := by decide +kernel
theorem dX5_tokens_21 : decode cX5_tokens 21 = .ok (.getfield 37, 3) := by decide +kernel
theorem dX5_tokens_24 : decode cX5_tokens 24 = .ok (.iload_n 1, 1) := by decide +kernel
theorem dX5_tokens_25 : decode cX5_tokens 25 = .ok (.iaload, 1) := by decide +kernel
theorem dX5_tokens_26 : decode cX5_tokens 26 = .ok (.goto 4, 3) := by decide +kernel
theorem dX5_tokens_29 : decode cX5_tokens 29 = .ok (.iconst 0, 1) := by decide +kernel
theorem dX5_tokens_30 : decode cX5_tokens 30 = .ok (.ireturn, 1) := by decide +kernel
set_option maxRecDepth 20000 in
theorem ggX5_isSlowed_X5_isKey : GoodIn wsX5_isSlowed wsX5_isKey := goodIn_r _ [5, 6, 7, 8, 4, 9, 23, 24, 25, 26, 27, 28, 29, 30, 31, 32, 33, 34, 35, 36, 37, 38, 39, 40, 41, 42, 43, 44, 45] (by decide +kernel) (by decide +kernel)
set_option maxRecDepth 20000 in
theorem gX5_isSlowed_X5_isKey : GoodIn wsX5_isSlowed (wsV RX5 92 RX5 yX5_isKey wsX5_isKey) := goodIn_app (goodIn_of _ (by decide +kernel)) ggX5_isSlowed_X5_isKey
set_option maxRecDepth 20000 in
theorem ggX5_isSlowed_X5_goesWell : GoodIn wsX5_isSlowed wsX5_goesWell := goodIn_r _ [13, 14, 23, 24, 25, 26, 27, 28, 29, 30, 31, 32, 33, 34, 35, 36, 37, 38, 39, 40, 41, 42, 43, 44, 45] (by decide +kernel) (by decide +kernel)
set_option maxRecDepth 20000 in
theorem gX5_isSlowed_X5_goesWell : GoodIn wsX5_isSlowed (wsV RX5 86 RX5 yX5_goesWell wsX5_goesWell) := goodIn_app (goodIn_of _ (by decide +kernel)) ggX5_isSlowed_X5_goesWell
set_option maxRecDepth 20000 in
theorem ggX5_isSlowed_X5_isSlow : GoodIn wsX5_isSlowed wsX5_isSlow := goodIn_r _ [18, 19, 20, 21, 22, 23, 24, 25, 26, 27, 28, 29, 30, 31, 32, 33, 34, 35, 36, 37, 38, 39, 40, 41, 42, 43, 44, 45] (by decide +kernel) (by decide +kernel)
set_option maxRecDepth 20000 in
theorem gX5_isSlowed_X5_isSlow : GoodIn wsX5_isSlowed (wsV RX5 113 RX5 yX5_isSlow wsX5_isSlow) := goodIn_app (goodIn_of _ (by decide +kernel)) ggX5_isSlowed_X5_isSlow
theorem dX5_isSlowed_0 : decode cX5_isSlowed 0 = .ok (.aload_n 0, 1) := by decide +kernel
theorem dX5_isSlowed_1 : decode cX5_isSlowed 1 = .ok (.aload_n 0, 1) := by decide +kernel
theorem dX5_isSlowed_2 : decode cX5_isSlowed 2 = .ok (.iload_n 1, 1) := by decide +kernel
theorem dX5_isSlowed_3 : decode cX5_isSlowed 3 = .ok (.invokevirtual 92, 3) := by decide +kernel
theorem dX5_isSlowed_6 : decode cX5_isSlowed 6 = .ok (.ifCond .eq 7, 3) := by decide +kernel
theorem dX5_isSlowed_9 : decode cX5_isSlowed 9 = .ok (.iconst 0, 1) := by decide +kernel
theorem dX5_isSlowed_10 : decode cX5_isSlowed 10 = .ok (.goto 4, 3) := by decide +kernel
theorem dX5_isSlowed_13 : decode cX5_isSlowed 13 = .ok (.iconst 1, 1) := by decide +kernel
theorem dX5_isSlowed_14 : decode cX5_isSlowed 14 = .ok (.invokevirtual 86, 3) := by decide +kernel
theorem dX5_isSlowed_17 : decode cX5_isSlowed 17 = .ok (.ifCond .eq 15, 3) := by decide +kernel
theorem dX5_isSlowed_20 : decode cX5_isSlowed 20 = .ok (.aload_n 0, 1) := by decide +kernel
theorem dX5_isSlowed_21 : decode cX5_isSlowed 21 = .ok (.iload_n 1, 1) := by decide +kernel
theorem dX5_isSlowed_22 : decode cX5_isSlowed 22 = .ok (.invokevirtual 113, 3) := by decide +kernel
theorem dX5_isSlowed_25 : decode cX5_isSlowed 25 = .ok (.ifCond .eq 7, 3) := by decide +kernel
theorem dX5_isSlowed_28 : decode cX5_isSlowed 28 = .ok (.iconst 1, 1) := by decide +kernel
theorem dX5_isSlowed_29 : decode cX5_isSlowed 29 = .ok (.goto 4, 3) := by decide +kernel
theorem dX5_isSlowed_32 : decode cX5_isSlowed 32 = .ok (.iconst 0, 1) := by decide +kernel
theorem dX5_isSlowed_33 : decode cX5_isSlowed 33 = .ok (.ireturn, 1) := by decide +kernel
set_option maxRecDepth 20000 in
theorem ggX5_cost_X5_isCall : GoodIn wsX5_cost wsX5_isCall := goodIn_r _ [7, 8, 9, 10, 6, 11, 17, 18, 19, 20, 21, 22, 23, 24, 25, 26, 27, 28, 29, 30, 31, 32, 33, 34, 35, 36, 37, 38, 39] (by decide +kernel) (by decide +kernel)
set_option maxRecDepth 20000 in
theorem gX5_cost_X5_isCall : GoodIn wsX5_cost (wsV RX5 107 RX5 yX5_isCall wsX5_isCall) := goodIn_app (goodIn_of _ (by decide +kernel)) ggX5_cost_X5_isCall
set_option maxRecDepth 20000 in
theorem ggX5_cost_X5_goesWell : GoodIn wsX5_cost wsX5_goesWell := goodIn_r _ [15, 16, 17, 18, 19, 20, 21, 22, 23, 24, 25, 26, 27, 28, 29, 30, 31, 32, 33, 34, 35, 36, 37, 38, 39] (by decide +kernel) (by decide +kernel)
set_option maxRecDepth 20000 in
theorem gX5_cost_X5_goesWell : GoodIn wsX5_cost (wsV RX5 86 RX5 yX5_goesWell wsX5_goesWell) := goodIn_app (goodIn_of _ (by decide +kernel)) ggX5_cost_X5_goesWell
theorem dX5_cost_0 : decode cX5_cost 0 = .ok (.aload_n 0, 1) := by decide +kernel
theorem dX5_cost_1 : decode cX5_cost 1 = .ok (.aload_n 0, 1) := by decide +kernel
theorem dX5_cost_2 : decode cX5_cost 2 = .ok (.iload_n 1, 1) := by decide +kernel
theorem dX5_cost_3 : decode cX5_cost 3 = .ok (.invokevirtual 107, 3) := by decide +kernel
theorem dX5_cost_6 : decode cX5_cost 6 = .ok (.ifCond .eq 7, 3) := by decide +kernel
theorem dX5_cost_9 : decode cX5_cost 9 = .ok (.iconst 0, 1) := by decide +kernel
theorem dX5_cost_10 : decode cX5_cost 10 = .ok (.goto 4, 3) := by decide +kernel
theorem dX5_cost_13 : decode cX5_cost 13 = .ok (.iconst 1, 1) := by decide +kernel
theorem dX5_cost_14 : decode cX5_cost 14 = .ok (.invokevirtual 86, 3) := by decide +kernel
theorem dX5_cost_17 : decode cX5_cost 17 = .ok (.ifCond .ne 5, 3) := by decide +kernel
theorem dX5_cost_20 : decode cX5_cost 20 = .ok (.iconst 0, 1) := by decide +kernel
theorem dX5_cost_21 : decode cX5_cost 21 = .ok (.ireturn, 1) := by decide +kernel
theorem dX5_cost_22 : decode cX5_cost 22 = .ok (.aload_n 0, 1) := by decide +kernel
theorem dX5_cost_23 : decode cX5_cost 23 = .ok (.getfield 61, 3) := by decide +kernel
theorem dX5_cost_26 : decode cX5_cost 26 = .ok (.iload_n 1, 1) := by decide +kernel
theorem dX5_cost_27 : decode cX5_cost 27 = .ok (.baload, 1) := by decide +kernel
theorem dX5_cost_28 : decode cX5_cost 28 = .ok (.ifCond .eq 12, 3) := by decide +kernel
theorem dX5_cost_31 : decode cX5_cost 31 = .ok (.aload_n 0, 1) := by decide +kernel
theorem dX5_cost_32 : decode cX5_cost 32 = .ok (.getfield 55, 3) := by decide +kernel
theorem dX5_cost_35 : decode cX5_cost 35 = .ok (.iload_n 1, 1) := by decide +kernel
theorem dX5_cost_36 : decode cX5_cost 36 = .ok (.iaload, 1) := by decide +kernel
theorem dX5_cost_37 : decode cX5_cost 37 = .ok (.goto 4, 3) := by decide +kernel
theorem dX5_cost_40 : decode cX5_cost 40 = .ok (.iconst (-1), 1) := by decide +kernel
theorem dX5_cost_41 : decode cX5_cost 41 = .ok (.ireturn, 1) := by decide +kernel
set_option maxRecDepth 20000 in
theorem ggX5_spent_X5_isKey : GoodIn wsX5_spent wsX5_isKey := goodIn_r _ [8, 9, 10, 11, 7, 12, 18, 19, 20, 21, 22, 23, 24, 25, 26, 27, 28, 29, 30, 31, 32, 33, 34, 35, 36, 37, 38, 39, 40] (by decide +kernel) (by decide +kernel)
set_option maxRecDepth 20000 in
theorem gX5_spent_X5_isKey : GoodIn wsX5_spent (wsV RX5 92 RX5 yX5_isKey wsX5_isKey) := goodIn_app (goodIn_of _ (by decide +kernel)) ggX5_spent_X5_isKey
set_option maxRecDepth 20000 in
theorem ggX5_spent_X5_goesWell : GoodIn wsX5_spent wsX5_goesWell := goodIn_r _ [16, 17, 18, 19, 20, 21, 22, 23, 24, 25, 26, 27, 28, 29, 30, 31, 32, 33, 34, 35, 36, 37, 38, 39, 40] (by decide +kernel) (by decide +kernel)
set_option maxRecDepth 20000 in
theorem gX5_spent_X5_goesWell : GoodIn wsX5_spent (wsV RX5 86 RX5 yX5_goesWell wsX5_goesWell) := goodIn_app (goodIn_of _ (by decide +kernel)) ggX5_spent_X5_goesWell
theorem dX5_spent_0 : decode cX5_spent 0 = .ok (.aload_n 0, 1) := by decide +kernel
theorem dX5_spent_1 : decode cX5_spent 1 = .ok (.aload_n 0, 1) := by decide +kernel
theorem dX5_spent_2 : decode cX5_spent 2 = .ok (.iload_n 1, 1) := by decide +kernel
theorem dX5_spent_3 : decode cX5_spent 3 = .ok (.invokevirtual 92, 3) := by decide +kernel
theorem dX5_spent_6 : decode cX5_spent 6 = .ok (.ifCond .eq 7, 3) := by decide +kernel
theorem dX5_spent_9 : decode cX5_spent 9 = .ok (.iconst 0, 1) := by decide +kernel
theorem dX5_spent_10 : decode cX5_spent 10 = .ok (.goto 4, 3) := by decide +kernel
theorem dX5_spent_13 : decode cX5_spent 13 = .ok (.iconst 1, 1) := by decide +kernel
theorem dX5_spent_14 : decode cX5_spent 14 = .ok (.invokevirtual 86, 3) := by decide +kernel
theorem dX5_spent_17 : decode cX5_spent 17 = .ok (.ifCond .ne 5, 3) := by decide +kernel
theorem dX5_spent_20 : decode cX5_spent 20 = .ok (.iconst 0, 1) := by decide +kernel
theorem dX5_spent_21 : decode cX5_spent 21 = .ok (.ireturn, 1) := by decide +kernel
theorem dX5_spent_22 : decode cX5_spent 22 = .ok (.iconst 0, 1) := by decide +kernel
theorem dX5_spent_23 : decode cX5_spent 23 = .ok (.istore_n 2, 1) := by decide +kernel
theorem dX5_spent_24 : decode cX5_spent 24 = .ok (.iconst 0, 1) := by decide +kernel
theorem dX5_spent_25 : decode cX5_spent 25 = .ok (.istore_n 3, 1) := by decide +kernel
theorem dX5_spent_26 : decode cX5_spent 26 = .ok (.iload_n 3, 1) := by decide +kernel
theorem dX5_spent_27 : decode cX5_spent 27 = .ok (.aload_n 0, 1) := by decide +kernel
theorem dX5_spent_28 : decode cX5_spent 28 = .ok (.getfield 79, 3) := by decide +kernel
theorem dX5_spent_31 : decode cX5_spent 31 = .ok (.if_icmp .ge 32, 3) := by decide +kernel
theorem dX5_spent_34 : decode cX5_spent 34 = .ok (.iload_n 2, 1) := by decide +kernel
theorem dX5_spent_35 : decode cX5_spent 35 = .ok (.aload_n 0, 1) := by decide +kernel
theorem dX5_spent_36 : decode cX5_spent 36 = .ok (.getfield 43, 3) := by decide +kernel
theorem dX5_spent_39 : decode cX5_spent 39 = .ok (.iload_n 3, 1) := by decide +kernel
theorem dX5_spent_40 : decode cX5_spent 40 = .ok (.iaload, 1) := by decide +kernel
theorem dX5_spent_41 : decode cX5_spent 41 = .ok (.iload_n 1, 1) := by decide +kernel
theorem dX5_spent_42 : decode cX5_spent 42 = .ok (.if_icmp .ne 12, 3) := by decide +kernel
theorem dX5_spent_45 : decode cX5_spent 45 = .ok (.aload_n 0, 1) := by decide +kernel
theorem dX5_spent_46 : decode cX5_spent 46 = .ok (.getfield 55, 3) := by decide +kernel
theorem dX5_spent_49 : decode cX5_spent 49 = .ok (.iload_n 3, 1) := by decide +kernel
theorem dX5_spent_50 : decode cX5_spent 50 = .ok (.iaload, 1) := by decide +kernel
theorem dX5_spent_51 : decode cX5_spent 51 = .ok (.goto 4, 3) := by decide +kernel
theorem dX5_spent_54 : decode cX5_spent 54 = .ok (.iconst 0, 1) := by decide +kernel
theorem dX5_spent_55 : decode cX5_spent 55 = .ok (.iadd, 1) := by decide +kernel
theorem dX5_spent_56 : decode cX5_spent 56 = .ok (.istore_n 2, 1) := by decide +kernel
theorem dX5_spent_57 : decode cX5_spent 57 = .ok (.iinc 3 1, 3) := by decide +kernel
theorem dX5_spent_60 : decode cX5_spent 60 = .ok (.goto (-34), 3) := by decide +kernel
theorem dX5_spent_63 : decode cX5_spent 63 = .ok (.iload_n 2, 1) := by decide +kernel
theorem dX5_spent_64 : decode cX5_spent 64 = .ok (.ireturn, 1) := by decide +kernel
set_option maxRecDepth 20000 in
theorem ggX5_paid_X5_isKey : GoodIn wsX5_paid wsX5_isKey := goodIn_r _ [6, 7, 8, 9, 5, 10, 16, 17, 18, 19, 20, 21, 22, 23, 24, 25, 26, 27, 28, 29, 30, 31, 32, 33, 34, 35, 36, 37, 38] (by decide +kernel) (by decide +kernel)
set_option maxRecDepth 20000 in
theorem gX5_paid_X5_isKey : GoodIn wsX5_paid (wsV RX5 92 RX5 yX5_isKey wsX5_isKey) := goodIn_app (goodIn_of _ (by decide +kernel)) ggX5_paid_X5_isKey
set_option maxRecDepth 20000 in
theorem ggX5_paid_X5_goesWell : GoodIn wsX5_paid wsX5_goesWell := goodIn_r _ [14, 15, 16, 17, 18, 19, 20, 21, 22, 23, 24, 25, 26, 27, 28, 29, 30, 31, 32, 33, 34, 35, 36, 37, 38] (by decide +kernel) (by decide +kernel)
set_option maxRecDepth 20000 in
theorem gX5_paid_X5_goesWell : GoodIn wsX5_paid (wsV RX5 86 RX5 yX5_goesWell wsX5_goesWell) := goodIn_app (goodIn_of _ (by decide +kernel)) ggX5_paid_X5_goesWell
theorem dX5_paid_0 : decode cX5_paid 0 = .ok (.aload_n 0, 1) := by decide +kernel
theorem dX5_paid_1 : decode cX5_paid 1 = .ok (.aload_n 0, 1) := by decide +kernel
theorem dX5_paid_2 : decode cX5_paid 2 = .ok (.iload_n 1, 1) := by decide +kernel
theorem dX5_paid_3 : decode cX5_paid 3 = .ok (.invokevirtual 92, 3) := by decide +kernel
theorem dX5_paid_6 : decode cX5_paid 6 = .ok (.ifCond .eq 7, 3) := by decide +kernel
theorem dX5_paid_9 : decode cX5_paid 9 = .ok (.iconst 0, 1) := by decide +kernel
theorem dX5_paid_10 : decode cX5_paid 10 = .ok (.goto 4, 3) := by decide +kernel
theorem dX5_paid_13 : decode cX5_paid 13 = .ok (.iconst 1, 1) := by decide +kernel
theorem dX5_paid_14 : decode cX5_paid 14 = .ok (.invokevirtual 86, 3) := by decide +kernel
theorem dX5_paid_17 : decode cX5_paid 17 = .ok (.ifCond .eq 12, 3) := by decide +kernel
theorem dX5_paid_20 : decode cX5_paid 20 = .ok (.aload_n 0, 1) := by decide +kernel
theorem dX5_paid_21 : decode cX5_paid 21 = .ok (.getfield 40, 3) := by decide +kernel
theorem dX5_paid_24 : decode cX5_paid 24 = .ok (.iload_n 1, 1) := by decide +kernel
theorem dX5_paid_25 : decode cX5_paid 25 = .ok (.iaload, 1) := by decide +kernel
theorem dX5_paid_26 : decode cX5_paid 26 = .ok (.goto 4, 3) := by decide +kernel
theorem dX5_paid_29 : decode cX5_paid 29 = .ok (.iconst 0, 1) := by decide +kernel
theorem dX5_paid_30 : decode cX5_paid 30 = .ok (.ireturn, 1) := by decide +kernel
theorem dJ9_max_7cf53_0 : decode cJ9_max_7cf53 0 = .ok (.iload_n 0, 1) := by decide +kernel
theorem dJ9_max_7cf53_1 : decode cJ9_max_7cf53 1 = .ok (.iload_n 1, 1) := by decide +kernel
theorem dJ9_max_7cf53_2 : decode cJ9_max_7cf53 2 = .ok (.if_icmp .lt 7, 3) := by decide +kernel
theorem dJ9_max_7cf53_5 : decode cJ9_max_7cf53 5 = .ok (.iload_n 0, 1) := by decide +kernel
theorem dJ9_max_7cf53_6 : decode cJ9_max_7cf53 6 = .ok (.goto 4, 3) := by decide +kernel
theorem dJ9_max_7cf53_9 : decode cJ9_max_7cf53 9 = .ok (.iload_n 1, 1) := by decide +kernel
theorem dJ9_max_7cf53_10 : decode cJ9_max_7cf53 10 = .ok (.ireturn, 1) := by decide +kernel
theorem dJ9_min_7cf53_0 : decode cJ9_min_7cf53 0 = .ok (.iload_n 0, 1) := by decide +kernel
theorem dJ9_min_7cf53_1 : decode cJ9_min_7cf53 1 = .ok (.iload_n 1, 1) := by decide +kernel
theorem dJ9_min_7cf53_2 : decode cJ9_min_7cf53 2 = .ok (.if_icmp .gt 7, 3) := by decide +kernel
theorem dJ9_min_7cf53_5 : decode cJ9_min_7cf53 5 = .ok (.iload_n 0, 1) := by decide +kernel
theorem dJ9_min_7cf53_6 : decode cJ9_min_7cf53 6 = .ok (.goto 4, 3) := by decide +kernel
theorem dJ9_min_7cf53_9 : decode cJ9_min_7cf53 9 = .ok (.iload_n 1, 1) := by decide +kernel
theorem dJ9_min_7cf53_10 : decode cJ9_min_7cf53 10 = .ok (.ireturn, 1) := by decide +kernel
theorem dJxa1e45_init_da8c8_0 : decode cJxa1e45_init_da8c8 0 = .ok (.aload_n 0, 1) := by decide +kernel
theorem dJxa1e45_init_da8c8_1 : decode cJxa1e45_init_da8c8 1 = .ok (.invokespecial 1, 3) := by decide +kernel
theorem dJxa1e45_init_da8c8_4 : decode cJxa1e45_init_da8c8 4 = .ok (.return_, 1) := by decide +kernel
set_option maxRecDepth 20000 in
theorem ggJxc12de_init_da8c8_Jxa1e45_init_da8c8 : GoodIn wsJxc12de_init_da8c8 wsJxa1e45_init_da8c8 := goodIn_r _ [5, 6, 7, 8] (by decide +kernel) (by decide +kernel)
set_option maxRecDepth 20000 in
theorem gJxc12de_init_da8c8_Jxa1e45_init_da8c8 : GoodIn wsJxc12de_init_da8c8 (wsJxa1e45_init_da8c8) := ggJxc12de_init_da8c8_Jxa1e45_init_da8c8
theorem dJxc12de_init_da8c8_0 : decode cJxc12de_init_da8c8 0 = .ok (.aload_n 0, 1) := by decide +kernel
theorem dJxc12de_init_da8c8_1 : decode cJxc12de_init_da8c8 1 = .ok (.invokespecial 1, 3) := by decide +kernel
theorem dJxc12de_init_da8c8_4 : decode cJxc12de_init_da8c8 4 = .ok (.aload_n 0, 1) := by decide +kernel
theorem dJxc12de_init_da8c8_5 : decode cJxc12de_init_da8c8 5 = .ok (.iconst 0, 1) := by decide +kernel
theorem dJxc12de_init_da8c8_6 : decode cJxc12de_init_da8c8 6 = .ok (.putfield 7, 3) := by decide +kernel
theorem dJxc12de_init_da8c8_9 : decode cJxc12de_init_da8c8 9 = .ok (.return_, 1) := by decide +kernel
set_option maxRecDepth 20000 in
theorem ggJx4a65c_init_da8c8_Jxc12de_init_da8c8 : GoodIn wsJx4a65c_init_da8c8 wsJxc12de_init_da8c8 := goodIn_r _ [6, 7, 8, 9, 10, 11, 12, 13, 14, 15, 16, 17] (by decide +kernel) (by decide +kernel)
set_option maxRecDepth 20000 in
theorem gJx4a65c_init_da8c8_Jxc12de_init_da8c8 : GoodIn wsJx4a65c_init_da8c8 (wsJxc12de_init_da8c8) := ggJx4a65c_init_da8c8_Jxc12de_init_da8c8
theorem dJx4a65c_init_da8c8_0 : decode cJx4a65c_init_da8c8 0 = .ok (.aload_n 0, 1) := by decide +kernel
theorem dJx4a65c_init_da8c8_1 : decode cJx4a65c_init_da8c8 1 = .ok (.invokespecial 1, 3) := by decide +kernel
theorem dJx4a65c_init_da8c8_4 : decode cJx4a65c_init_da8c8 4 = .ok (.aload_n 0, 1) := by decide +kernel
theorem dJx4a65c_init_da8c8_5 : decode cJx4a65c_init_da8c8 5 = .ok (.getstatic 39, 3) := by decide +kernel
theorem dJx4a65c_init_da8c8_8 : decode cJx4a65c_init_da8c8 8 = .ok (.putfield 9, 3) := by decide +kernel
theorem dJx4a65c_init_da8c8_11 : decode cJx4a65c_init_da8c8 11 = .ok (.return_, 1) := by decide +kernel
set_option maxRecDepth 20000 in
theorem ggJx4a65c_grow_92f84_J8_newLength_cabcc : GoodIn wsJx4a65c_grow_92f84 wsJ8_newLength_cabcc := goodIn_r _ [11, 12, 4, 5, 6, 13, 14, 15, 10, 16] (by decide +kernel) (by decide +kernel)
set_option maxRecDepth 20000 in
theorem gJx4a65c_grow_92f84_J8_newLength_cabcc : GoodIn wsJx4a65c_grow_92f84 (va_wsS RJx4a65c 73 yJ8_newLength_cabcc wsJ8_newLength_cabcc) := goodIn_app (goodIn_of _ (by decide +kernel)) ggJx4a65c_grow_92f84_J8_newLength_cabcc
set_option maxRecDepth 20000 in
theorem ggJx4a65c_grow_92f84_J7_copyOf_1904c : GoodIn wsJx4a65c_grow_92f84 wsJ7_copyOf_1904c := goodIn_r _ [20, 21, 22, 23, 24, 25, 26, 19, 27, 28, 29, 30, 31, 5, 32, 33, 34, 35, 36] (by decide +kernel) (by decide +kernel)
set_option maxRecDepth 20000 in
theorem gJx4a65c_grow_92f84_J7_copyOf_1904c : GoodIn wsJx4a65c_grow_92f84 (va_wsS RJx4a65c 66 yJ7_copyOf_1904c wsJ7_copyOf_1904c) := goodIn_app (goodIn_of _ (by decide +kernel)) ggJx4a65c_grow_92f84_J7_copyOf_1904c
end
section
theorem dJx4a65c_grow_92f84_0 : decode cJx4a65c_grow_92f84 0 = .ok (.aload_n 0, 1) := by decide +kernel
theorem dJx4a65c_grow_92f84_1 : decode cJx4a65c_grow_92f84 1 = .ok (.getfield 9, 3) := by decide +kernel
theorem dJx4a65c_grow_92f84_4 : decode cJx4a65c_grow_92f84 4 = .ok (.arraylength, 1) := by decide +kernel
theorem dJx4a65c_grow_92f84_5 : decode cJx4a65c_grow_92f84 5 = .ok (.istore_n 2, 1) := by decide +kernel
theorem dJx4a65c_grow_92f84_6 : decode cJx4a65c_grow_92f84 6 = .ok (.iload_n 2, 1) := by decide +kernel
theorem dJx4a65c_grow_92f84_7 : decode cJx4a65c_grow_92f84 7 = .ok (.ifCond .gt 13, 3) := by decide +kernel
theorem dJx4a65c_grow_92f84_10 : decode cJx4a65c_grow_92f84 10 = .ok (.aload_n 0, 1) := by decide +kernel
theorem dJx4a65c_grow_92f84_11 : decode cJx4a65c_grow_92f84 11 = .ok (.getfield 9, 3) := by decide +kernel
theorem dJx4a65c_grow_92f84_14 : decode cJx4a65c_grow_92f84 14 = .ok (.getstatic 39, 3) := by decide +kernel
theorem dJx4a65c_grow_92f84_17 : decode cJx4a65c_grow_92f84 17 = .ok (.if_acmp .eq 28, 3) := by decide +kernel
theorem dJx4a65c_grow_92f84_20 : decode cJx4a65c_grow_92f84 20 = .ok (.iload_n 2, 1) := by decide +kernel
theorem dJx4a65c_grow_92f84_21 : decode cJx4a65c_grow_92f84 21 = .ok (.iload_n 1, 1) := by decide +kernel
theorem dJx4a65c_grow_92f84_22 : decode cJx4a65c_grow_92f84 22 = .ok (.iload_n 2, 1) := by decide +kernel
theorem dJx4a65c_grow_92f84_23 : decode cJx4a65c_grow_92f84 23 = .ok (.isub, 1) := by decide +kernel
theorem dJx4a65c_grow_92f84_24 : decode cJx4a65c_grow_92f84 24 = .ok (.iload_n 2, 1) := by decide +kernel
theorem dJx4a65c_grow_92f84_25 : decode cJx4a65c_grow_92f84 25 = .ok (.iconst 1, 1) := by decide +kernel
theorem dJx4a65c_grow_92f84_26 : decode cJx4a65c_grow_92f84 26 = .ok (.ishr, 1) := by decide +kernel
theorem dJx4a65c_grow_92f84_27 : decode cJx4a65c_grow_92f84 27 = .ok (.invokestatic 73, 3) := by decide +kernel
theorem dJx4a65c_grow_92f84_30 : decode cJx4a65c_grow_92f84 30 = .ok (.istore_n 3, 1) := by decide +kernel
theorem dJx4a65c_grow_92f84_31 : decode cJx4a65c_grow_92f84 31 = .ok (.aload_n 0, 1) := by decide +kernel
theorem dJx4a65c_grow_92f84_32 : decode cJx4a65c_grow_92f84 32 = .ok (.aload_n 0, 1) := by decide +kernel
theorem dJx4a65c_grow_92f84_33 : decode cJx4a65c_grow_92f84 33 = .ok (.getfield 9, 3) := by decide +kernel
theorem dJx4a65c_grow_92f84_36 : decode cJx4a65c_grow_92f84 36 = .ok (.iload_n 3, 1) := by decide +kernel
theorem dJx4a65c_grow_92f84_37 : decode cJx4a65c_grow_92f84 37 = .ok (.invokestatic 66, 3) := by decide +kernel
theorem dJx4a65c_grow_92f84_40 : decode cJx4a65c_grow_92f84 40 = .ok (.dup_x1, 1) := by decide +kernel
theorem dJx4a65c_grow_92f84_41 : decode cJx4a65c_grow_92f84 41 = .ok (.putfield 9, 3) := by decide +kernel
theorem dJx4a65c_grow_92f84_44 : decode cJx4a65c_grow_92f84 44 = .ok (.areturn, 1) := by decide +kernel
theorem dJx4a65c_grow_92f84_45 : decode cJx4a65c_grow_92f84 45 = .ok (.aload_n 0, 1) := by decide +kernel
theorem dJx4a65c_grow_92f84_46 : decode cJx4a65c_grow_92f84 46 = .ok (.bipush 10, 2) := by decide +kernel
theorem dJx4a65c_grow_92f84_48 : decode cJx4a65c_grow_92f84 48 = .ok (.iload_n 1, 1) := by decide +kernel
theorem dJx4a65c_grow_92f84_49 : decode cJx4a65c_grow_92f84 49 = .ok (.invokestatic 79, 3) := by decide +kernel
theorem dJx4a65c_grow_92f84_52 : decode cJx4a65c_grow_92f84 52 = .ok (.anewarray 7, 3) := by decide +kernel
theorem dJx4a65c_grow_92f84_55 : decode cJx4a65c_grow_92f84 55 = .ok (.dup_x1, 1) := by decide +kernel
theorem dJx4a65c_grow_92f84_56 : decode cJx4a65c_grow_92f84 56 = .ok (.putfield 9, 3) := by decide +kernel
theorem dJx4a65c_grow_92f84_59 : decode cJx4a65c_grow_92f84 59 = .ok (.areturn, 1) := by decide +kernel
set_option maxRecDepth 20000 in
theorem ggJx4a65c_grow_d5877_Jx4a65c_grow_92f84 : GoodIn wsJx4a65c_grow_d5877 wsJx4a65c_grow_92f84 := goodIn_r _ [6, 7, 8, 9, 10, 11, 12, 13, 14, 15, 16, 17, 18, 19, 20, 21, 22, 23, 24, 25, 26, 27, 28, 29, 30, 31, 32, 33, 34, 35, 36, 37, 38, 39, 40, 41, 42, 43, 44, 45] (by decide +kernel) (by decide +kernel)
set_option maxRecDepth 20000 in
theorem gJx4a65c_grow_d5877_Jx4a65c_grow_92f84 : GoodIn wsJx4a65c_grow_d5877 (wsV RJx4a65c 69 RJx4a65c yJx4a65c_grow_92f84 wsJx4a65c_grow_92f84) := goodIn_app (goodIn_of _ (by decide +kernel)) ggJx4a65c_grow_d5877_Jx4a65c_grow_92f84
theorem dJx4a65c_grow_d5877_0 : decode cJx4a65c_grow_d5877 0 = .ok (.aload_n 0, 1) := by decide +kernel
theorem dJx4a65c_grow_d5877_1 : decode cJx4a65c_grow_d5877 1 = .ok (.aload_n 0, 1) := by decide +kernel
theorem dJx4a65c_grow_d5877_2 : decode cJx4a65c_grow_d5877 2 = .ok (.getfield 48, 3) := by decide +kernel
theorem dJx4a65c_grow_d5877_5 : decode cJx4a65c_grow_d5877 5 = .ok (.iconst 1, 1) := by decide +kernel
theorem dJx4a65c_grow_d5877_6 : decode cJx4a65c_grow_d5877 6 = .ok (.iadd, 1) := by decide +kernel
theorem dJx4a65c_grow_d5877_7 : decode cJx4a65c_grow_d5877 7 = .ok (.invokevirtual 69, 3) := by decide +kernel
theorem dJx4a65c_grow_d5877_10 : decode cJx4a65c_grow_d5877 10 = .ok (.areturn, 1) := by decide +kernel
theorem dJx4a65c_size_8abf5_0 : decode cJx4a65c_size_8abf5 0 = .ok (.aload_n 0, 1) := by decide +kernel
theorem dJx4a65c_size_8abf5_1 : decode cJx4a65c_size_8abf5 1 = .ok (.getfield 48, 3) := by decide +kernel
theorem dJx4a65c_size_8abf5_4 : decode cJx4a65c_size_8abf5 4 = .ok (.ireturn, 1) := by decide +kernel
theorem dJx4a65c_elementData_915e3_0 : decode cJx4a65c_elementData_915e3 0 = .ok (.aload_n 0, 1) := by decide +kernel
theorem dJx4a65c_elementData_915e3_1 : decode cJx4a65c_elementData_915e3 1 = .ok (.getfield 9, 3) := by decide +kernel
theorem dJx4a65c_elementData_915e3_4 : decode cJx4a65c_elementData_915e3 4 = .ok (.iload_n 1, 1) := by decide +kernel
theorem dJx4a65c_elementData_915e3_5 : decode cJx4a65c_elementData_915e3 5 = .ok (.aaload, 1) := by decide +kernel
theorem dJx4a65c_elementData_915e3_6 : decode cJx4a65c_elementData_915e3 6 = .ok (.areturn, 1) := by decide +kernel
set_option maxRecDepth 20000 in
theorem ggJx4a65c_get_915e3_J15_checkIndex_7cf53 : GoodIn wsJx4a65c_get_915e3 wsJ15_checkIndex_7cf53 := goodIn_r _ [5, 6, 7, 8, 9] (by decide +kernel) (by decide +kernel)
set_option maxRecDepth 20000 in
theorem gJx4a65c_get_915e3_J15_checkIndex_7cf53 : GoodIn wsJx4a65c_get_915e3 (va_wsS RJx4a65c 118 yJ15_checkIndex_7cf53 wsJ15_checkIndex_7cf53) := goodIn_app (goodIn_of _ (by decide +kernel)) ggJx4a65c_get_915e3_J15_checkIndex_7cf53
set_option maxRecDepth 20000 in
theorem ggJx4a65c_get_915e3_Jx4a65c_elementData_915e3 : GoodIn wsJx4a65c_get_915e3 wsJx4a65c_elementData_915e3 := goodIn_r _ [14, 15, 16, 17, 18] (by decide +kernel) (by decide +kernel)
set_option maxRecDepth 20000 in
theorem gJx4a65c_get_915e3_Jx4a65c_elementData_915e3 : GoodIn wsJx4a65c_get_915e3 (wsV RJx4a65c 123 RJx4a65c yJx4a65c_elementData_915e3 wsJx4a65c_elementData_915e3) := goodIn_app (goodIn_of _ (by decide +kernel)) ggJx4a65c_get_915e3_Jx4a65c_elementData_915e3
theorem dJx4a65c_get_915e3_0 : decode cJx4a65c_get_915e3 0 = .ok (.iload_n 1, 1) := by decide +kernel
theorem dJx4a65c_get_915e3_1 : decode cJx4a65c_get_915e3 1 = .ok (.aload_n 0, 1) := by decide +kernel
theorem dJx4a65c_get_915e3_2 : decode cJx4a65c_get_915e3 2 = .ok (.getfield 48, 3) := by decide +kernel
theorem dJx4a65c_get_915e3_5 : decode cJx4a65c_get_915e3 5 = .ok (.invokestatic 118, 3) := by decide +kernel
theorem dJx4a65c_get_915e3_8 : decode cJx4a65c_get_915e3 8 = .ok (.pop, 1) := by decide +kernel
theorem dJx4a65c_get_915e3_9 : decode cJx4a65c_get_915e3 9 = .ok (.aload_n 0, 1) := by decide +kernel
theorem dJx4a65c_get_915e3_10 : decode cJx4a65c_get_915e3 10 = .ok (.iload_n 1, 1) := by decide +kernel
theorem dJx4a65c_get_915e3_11 : decode cJx4a65c_get_915e3 11 = .ok (.invokevirtual 123, 3) := by decide +kernel
theorem dJx4a65c_get_915e3_14 : decode cJx4a65c_get_915e3 14 = .ok (.areturn, 1) := by decide +kernel
set_option maxRecDepth 20000 in
theorem ggJx4a65c_add_72be8_Jx4a65c_grow_d5877 : GoodIn wsJx4a65c_add_72be8 wsJx4a65c_grow_d5877 := goodIn_r _ [6, 1, 7, 8, 9, 5, 10, 11, 12, 13, 14, 15, 16, 17, 18, 19, 20, 21, 22, 23, 24, 25, 26, 27, 28, 29, 30, 31, 32, 33, 34, 35, 36, 37, 38, 39, 40, 41, 42, 43, 44, 45, 46, 47, 48, 49] (by decide +kernel) (by decide +kernel)
set_option maxRecDepth 20000 in
theorem gJx4a65c_add_72be8_Jx4a65c_grow_d5877 : GoodIn wsJx4a65c_add_72be8 (wsV RJx4a65c 129 RJx4a65c yJx4a65c_grow_d5877 wsJx4a65c_grow_d5877) := goodIn_app (goodIn_of _ (by decide +kernel)) ggJx4a65c_add_72be8_Jx4a65c_grow_d5877
theorem dJx4a65c_add_72be8_0 : decode cJx4a65c_add_72be8 0 = .ok (.iload_n 3, 1) := by decide +kernel
theorem dJx4a65c_add_72be8_1 : decode cJx4a65c_add_72be8 1 = .ok (.aload_n 2, 1) := by decide +kernel
theorem dJx4a65c_add_72be8_2 : decode cJx4a65c_add_72be8 2 = .ok (.arraylength, 1) := by decide +kernel
theorem dJx4a65c_add_72be8_3 : decode cJx4a65c_add_72be8 3 = .ok (.if_icmp .ne 8, 3) := by decide +kernel
theorem dJx4a65c_add_72be8_6 : decode cJx4a65c_add_72be8 6 = .ok (.aload_n 0, 1) := by decide +kernel
theorem dJx4a65c_add_72be8_7 : decode cJx4a65c_add_72be8 7 = .ok (.invokevirtual 129, 3) := by decide +kernel
theorem dJx4a65c_add_72be8_10 : decode cJx4a65c_add_72be8 10 = .ok (.astore_n 2, 1) := by decide +kernel
theorem dJx4a65c_add_72be8_11 : decode cJx4a65c_add_72be8 11 = .ok (.aload_n 2, 1) := by decide +kernel
theorem dJx4a65c_add_72be8_12 : decode cJx4a65c_add_72be8 12 = .ok (.iload_n 3, 1) := by decide +kernel
theorem dJx4a65c_add_72be8_13 : decode cJx4a65c_add_72be8 13 = .ok (.aload_n 1, 1) := by decide +kernel
theorem dJx4a65c_add_72be8_14 : decode cJx4a65c_add_72be8 14 = .ok (.aastore, 1) := by decide +kernel
theorem dJx4a65c_add_72be8_15 : decode cJx4a65c_add_72be8 15 = .ok (.aload_n 0, 1) := by decide +kernel
theorem dJx4a65c_add_72be8_16 : decode cJx4a65c_add_72be8 16 = .ok (.iload_n 3, 1) := by decide +kernel
theorem dJx4a65c_add_72be8_17 : decode cJx4a65c_add_72be8 17 = .ok (.iconst 1, 1) := by decide +kernel
theorem dJx4a65c_add_72be8_18 : decode cJx4a65c_add_72be8 18 = .ok (.iadd, 1) := by decide +kernel
theorem dJx4a65c_add_72be8_19 : decode cJx4a65c_add_72be8 19 = .ok (.putfield 48, 3) := by decide +kernel
theorem dJx4a65c_add_72be8_22 : decode cJx4a65c_add_72be8 22 = .ok (.return_, 1) := by decide +kernel
set_option maxRecDepth 20000 in
theorem ggJx4a65c_add_9ea2d_Jx4a65c_add_72be8 : GoodIn wsJx4a65c_add_9ea2d wsJx4a65c_add_72be8 := goodIn_r _ [9, 4, 10, 11, 12, 8, 13, 14, 15, 16, 17, 3, 18, 19, 20, 21, 22, 23, 24, 25, 26, 27, 28, 29, 30, 31, 32, 33, 34, 35, 36, 37, 38, 39, 40, 41, 42, 43, 44, 45, 46, 47, 48, 49, 50, 51, 52, 53, 54, 55] (by decide +kernel) (by decide +kernel)
set_option maxRecDepth 20000 in
theorem gJx4a65c_add_9ea2d_Jx4a65c_add_72be8 : GoodIn wsJx4a65c_add_9ea2d (wsV RJx4a65c 131 RJx4a65c yJx4a65c_add_72be8 wsJx4a65c_add_72be8) := goodIn_app (goodIn_of _ (by decide +kernel)) ggJx4a65c_add_9ea2d_Jx4a65c_add_72be8
theorem dJx4a65c_add_9ea2d_0 : decode cJx4a65c_add_9ea2d 0 = .ok (.aload_n 0, 1) := by decide +kernel
theorem dJx4a65c_add_9ea2d_1 : decode cJx4a65c_add_9ea2d 1 = .ok (.dup, 1) := by decide +kernel
theorem dJx4a65c_add_9ea2d_2 : decode cJx4a65c_add_9ea2d 2 = .ok (.getfield 63, 3) := by decide +kernel
theorem dJx4a65c_add_9ea2d_5 : decode cJx4a65c_add_9ea2d 5 = .ok (.iconst 1, 1) := by decide +kernel
theorem dJx4a65c_add_9ea2d_6 : decode cJx4a65c_add_9ea2d 6 = .ok (.iadd, 1) := by decide +kernel
theorem dJx4a65c_add_9ea2d_7 : decode cJx4a65c_add_9ea2d 7 = .ok (.putfield 63, 3) := by decide +kernel
theorem dJx4a65c_add_9ea2d_10 : decode cJx4a65c_add_9ea2d 10 = .ok (.aload_n 0, 1) := by decide +kernel
theorem dJx4a65c_add_9ea2d_11 : decode cJx4a65c_add_9ea2d 11 = .ok (.aload_n 1, 1) := by decide +kernel
theorem dJx4a65c_add_9ea2d_12 : decode cJx4a65c_add_9ea2d 12 = .ok (.aload_n 0, 1) := by decide +kernel
theorem dJx4a65c_add_9ea2d_13 : decode cJx4a65c_add_9ea2d 13 = .ok (.getfield 9, 3) := by decide +kernel
theorem dJx4a65c_add_9ea2d_16 : decode cJx4a65c_add_9ea2d 16 = .ok (.aload_n 0, 1) := by decide +kernel
theorem dJx4a65c_add_9ea2d_17 : decode cJx4a65c_add_9ea2d 17 = .ok (.getfield 48, 3) := by decide +kernel
theorem dJx4a65c_add_9ea2d_20 : decode cJx4a65c_add_9ea2d 20 = .ok (.invokevirtual 131, 3) := by decide +kernel
theorem dJx4a65c_add_9ea2d_23 : decode cJx4a65c_add_9ea2d 23 = .ok (.iconst 1, 1) := by decide +kernel
theorem dJx4a65c_add_9ea2d_24 : decode cJx4a65c_add_9ea2d 24 = .ok (.ireturn, 1) := by decide +kernel
set_option maxRecDepth 20000 in
theorem ggJ7_copyOf_1904c_J7_copyOf_6403c : GoodIn wsJ7_copyOf_1904c wsJ7_copyOf_6403c := goodIn_r _ [8, 9, 10, 11, 12, 13, 14, 15, 16, 17, 18] (by decide +kernel) (by decide +kernel)
set_option maxRecDepth 20000 in
theorem gJ7_copyOf_1904c_J7_copyOf_6403c : GoodIn wsJ7_copyOf_1904c (va_wsS RJ7 300 yJ7_copyOf_6403c wsJ7_copyOf_6403c) := goodIn_app (goodIn_of _ (by decide +kernel)) ggJ7_copyOf_1904c_J7_copyOf_6403c
theorem dJ7_copyOf_1904c_0 : decode cJ7_copyOf_1904c 0 = .ok (.aload_n 0, 1) := by decide +kernel
theorem dJ7_copyOf_1904c_1 : decode cJ7_copyOf_1904c 1 = .ok (.iload_n 1, 1) := by decide +kernel
theorem dJ7_copyOf_1904c_2 : decode cJ7_copyOf_1904c 2 = .ok (.aload_n 0, 1) := by decide +kernel
theorem dJ7_copyOf_1904c_3 : decode cJ7_copyOf_1904c 3 = .ok (.invokevirtual 86, 3) := by decide +kernel
theorem dJ7_copyOf_1904c_6 : decode cJ7_copyOf_1904c 6 = .ok (.invokestatic 300, 3) := by decide +kernel
theorem dJ7_copyOf_1904c_9 : decode cJ7_copyOf_1904c 9 = .ok (.areturn, 1) := by decide +kernel
theorem dJ7_copyOf_6403c_0 : decode cJ7_copyOf_6403c 0 = .ok (.aload_n 2, 1) := by decide +kernel
theorem dJ7_copyOf_6403c_1 : decode cJ7_copyOf_6403c 1 = .ok (.ldc 110, 2) := by decide +kernel
theorem dJ7_copyOf_6403c_3 : decode cJ7_copyOf_6403c 3 = .ok (.if_acmp .ne 10, 3) := by decide +kernel
theorem dJ7_copyOf_6403c_6 : decode cJ7_copyOf_6403c 6 = .ok (.iload_n 1, 1) := by decide +kernel
theorem dJ7_copyOf_6403c_7 : decode cJ7_copyOf_6403c 7 = .ok (.anewarray 2, 3) := by decide +kernel
theorem dJ7_copyOf_6403c_10 : decode cJ7_copyOf_6403c 10 = .ok (.goto 14, 3) := by decide +kernel
theorem dJ7_copyOf_6403c_13 : decode cJ7_copyOf_6403c 13 = .ok (.aload_n 2, 1) := by decide +kernel
theorem dJ7_copyOf_6403c_14 : decode cJ7_copyOf_6403c 14 = .ok (.invokevirtual 90, 3) := by decide +kernel
theorem dJ7_copyOf_6403c_17 : decode cJ7_copyOf_6403c 17 = .ok (.iload_n 1, 1) := by decide +kernel
theorem dJ7_copyOf_6403c_18 : decode cJ7_copyOf_6403c 18 = .ok (.invokestatic 95, 3) := by decide +kernel
theorem dJ7_copyOf_6403c_21 : decode cJ7_copyOf_6403c 21 = .ok (.checkcast 110, 3) := by decide +kernel
theorem dJ7_copyOf_6403c_24 : decode cJ7_copyOf_6403c 24 = .ok (.astore_n 3, 1) := by decide +kernel
theorem dJ7_copyOf_6403c_25 : decode cJ7_copyOf_6403c 25 = .ok (.aload_n 0, 1) := by decide +kernel
theorem dJ7_copyOf_6403c_26 : decode cJ7_copyOf_6403c 26 = .ok (.iconst 0, 1) := by decide +kernel
theorem dJ7_copyOf_6403c_27 : decode cJ7_copyOf_6403c 27 = .ok (.aload_n 3, 1) := by decide +kernel
theorem dJ7_copyOf_6403c_28 : decode cJ7_copyOf_6403c 28 = .ok (.iconst 0, 1) := by decide +kernel
theorem dJ7_copyOf_6403c_29 : decode cJ7_copyOf_6403c 29 = .ok (.aload_n 0, 1) := by decide +kernel
theorem dJ7_copyOf_6403c_30 : decode cJ7_copyOf_6403c 30 = .ok (.arraylength, 1) := by decide +kernel
theorem dJ7_copyOf_6403c_31 : decode cJ7_copyOf_6403c 31 = .ok (.iload_n 1, 1) := by decide +kernel
theorem dJ7_copyOf_6403c_32 : decode cJ7_copyOf_6403c 32 = .ok (.invokestatic 304, 3) := by decide +kernel
theorem dJ7_copyOf_6403c_35 : decode cJ7_copyOf_6403c 35 = .ok (.invokestatic 150, 3) := by decide +kernel
theorem dJ7_copyOf_6403c_38 : decode cJ7_copyOf_6403c 38 = .ok (.aload_n 3, 1) := by decide +kernel
theorem dJ7_copyOf_6403c_39 : decode cJ7_copyOf_6403c 39 = .ok (.areturn, 1) := by decide +kernel
set_option maxRecDepth 20000 in
theorem ggJ15_checkIndex_7cf53_J3_checkIndex_8e157 : GoodIn wsJ15_checkIndex_7cf53 wsJ3_checkIndex_8e157 := goodIn_r _ [4] (by decide +kernel) (by decide +kernel)
set_option maxRecDepth 20000 in
theorem gJ15_checkIndex_7cf53_J3_checkIndex_8e157 : GoodIn wsJ15_checkIndex_7cf53 (va_wsS RJ15 105 yJ3_checkIndex_8e157 wsJ3_checkIndex_8e157) := goodIn_app (goodIn_of _ (by decide +kernel)) ggJ15_checkIndex_7cf53_J3_checkIndex_8e157
theorem dJ15_checkIndex_7cf53_0 : decode cJ15_checkIndex_7cf53 0 = .ok (.iload_n 0, 1) := by decide +kernel
theorem dJ15_checkIndex_7cf53_1 : decode cJ15_checkIndex_7cf53 1 = .ok (.iload_n 1, 1) := by decide +kernel
theorem dJ15_checkIndex_7cf53_2 : decode cJ15_checkIndex_7cf53 2 = .ok (.aconst_null, 1) := by decide +kernel
theorem dJ15_checkIndex_7cf53_3 : decode cJ15_checkIndex_7cf53 3 = .ok (.invokestatic 105, 3) := by decide +kernel
theorem dJ15_checkIndex_7cf53_6 : decode cJ15_checkIndex_7cf53 6 = .ok (.ireturn, 1) := by decide +kernel
set_option maxRecDepth 20000 in
theorem ggJ8_newLength_cabcc_J8_hugeLength_7cf53 : GoodIn wsJ8_newLength_cabcc wsJ8_hugeLength_7cf53 := goodIn_r _ [9, 5] (by decide +kernel) (by decide +kernel)
set_option maxRecDepth 20000 in
theorem gJ8_newLength_cabcc_J8_hugeLength_7cf53 : GoodIn wsJ8_newLength_cabcc (va_wsS RJ8 201 yJ8_hugeLength_7cf53 wsJ8_hugeLength_7cf53) := goodIn_app (goodIn_of _ (by decide +kernel)) ggJ8_newLength_cabcc_J8_hugeLength_7cf53
theorem dJ8_newLength_cabcc_0 : decode cJ8_newLength_cabcc 0 = .ok (.iload_n 0, 1) := by decide +kernel
theorem dJ8_newLength_cabcc_1 : decode cJ8_newLength_cabcc 1 = .ok (.iload_n 1, 1) := by decide +kernel
theorem dJ8_newLength_cabcc_2 : decode cJ8_newLength_cabcc 2 = .ok (.iload_n 2, 1) := by decide +kernel
theorem dJ8_newLength_cabcc_3 : decode cJ8_newLength_cabcc 3 = .ok (.invokestatic 194, 3) := by decide +kernel
theorem dJ8_newLength_cabcc_6 : decode cJ8_newLength_cabcc 6 = .ok (.iadd, 1) := by decide +kernel
theorem dJ8_newLength_cabcc_7 : decode cJ8_newLength_cabcc 7 = .ok (.istore_n 3, 1) := by decide +kernel
theorem dJ8_newLength_cabcc_8 : decode cJ8_newLength_cabcc 8 = .ok (.iconst 0, 1) := by decide +kernel
theorem dJ8_newLength_cabcc_9 : decode cJ8_newLength_cabcc 9 = .ok (.iload_n 3, 1) := by decide +kernel
theorem dJ8_newLength_cabcc_10 : decode cJ8_newLength_cabcc 10 = .ok (.if_icmp .ge 11, 3) := by decide +kernel
theorem dJ8_newLength_cabcc_13 : decode cJ8_newLength_cabcc 13 = .ok (.iload_n 3, 1) := by decide +kernel
theorem dJ8_newLength_cabcc_14 : decode cJ8_newLength_cabcc 14 = .ok (.ldc 200, 2) := by decide +kernel
theorem dJ8_newLength_cabcc_16 : decode cJ8_newLength_cabcc 16 = .ok (.if_icmp .gt 5, 3) := by decide +kernel
theorem dJ8_newLength_cabcc_19 : decode cJ8_newLength_cabcc 19 = .ok (.iload_n 3, 1) := by decide +kernel
theorem dJ8_newLength_cabcc_20 : decode cJ8_newLength_cabcc 20 = .ok (.ireturn, 1) := by decide +kernel
theorem dJ8_newLength_cabcc_21 : decode cJ8_newLength_cabcc 21 = .ok (.iload_n 0, 1) := by decide +kernel
theorem dJ8_newLength_cabcc_22 : decode cJ8_newLength_cabcc 22 = .ok (.iload_n 1, 1) := by decide +kernel
theorem dJ8_newLength_cabcc_23 : decode cJ8_newLength_cabcc 23 = .ok (.invokestatic 201, 3) := by decide +kernel
theorem dJ8_newLength_cabcc_26 : decode cJ8_newLength_cabcc 26 = .ok (.ireturn, 1) := by decide +kernel
theorem dJ8_hugeLength_7cf53_0 : decode cJ8_hugeLength_7cf53 0 = .ok (.iload_n 0, 1) := by decide +kernel
theorem dJ8_hugeLength_7cf53_1 : decode cJ8_hugeLength_7cf53 1 = .ok (.iload_n 1, 1) := by decide +kernel
theorem dJ8_hugeLength_7cf53_2 : decode cJ8_hugeLength_7cf53 2 = .ok (.iadd, 1) := by decide +kernel
theorem dJ8_hugeLength_7cf53_3 : decode cJ8_hugeLength_7cf53 3 = .ok (.istore_n 2, 1) := by decide +kernel
theorem dJ8_hugeLength_7cf53_4 : decode cJ8_hugeLength_7cf53 4 = .ok (.iload_n 2, 1) := by decide +kernel
theorem dJ8_hugeLength_7cf53_5 : decode cJ8_hugeLength_7cf53 5 = .ok (.ifCond .ge 44, 3) := by decide +kernel
theorem dJ8_hugeLength_7cf53_8 : decode cJ8_hugeLength_7cf53 8 = .ok (.new 204, 3) := by decide +kernel
theorem dJ8_hugeLength_7cf53_11 : decode cJ8_hugeLength_7cf53 11 = .ok (.dup, 1) := by decide +kernel
theorem dJ8_hugeLength_7cf53_12 : decode cJ8_hugeLength_7cf53 12 = .ok (.new 89, 3) := by decide +kernel
theorem dJ8_hugeLength_7cf53_15 : decode cJ8_hugeLength_7cf53 15 = .ok (.dup, 1) := by decide +kernel
theorem dJ8_hugeLength_7cf53_16 : decode cJ8_hugeLength_7cf53 16 = .ok (.invokespecial 91, 3) := by decide +kernel
theorem dJ8_hugeLength_7cf53_19 : decode cJ8_hugeLength_7cf53 19 = .ok (.ldc 206, 2) := by decide +kernel
theorem dJ8_hugeLength_7cf53_21 : decode cJ8_hugeLength_7cf53 21 = .ok (.invokevirtual 94, 3) := by decide +kernel
theorem dJ8_hugeLength_7cf53_24 : decode cJ8_hugeLength_7cf53 24 = .ok (.iload_n 0, 1) := by decide +kernel
theorem dJ8_hugeLength_7cf53_25 : decode cJ8_hugeLength_7cf53 25 = .ok (.invokevirtual 98, 3) := by decide +kernel
theorem dJ8_hugeLength_7cf53_28 : decode cJ8_hugeLength_7cf53 28 = .ok (.ldc 208, 2) := by decide +kernel
theorem dJ8_hugeLength_7cf53_30 : decode cJ8_hugeLength_7cf53 30 = .ok (.invokevirtual 94, 3) := by decide +kernel
theorem dJ8_hugeLength_7cf53_33 : decode cJ8_hugeLength_7cf53 33 = .ok (.iload_n 1, 1) := by decide +kernel
theorem dJ8_hugeLength_7cf53_34 : decode cJ8_hugeLength_7cf53 34 = .ok (.invokevirtual 98, 3) := by decide +kernel
theorem dJ8_hugeLength_7cf53_37 : decode cJ8_hugeLength_7cf53 37 = .ok (.ldc 210, 2) := by decide +kernel
theorem dJ8_hugeLength_7cf53_39 : decode cJ8_hugeLength_7cf53 39 = .ok (.invokevirtual 94, 3) := by decide +kernel
theorem dJ8_hugeLength_7cf53_42 : decode cJ8_hugeLength_7cf53 42 = .ok (.invokevirtual 101, 3) := by decide +kernel
theorem dJ8_hugeLength_7cf53_45 : decode cJ8_hugeLength_7cf53 45 = .ok (.invokespecial 212, 3) := by decide +kernel
theorem dJ8_hugeLength_7cf53_48 : decode cJ8_hugeLength_7cf53 48 = .ok (.athrow, 1) := by decide +kernel
theorem dJ8_hugeLength_7cf53_49 : decode cJ8_hugeLength_7cf53 49 = .ok (.iload_n 2, 1) := by decide +kernel
theorem dJ8_hugeLength_7cf53_50 : decode cJ8_hugeLength_7cf53 50 = .ok (.ldc 200, 2) := by decide +kernel
theorem dJ8_hugeLength_7cf53_52 : decode cJ8_hugeLength_7cf53 52 = .ok (.if_icmp .gt 6, 3) := by decide +kernel
theorem dJ8_hugeLength_7cf53_55 : decode cJ8_hugeLength_7cf53 55 = .ok (.ldc 200, 2) := by decide +kernel
theorem dJ8_hugeLength_7cf53_57 : decode cJ8_hugeLength_7cf53 57 = .ok (.ireturn, 1) := by decide +kernel
theorem dJ8_hugeLength_7cf53_58 : decode cJ8_hugeLength_7cf53 58 = .ok (.iload_n 2, 1) := by decide +kernel
theorem dJ8_hugeLength_7cf53_59 : decode cJ8_hugeLength_7cf53 59 = .ok (.ireturn, 1) := by decide +kernel
theorem dJ3_checkIndex_8e157_0 : decode cJ3_checkIndex_8e157 0 = .ok (.iload_n 0, 1) := by decide +kernel
theorem dJ3_checkIndex_8e157_1 : decode cJ3_checkIndex_8e157 1 = .ok (.ifCond .lt 8, 3) := by decide +kernel
theorem dJ3_checkIndex_8e157_4 : decode cJ3_checkIndex_8e157 4 = .ok (.iload_n 0, 1) := by decide +kernel
theorem dJ3_checkIndex_8e157_5 : decode cJ3_checkIndex_8e157 5 = .ok (.iload_n 1, 1) := by decide +kernel
theorem dJ3_checkIndex_8e157_6 : decode cJ3_checkIndex_8e157 6 = .ok (.if_icmp .lt 10, 3) := by decide +kernel
theorem dJ3_checkIndex_8e157_9 : decode cJ3_checkIndex_8e157 9 = .ok (.aload_n 2, 1) := by decide +kernel
theorem dJ3_checkIndex_8e157_10 : decode cJ3_checkIndex_8e157 10 = .ok (.iload_n 0, 1) := by decide +kernel
theorem dJ3_checkIndex_8e157_11 : decode cJ3_checkIndex_8e157 11 = .ok (.iload_n 1, 1) := by decide +kernel
theorem dJ3_checkIndex_8e157_12 : decode cJ3_checkIndex_8e157 12 = .ok (.invokestatic 95, 3) := by decide +kernel
theorem dJ3_checkIndex_8e157_15 : decode cJ3_checkIndex_8e157 15 = .ok (.athrow, 1) := by decide +kernel
theorem dJ3_checkIndex_8e157_16 : decode cJ3_checkIndex_8e157 16 = .ok (.iload_n 0, 1) := by decide +kernel
theorem dJ3_checkIndex_8e157_17 : decode cJ3_checkIndex_8e157 17 = .ok (.ireturn, 1) := by decide +kernel
set_option maxRecDepth 20000 in
theorem ggL_setPlan_X4_setPlan : GoodIn wsL_setPlan wsX4_setPlan := goodIn_ca (goodIn_r _ [6, 7, 8, 9, 5, 10, 11, 12, 13, 14, 15, 16, 17, 18, 19, 20, 21, 22, 23, 24, 25, 26] (by decide +kernel) (by decide +kernel)) (goodIn_sub (fun _ h => List.mem_cons_of_mem _ (List.mem_append_right _ h)) (by decide +kernel))
set_option maxRecDepth 20000 in
theorem gL_setPlan_X4_setPlan : GoodIn wsL_setPlan (wsV RL 7 RX4 yX4_setPlan wsX4_setPlan) := goodIn_app (goodIn_of _ (by decide +kernel)) ggL_setPlan_X4_setPlan
theorem dL_setPlan_0 : decode cL_setPlan 0 = .ok (.aload_n 0, 1) := by decide +kernel
theorem dL_setPlan_1 : decode cL_setPlan 1 = .ok (.iload_n 1, 1) := by decide +kernel
theorem dL_setPlan_2 : decode cL_setPlan 2 = .ok (.iload_n 2, 1) := by decide +kernel
theorem dL_setPlan_3 : decode cL_setPlan 3 = .ok (.iload_n 3, 1) := by decide +kernel
theorem dL_setPlan_4 : decode cL_setPlan 4 = .ok (.iload 4, 2) := by decide +kernel
theorem dL_setPlan_6 : decode cL_setPlan 6 = .ok (.invokevirtual 7, 3) := by decide +kernel
theorem dL_setPlan_9 : decode cL_setPlan 9 = .ok (.goto 7, 3) := by decide +kernel
theorem dL_setPlan_12 : decode cL_setPlan 12 = .ok (.astore 5, 2) := by decide +kernel
theorem dL_setPlan_14 : decode cL_setPlan 14 = .ok (.iconst 1, 1) := by decide +kernel
theorem dL_setPlan_15 : decode cL_setPlan 15 = .ok (.ireturn, 1) := by decide +kernel
theorem dL_setPlan_16 : decode cL_setPlan 16 = .ok (.iconst 0, 1) := by decide +kernel
theorem dL_setPlan_17 : decode cL_setPlan 17 = .ok (.ireturn, 1) := by decide +kernel
set_option maxRecDepth 20000 in
theorem ggL_setRoute_X4_setRoute : GoodIn wsL_setRoute wsX4_setRoute := goodIn_ca (goodIn_r _ [6, 7, 8, 9, 5, 10, 11, 12, 13, 14, 15, 16, 17, 18, 19, 20, 21, 22, 23, 24] (by decide +kernel) (by decide +kernel)) (goodIn_sub (fun _ h => List.mem_cons_of_mem _ (List.mem_append_right _ h)) (by decide +kernel))
set_option maxRecDepth 20000 in
theorem gL_setRoute_X4_setRoute : GoodIn wsL_setRoute (wsV RL 15 RX4 yX4_setRoute wsX4_setRoute) := goodIn_app (goodIn_of _ (by decide +kernel)) ggL_setRoute_X4_setRoute
theorem dL_setRoute_0 : decode cL_setRoute 0 = .ok (.aload_n 0, 1) := by decide +kernel
theorem dL_setRoute_1 : decode cL_setRoute 1 = .ok (.iload_n 1, 1) := by decide +kernel
theorem dL_setRoute_2 : decode cL_setRoute 2 = .ok (.iload_n 2, 1) := by decide +kernel
theorem dL_setRoute_3 : decode cL_setRoute 3 = .ok (.iload_n 3, 1) := by decide +kernel
theorem dL_setRoute_4 : decode cL_setRoute 4 = .ok (.invokevirtual 15, 3) := by decide +kernel
theorem dL_setRoute_7 : decode cL_setRoute 7 = .ok (.goto 7, 3) := by decide +kernel
theorem dL_setRoute_10 : decode cL_setRoute 10 = .ok (.astore 4, 2) := by decide +kernel
theorem dL_setRoute_12 : decode cL_setRoute 12 = .ok (.iconst 1, 1) := by decide +kernel
theorem dL_setRoute_13 : decode cL_setRoute 13 = .ok (.ireturn, 1) := by decide +kernel
theorem dL_setRoute_14 : decode cL_setRoute 14 = .ok (.iconst 0, 1) := by decide +kernel
theorem dL_setRoute_15 : decode cL_setRoute 15 = .ok (.ireturn, 1) := by decide +kernel
set_option maxRecDepth 20000 in
theorem ggL_addKey_X4_addKey : GoodIn wsL_addKey wsX4_addKey := goodIn_ca (goodIn_ca (goodIn_r _ [7, 8, 9, 10, 11, 12, 13, 14, 15, 16, 6, 17, 18, 19, 20, 21, 22, 23, 24, 25, 26, 27, 28, 29, 30, 31, 32, 33, 34, 35, 36, 37, 38, 39, 40, 41, 42, 43, 44, 45, 46, 47, 48, 49, 50, 51, 52, 53, 54, 55, 56, 57, 58, 59, 60, 61, 62, 63, 64, 65, 66, 67, 68, 69, 70, 71, 72, 73, 74, 75, 76, 77, 78, 79, 80, 81, 82, 83, 84, 85, 86, 87, 88, 89, 90, 91, 92, 93, 94, 95, 96, 97, 98, 99, 100, 101, 102, 103, 104, 105, 106, 107, 108, 109] (by decide +kernel) (by decide +kernel)) (goodIn_sub (fun _ h => List.mem_cons_of_mem _ (List.mem_append_left _ (List.mem_append_right _ h))) (by decide +kernel))) (goodIn_sub (fun _ h => List.mem_cons_of_mem _ (List.mem_append_right _ h)) (by decide +kernel))
set_option maxRecDepth 20000 in
theorem gL_addKey_X4_addKey : GoodIn wsL_addKey (wsV RL 19 RX4 yX4_addKey wsX4_addKey) := goodIn_app (goodIn_of _ (by decide +kernel)) ggL_addKey_X4_addKey
theorem dL_addKey_0 : decode cL_addKey 0 = .ok (.aload_n 2, 1) := by decide +kernel
theorem dL_addKey_1 : decode cL_addKey 1 = .ok (.iconst 0, 1) := by decide +kernel
theorem dL_addKey_2 : decode cL_addKey 2 = .ok (.aload_n 0, 1) := by decide +kernel
theorem dL_addKey_3 : decode cL_addKey 3 = .ok (.iload_n 1, 1) := by decide +kernel
theorem dL_addKey_4 : decode cL_addKey 4 = .ok (.invokevirtual 19, 3) := by decide +kernel
theorem dL_addKey_7 : decode cL_addKey 7 = .ok (.i2l, 1) := by decide +kernel
theorem dL_addKey_8 : decode cL_addKey 8 = .ok (.lastore, 1) := by decide +kernel
theorem dL_addKey_9 : decode cL_addKey 9 = .ok (.goto 9, 3) := by decide +kernel
theorem dL_addKey_12 : decode cL_addKey 12 = .ok (.astore_n 3, 1) := by decide +kernel
theorem dL_addKey_13 : decode cL_addKey 13 = .ok (.iconst 1, 1) := by decide +kernel
theorem dL_addKey_14 : decode cL_addKey 14 = .ok (.ireturn, 1) := by decide +kernel
theorem dL_addKey_15 : decode cL_addKey 15 = .ok (.astore_n 3, 1) := by decide +kernel
theorem dL_addKey_16 : decode cL_addKey 16 = .ok (.iconst 2, 1) := by decide +kernel
theorem dL_addKey_17 : decode cL_addKey 17 = .ok (.ireturn, 1) := by decide +kernel
theorem dL_addKey_18 : decode cL_addKey 18 = .ok (.iconst 0, 1) := by decide +kernel
theorem dL_addKey_19 : decode cL_addKey 19 = .ok (.ireturn, 1) := by decide +kernel
set_option maxRecDepth 20000 in
theorem ggL_setKeyPlan_X4_setKeyPlan : GoodIn wsL_setKeyPlan wsX4_setKeyPlan := goodIn_ca (goodIn_ca (goodIn_r _ [7, 8, 9, 10, 6, 11, 12, 13, 14, 15, 16, 17, 18, 19, 20, 21, 22, 23, 24, 25, 26, 27, 28, 29, 30, 31, 32, 33, 34, 35, 36, 37, 38, 39, 40, 41, 42, 43, 44, 45, 46, 47, 48, 49, 50, 51, 52, 53, 54, 55, 56, 57, 58, 59, 60, 61, 62, 63, 64, 65, 66, 67] (by decide +kernel) (by decide +kernel)) (goodIn_sub (fun _ h => List.mem_cons_of_mem _ (List.mem_append_left _ (List.mem_append_right _ h))) (by decide +kernel))) (goodIn_sub (fun _ h => List.mem_cons_of_mem _ (List.mem_append_right _ h)) (by decide +kernel))
set_option maxRecDepth 20000 in
theorem gL_setKeyPlan_X4_setKeyPlan : GoodIn wsL_setKeyPlan (wsV RL 25 RX4 yX4_setKeyPlan wsX4_setKeyPlan) := goodIn_app (goodIn_of _ (by decide +kernel)) ggL_setKeyPlan_X4_setKeyPlan
theorem dL_setKeyPlan_0 : decode cL_setKeyPlan 0 = .ok (.aload_n 3, 1) := by decide +kernel
theorem dL_setKeyPlan_1 : decode cL_setKeyPlan 1 = .ok (.iconst 0, 1) := by decide +kernel
theorem dL_setKeyPlan_2 : decode cL_setKeyPlan 2 = .ok (.aload_n 0, 1) := by decide +kernel
theorem dL_setKeyPlan_3 : decode cL_setKeyPlan 3 = .ok (.iload_n 1, 1) := by decide +kernel
theorem dL_setKeyPlan_4 : decode cL_setKeyPlan 4 = .ok (.iload_n 2, 1) := by decide +kernel
theorem dL_setKeyPlan_5 : decode cL_setKeyPlan 5 = .ok (.invokevirtual 25, 3) := by decide +kernel
theorem dL_setKeyPlan_8 : decode cL_setKeyPlan 8 = .ok (.i2l, 1) := by decide +kernel
theorem dL_setKeyPlan_9 : decode cL_setKeyPlan 9 = .ok (.lastore, 1) := by decide +kernel
theorem dL_setKeyPlan_10 : decode cL_setKeyPlan 10 = .ok (.goto 11, 3) := by decide +kernel
theorem dL_setKeyPlan_13 : decode cL_setKeyPlan 13 = .ok (.astore 4, 2) := by decide +kernel
theorem dL_setKeyPlan_15 : decode cL_setKeyPlan 15 = .ok (.iconst 1, 1) := by decide +kernel
theorem dL_setKeyPlan_16 : decode cL_setKeyPlan 16 = .ok (.ireturn, 1) := by decide +kernel
theorem dL_setKeyPlan_17 : decode cL_setKeyPlan 17 = .ok (.astore 4, 2) := by decide +kernel
theorem dL_setKeyPlan_19 : decode cL_setKeyPlan 19 = .ok (.iconst 2, 1) := by decide +kernel
theorem dL_setKeyPlan_20 : decode cL_setKeyPlan 20 = .ok (.ireturn, 1) := by decide +kernel
theorem dL_setKeyPlan_21 : decode cL_setKeyPlan 21 = .ok (.iconst 0, 1) := by decide +kernel
theorem dL_setKeyPlan_22 : decode cL_setKeyPlan 22 = .ok (.ireturn, 1) := by decide +kernel
set_option maxRecDepth 20000 in
theorem ggL_setTrust_X4_setTrust : GoodIn wsL_setTrust wsX4_setTrust := goodIn_ca (goodIn_ca (goodIn_r _ [7, 8, 9, 10, 6, 11, 12, 13, 14, 15, 16, 17, 18, 19, 20, 21, 22, 23, 24, 25, 26, 27, 28, 29, 30, 31, 32, 33, 34, 35, 36, 37, 38, 39, 40, 41, 42, 43, 44, 45, 46, 47, 48, 49, 50, 51, 52, 53, 54, 55, 56, 57, 58, 59, 60, 61] (by decide +kernel) (by decide +kernel)) (goodIn_sub (fun _ h => List.mem_cons_of_mem _ (List.mem_append_left _ (List.mem_append_right _ h))) (by decide +kernel))) (goodIn_sub (fun _ h => List.mem_cons_of_mem _ (List.mem_append_right _ h)) (by decide +kernel))
set_option maxRecDepth 20000 in
theorem gL_setTrust_X4_setTrust : GoodIn wsL_setTrust (wsV RL 31 RX4 yX4_setTrust wsX4_setTrust) := goodIn_app (goodIn_of _ (by decide +kernel)) ggL_setTrust_X4_setTrust
theorem dL_setTrust_0 : decode cL_setTrust 0 = .ok (.aload_n 3, 1) := by decide +kernel
theorem dL_setTrust_1 : decode cL_setTrust 1 = .ok (.iconst 0, 1) := by decide +kernel
theorem dL_setTrust_2 : decode cL_setTrust 2 = .ok (.aload_n 0, 1) := by decide +kernel
theorem dL_setTrust_3 : decode cL_setTrust 3 = .ok (.iload_n 1, 1) := by decide +kernel
theorem dL_setTrust_4 : decode cL_setTrust 4 = .ok (.iload_n 2, 1) := by decide +kernel
theorem dL_setTrust_5 : decode cL_setTrust 5 = .ok (.invokevirtual 31, 3) := by decide +kernel
theorem dL_setTrust_8 : decode cL_setTrust 8 = .ok (.i2l, 1) := by decide +kernel
theorem dL_setTrust_9 : decode cL_setTrust 9 = .ok (.lastore, 1) := by decide +kernel
theorem dL_setTrust_10 : decode cL_setTrust 10 = .ok (.goto 11, 3) := by decide +kernel
theorem dL_setTrust_13 : decode cL_setTrust 13 = .ok (.astore 4, 2) := by decide +kernel
theorem dL_setTrust_15 : decode cL_setTrust 15 = .ok (.iconst 1, 1) := by decide +kernel
theorem dL_setTrust_16 : decode cL_setTrust 16 = .ok (.ireturn, 1) := by decide +kernel
theorem dL_setTrust_17 : decode cL_setTrust 17 = .ok (.astore 4, 2) := by decide +kernel
theorem dL_setTrust_19 : decode cL_setTrust 19 = .ok (.iconst 2, 1) := by decide +kernel
theorem dL_setTrust_20 : decode cL_setTrust 20 = .ok (.ireturn, 1) := by decide +kernel
theorem dL_setTrust_21 : decode cL_setTrust 21 = .ok (.iconst 0, 1) := by decide +kernel
theorem dL_setTrust_22 : decode cL_setTrust 22 = .ok (.ireturn, 1) := by decide +kernel
set_option maxRecDepth 20000 in
theorem ggL_pay_X4_pay : GoodIn wsL_pay wsX4_pay := goodIn_ca (goodIn_ca (goodIn_r _ [7, 8, 9, 10, 11, 6, 12, 13, 14, 15, 16, 17, 18, 19, 20, 21, 22, 23, 24, 25, 26, 27, 28, 29, 30, 31, 32, 33, 34, 35, 36, 37, 38, 39, 40, 41, 42, 43, 44, 45, 46, 47, 48, 49, 50, 51, 52, 53, 54, 55, 56, 57, 58, 59, 60, 61, 62, 63, 64, 65, 66, 67, 68, 69, 70, 71, 72] (by decide +kernel) (by decide +kernel)) (goodIn_sub (fun _ h => List.mem_cons_of_mem _ (List.mem_append_left _ (List.mem_append_right _ h))) (by decide +kernel))) (goodIn_sub (fun _ h => List.mem_cons_of_mem _ (List.mem_append_right _ h)) (by decide +kernel))
set_option maxRecDepth 20000 in
theorem gL_pay_X4_pay : GoodIn wsL_pay (wsV RL 34 RX4 yX4_pay wsX4_pay) := goodIn_app (goodIn_of _ (by decide +kernel)) ggL_pay_X4_pay
theorem dL_pay_0 : decode cL_pay 0 = .ok (.aload_n 3, 1) := by decide +kernel
theorem dL_pay_1 : decode cL_pay 1 = .ok (.iconst 0, 1) := by decide +kernel
theorem dL_pay_2 : decode cL_pay 2 = .ok (.aload_n 0, 1) := by decide +kernel
theorem dL_pay_3 : decode cL_pay 3 = .ok (.iload_n 1, 1) := by decide +kernel
theorem dL_pay_4 : decode cL_pay 4 = .ok (.iload_n 2, 1) := by decide +kernel
theorem dL_pay_5 : decode cL_pay 5 = .ok (.invokevirtual 34, 3) := by decide +kernel
theorem dL_pay_8 : decode cL_pay 8 = .ok (.i2l, 1) := by decide +kernel
theorem dL_pay_9 : decode cL_pay 9 = .ok (.lastore, 1) := by decide +kernel
theorem dL_pay_10 : decode cL_pay 10 = .ok (.goto 11, 3) := by decide +kernel
theorem dL_pay_13 : decode cL_pay 13 = .ok (.astore 4, 2) := by decide +kernel
theorem dL_pay_15 : decode cL_pay 15 = .ok (.iconst 1, 1) := by decide +kernel
theorem dL_pay_16 : decode cL_pay 16 = .ok (.ireturn, 1) := by decide +kernel
theorem dL_pay_17 : decode cL_pay 17 = .ok (.astore 4, 2) := by decide +kernel
theorem dL_pay_19 : decode cL_pay 19 = .ok (.iconst 2, 1) := by decide +kernel
theorem dL_pay_20 : decode cL_pay 20 = .ok (.ireturn, 1) := by decide +kernel
theorem dL_pay_21 : decode cL_pay 21 = .ok (.iconst 0, 1) := by decide +kernel
theorem dL_pay_22 : decode cL_pay 22 = .ok (.ireturn, 1) := by decide +kernel
set_option maxRecDepth 20000 in
theorem ggL_call_X4_call : GoodIn wsL_call wsX4_call := goodIn_ca (goodIn_ca (goodIn_ca (goodIn_r _ [8, 9, 10, 11, 12, 13, 14, 15, 16, 17, 18, 7, 19, 20, 21, 22, 23, 24, 25, 26, 27, 28, 29, 30, 31, 32, 33, 34, 35, 36, 37, 38, 39, 40, 41, 42, 43, 44, 45, 46, 47, 48, 49, 50, 51, 52, 53, 54, 55, 56, 57, 58, 59, 60, 61, 62, 63, 64, 65, 66, 67, 68, 69, 70, 71, 72, 73, 74, 75, 76, 77, 78, 79, 80, 81, 82, 83, 84, 85, 86, 87, 88, 89, 90, 91, 92, 93, 94, 95, 96, 97, 98, 99, 100, 101, 102, 103, 104, 105, 106, 107, 108, 109, 110, 111, 112, 113, 114, 115, 116, 117, 118, 119, 120, 121, 122, 123, 124, 125, 126, 127, 128, 129, 130, 131, 132, 133, 134, 135, 136, 137, 138, 139, 140, 141, 142, 143, 144, 145, 146, 147, 148, 149, 150, 151, 152, 153, 154, 155, 156, 157, 158, 159, 160] (by decide +kernel) (by decide +kernel)) (goodIn_sub (fun _ h => List.mem_cons_of_mem _ (List.mem_append_left _ (List.mem_append_left _ (List.mem_append_right _ h)))) (by decide +kernel))) (goodIn_sub (fun _ h => List.mem_cons_of_mem _ (List.mem_append_left _ (List.mem_append_right _ h))) (by decide +kernel))) (goodIn_sub (fun _ h => List.mem_cons_of_mem _ (List.mem_append_right _ h)) (by decide +kernel))
set_option maxRecDepth 20000 in
theorem gL_call_X4_call : GoodIn wsL_call (wsV RL 37 RX4 yX4_call wsX4_call) := goodIn_app (goodIn_of _ (by decide +kernel)) ggL_call_X4_call
theorem dL_call_0 : decode cL_call 0 = .ok (.aload 4, 2) := by decide +kernel
theorem dL_call_2 : decode cL_call 2 = .ok (.iconst 0, 1) := by decide +kernel
theorem dL_call_3 : decode cL_call 3 = .ok (.aload_n 0, 1) := by decide +kernel
theorem dL_call_4 : decode cL_call 4 = .ok (.iload_n 1, 1) := by decide +kernel
theorem dL_call_5 : decode cL_call 5 = .ok (.iload_n 2, 1) := by decide +kernel
theorem dL_call_6 : decode cL_call 6 = .ok (.iload_n 3, 1) := by decide +kernel
theorem dL_call_7 : decode cL_call 7 = .ok (.invokevirtual 37, 3) := by decide +kernel
theorem dL_call_10 : decode cL_call 10 = .ok (.i2l, 1) := by decide +kernel
theorem dL_call_11 : decode cL_call 11 = .ok (.lastore, 1) := by decide +kernel
theorem dL_call_12 : decode cL_call 12 = .ok (.goto 15, 3) := by decide +kernel
theorem dL_call_15 : decode cL_call 15 = .ok (.astore 5, 2) := by decide +kernel
theorem dL_call_17 : decode cL_call 17 = .ok (.iconst 1, 1) := by decide +kernel
theorem dL_call_18 : decode cL_call 18 = .ok (.ireturn, 1) := by decide +kernel
theorem dL_call_19 : decode cL_call 19 = .ok (.astore 5, 2) := by decide +kernel
theorem dL_call_21 : decode cL_call 21 = .ok (.iconst 2, 1) := by decide +kernel
theorem dL_call_22 : decode cL_call 22 = .ok (.ireturn, 1) := by decide +kernel
theorem dL_call_23 : decode cL_call 23 = .ok (.astore 5, 2) := by decide +kernel
theorem dL_call_25 : decode cL_call 25 = .ok (.iconst 3, 1) := by decide +kernel
theorem dL_call_26 : decode cL_call 26 = .ok (.ireturn, 1) := by decide +kernel
theorem dL_call_27 : decode cL_call 27 = .ok (.iconst 0, 1) := by decide +kernel
theorem dL_call_28 : decode cL_call 28 = .ok (.ireturn, 1) := by decide +kernel
set_option maxRecDepth 20000 in
theorem ggL_end_X4_end : GoodIn wsL_end wsX4_end := goodIn_ca (goodIn_ca (goodIn_ca (goodIn_r _ [8, 9, 10, 11, 12, 13, 14, 7, 15, 16, 17, 18, 19, 20, 21, 22, 23, 24, 25, 26, 27, 28, 29, 30, 31, 32, 33, 34, 35, 36, 37, 38, 39, 40, 41, 42, 43, 44, 45, 46, 47, 48, 49, 50, 51, 52, 53, 54, 55, 56, 57, 58, 59, 60, 61, 62, 63, 64, 65, 66, 67, 68, 69, 70, 71, 72, 73, 74, 75, 76, 77, 78, 79, 80, 81, 82, 83, 84, 85, 86, 87, 88, 89, 90, 91, 92, 93, 94, 95, 96, 97, 98, 99, 100, 101, 102, 103, 104] (by decide +kernel) (by decide +kernel)) (goodIn_sub (fun _ h => List.mem_cons_of_mem _ (List.mem_append_left _ (List.mem_append_left _ (List.mem_append_right _ h)))) (by decide +kernel))) (goodIn_sub (fun _ h => List.mem_cons_of_mem _ (List.mem_append_left _ (List.mem_append_right _ h))) (by decide +kernel))) (goodIn_sub (fun _ h => List.mem_cons_of_mem _ (List.mem_append_right _ h)) (by decide +kernel))
set_option maxRecDepth 20000 in
theorem gL_end_X4_end : GoodIn wsL_end (wsV RL 41 RX4 yX4_end wsX4_end) := goodIn_app (goodIn_of _ (by decide +kernel)) ggL_end_X4_end
theorem dL_end_0 : decode cL_end 0 = .ok (.aload_n 3, 1) := by decide +kernel
theorem dL_end_1 : decode cL_end 1 = .ok (.iconst 0, 1) := by decide +kernel
theorem dL_end_2 : decode cL_end 2 = .ok (.aload_n 0, 1) := by decide +kernel
theorem dL_end_3 : decode cL_end 3 = .ok (.iload_n 1, 1) := by decide +kernel
theorem dL_end_4 : decode cL_end 4 = .ok (.iload_n 2, 1) := by decide +kernel
theorem dL_end_5 : decode cL_end 5 = .ok (.invokevirtual 41, 3) := by decide +kernel
theorem dL_end_8 : decode cL_end 8 = .ok (.i2l, 1) := by decide +kernel
theorem dL_end_9 : decode cL_end 9 = .ok (.lastore, 1) := by decide +kernel
theorem dL_end_10 : decode cL_end 10 = .ok (.goto 15, 3) := by decide +kernel
theorem dL_end_13 : decode cL_end 13 = .ok (.astore 4, 2) := by decide +kernel
theorem dL_end_15 : decode cL_end 15 = .ok (.iconst 1, 1) := by decide +kernel
theorem dL_end_16 : decode cL_end 16 = .ok (.ireturn, 1) := by decide +kernel
theorem dL_end_17 : decode cL_end 17 = .ok (.astore 4, 2) := by decide +kernel
theorem dL_end_19 : decode cL_end 19 = .ok (.iconst 2, 1) := by decide +kernel
theorem dL_end_20 : decode cL_end 20 = .ok (.ireturn, 1) := by decide +kernel
theorem dL_end_21 : decode cL_end 21 = .ok (.astore 4, 2) := by decide +kernel
theorem dL_end_23 : decode cL_end 23 = .ok (.iconst 3, 1) := by decide +kernel
theorem dL_end_24 : decode cL_end 24 = .ok (.ireturn, 1) := by decide +kernel
theorem dL_end_25 : decode cL_end 25 = .ok (.iconst 0, 1) := by decide +kernel
theorem dL_end_26 : decode cL_end 26 = .ok (.ireturn, 1) := by decide +kernel
set_option maxRecDepth 20000 in
theorem ggL_dispute_X4_dispute : GoodIn wsL_dispute wsX4_dispute := goodIn_ca (goodIn_ca (goodIn_r _ [7, 8, 9, 10, 11, 12, 13, 6, 14, 15, 16, 17, 18, 19, 20, 21, 22, 23, 24, 25, 26, 27, 28, 29, 30, 31, 32, 33, 34, 35, 36, 37, 38, 39, 40, 41, 42, 43, 44, 45, 46, 47, 48, 49, 50, 51, 52, 53, 54, 55, 56, 57, 58, 59, 60, 61, 62, 63, 64, 65, 66, 67, 68, 69, 70, 71, 72, 73, 74, 75, 76, 77, 78, 79, 80, 81, 82, 83, 84, 85, 86, 87] (by decide +kernel) (by decide +kernel)) (goodIn_sub (fun _ h => List.mem_cons_of_mem _ (List.mem_append_left _ (List.mem_append_right _ h))) (by decide +kernel))) (goodIn_sub (fun _ h => List.mem_cons_of_mem _ (List.mem_append_right _ h)) (by decide +kernel))
set_option maxRecDepth 20000 in
theorem gL_dispute_X4_dispute : GoodIn wsL_dispute (wsV RL 44 RX4 yX4_dispute wsX4_dispute) := goodIn_app (goodIn_of _ (by decide +kernel)) ggL_dispute_X4_dispute
theorem dL_dispute_0 : decode cL_dispute 0 = .ok (.aload_n 2, 1) := by decide +kernel
theorem dL_dispute_1 : decode cL_dispute 1 = .ok (.iconst 0, 1) := by decide +kernel
theorem dL_dispute_2 : decode cL_dispute 2 = .ok (.aload_n 0, 1) := by decide +kernel
theorem dL_dispute_3 : decode cL_dispute 3 = .ok (.iload_n 1, 1) := by decide +kernel
theorem dL_dispute_4 : decode cL_dispute 4 = .ok (.invokevirtual 44, 3) := by decide +kernel
theorem dL_dispute_7 : decode cL_dispute 7 = .ok (.i2l, 1) := by decide +kernel
theorem dL_dispute_8 : decode cL_dispute 8 = .ok (.lastore, 1) := by decide +kernel
theorem dL_dispute_9 : decode cL_dispute 9 = .ok (.goto 9, 3) := by decide +kernel
theorem dL_dispute_12 : decode cL_dispute 12 = .ok (.astore_n 3, 1) := by decide +kernel
theorem dL_dispute_13 : decode cL_dispute 13 = .ok (.iconst 1, 1) := by decide +kernel
theorem dL_dispute_14 : decode cL_dispute 14 = .ok (.ireturn, 1) := by decide +kernel
theorem dL_dispute_15 : decode cL_dispute 15 = .ok (.astore_n 3, 1) := by decide +kernel
theorem dL_dispute_16 : decode cL_dispute 16 = .ok (.iconst 2, 1) := by decide +kernel
theorem dL_dispute_17 : decode cL_dispute 17 = .ok (.ireturn, 1) := by decide +kernel
theorem dL_dispute_18 : decode cL_dispute 18 = .ok (.iconst 0, 1) := by decide +kernel
theorem dL_dispute_19 : decode cL_dispute 19 = .ok (.ireturn, 1) := by decide +kernel
set_option maxRecDepth 20000 in
theorem ggL_pass_X4_pass : GoodIn wsL_pass wsX4_pass := goodIn_ca (goodIn_r _ [6, 7, 8, 9, 5, 10, 11, 12, 13, 14, 15, 16, 17, 18, 19, 20, 21, 22, 23, 24, 25, 26, 27, 28, 29, 30, 31, 32, 33, 34, 35, 36, 37, 38, 39, 40, 41, 42, 43, 44, 45, 46, 47, 48, 49, 50, 51, 52, 53, 54, 55, 56, 57, 58, 59, 60, 61, 62, 63, 64, 65, 66, 67, 68, 69, 70, 71, 72, 73, 74, 75, 76, 77, 78, 79, 80, 81, 82, 83, 84, 85, 86, 87, 88, 89, 90, 91, 92, 93, 94, 95, 96, 97, 98, 99, 100, 101, 102, 103, 104, 105, 106, 107, 108, 109, 110, 111, 112, 113, 114, 115, 116, 117, 118] (by decide +kernel) (by decide +kernel)) (goodIn_sub (fun _ h => List.mem_cons_of_mem _ (List.mem_append_right _ h)) (by decide +kernel))
set_option maxRecDepth 20000 in
theorem gL_pass_X4_pass : GoodIn wsL_pass (wsV RL 47 RX4 yX4_pass wsX4_pass) := goodIn_app (goodIn_of _ (by decide +kernel)) ggL_pass_X4_pass
theorem dL_pass_0 : decode cL_pass 0 = .ok (.aload_n 2, 1) := by decide +kernel
theorem dL_pass_1 : decode cL_pass 1 = .ok (.iconst 0, 1) := by decide +kernel
theorem dL_pass_2 : decode cL_pass 2 = .ok (.aload_n 0, 1) := by decide +kernel
theorem dL_pass_3 : decode cL_pass 3 = .ok (.iload_n 1, 1) := by decide +kernel
theorem dL_pass_4 : decode cL_pass 4 = .ok (.invokevirtual 47, 3) := by decide +kernel
theorem dL_pass_7 : decode cL_pass 7 = .ok (.i2l, 1) := by decide +kernel
theorem dL_pass_8 : decode cL_pass 8 = .ok (.lastore, 1) := by decide +kernel
theorem dL_pass_9 : decode cL_pass 9 = .ok (.goto 6, 3) := by decide +kernel
theorem dL_pass_12 : decode cL_pass 12 = .ok (.astore_n 3, 1) := by decide +kernel
theorem dL_pass_13 : decode cL_pass 13 = .ok (.iconst 1, 1) := by decide +kernel
theorem dL_pass_14 : decode cL_pass 14 = .ok (.ireturn, 1) := by decide +kernel
theorem dL_pass_15 : decode cL_pass 15 = .ok (.iconst 0, 1) := by decide +kernel
theorem dL_pass_16 : decode cL_pass 16 = .ok (.ireturn, 1) := by decide +kernel
set_option maxRecDepth 20000 in
theorem ggL_credit_X4_credit : GoodIn wsL_credit wsX4_credit := goodIn_ca (goodIn_r _ [6, 7, 8, 9, 5, 10, 11, 12, 13, 14, 15, 16, 17, 18, 19, 20, 21, 22, 23, 24, 25, 26, 27, 28, 29, 30, 31, 32, 33, 34, 35, 36, 37, 38, 39, 40, 41, 42, 43, 44, 45, 46, 47, 48, 49, 50, 51, 52, 53, 54, 55] (by decide +kernel) (by decide +kernel)) (goodIn_sub (fun _ h => List.mem_cons_of_mem _ (List.mem_append_right _ h)) (by decide +kernel))
set_option maxRecDepth 20000 in
theorem gL_credit_X4_credit : GoodIn wsL_credit (wsV RL 50 RX4 yX4_credit wsX4_credit) := goodIn_app (goodIn_of _ (by decide +kernel)) ggL_credit_X4_credit
theorem dL_credit_0 : decode cL_credit 0 = .ok (.aload_n 2, 1) := by decide +kernel
theorem dL_credit_1 : decode cL_credit 1 = .ok (.iconst 0, 1) := by decide +kernel
theorem dL_credit_2 : decode cL_credit 2 = .ok (.aload_n 0, 1) := by decide +kernel
theorem dL_credit_3 : decode cL_credit 3 = .ok (.iload_n 1, 1) := by decide +kernel
theorem dL_credit_4 : decode cL_credit 4 = .ok (.invokevirtual 50, 3) := by decide +kernel
theorem dL_credit_7 : decode cL_credit 7 = .ok (.i2l, 1) := by decide +kernel
theorem dL_credit_8 : decode cL_credit 8 = .ok (.lastore, 1) := by decide +kernel
theorem dL_credit_9 : decode cL_credit 9 = .ok (.goto 6, 3) := by decide +kernel
theorem dL_credit_12 : decode cL_credit 12 = .ok (.astore_n 3, 1) := by decide +kernel
theorem dL_credit_13 : decode cL_credit 13 = .ok (.iconst 1, 1) := by decide +kernel
theorem dL_credit_14 : decode cL_credit 14 = .ok (.ireturn, 1) := by decide +kernel
theorem dL_credit_15 : decode cL_credit 15 = .ok (.iconst 0, 1) := by decide +kernel
theorem dL_credit_16 : decode cL_credit 16 = .ok (.ireturn, 1) := by decide +kernel
set_option maxRecDepth 20000 in
theorem ggL_debt_X4_debt : GoodIn wsL_debt wsX4_debt := goodIn_ca (goodIn_r _ [6, 7, 8, 9, 5, 10, 11, 12, 13, 14, 15, 16, 17, 18, 19, 20, 21, 22, 23, 24, 25, 26, 27, 28, 29, 30, 31, 32, 33, 34, 35, 36, 37, 38, 39, 40, 41, 42, 43, 44, 45, 46, 47, 48, 49, 50, 51, 52, 53, 54, 55] (by decide +kernel) (by decide +kernel)) (goodIn_sub (fun _ h => List.mem_cons_of_mem _ (List.mem_append_right _ h)) (by decide +kernel))
set_option maxRecDepth 20000 in
theorem gL_debt_X4_debt : GoodIn wsL_debt (wsV RL 53 RX4 yX4_debt wsX4_debt) := goodIn_app (goodIn_of _ (by decide +kernel)) ggL_debt_X4_debt
theorem dL_debt_0 : decode cL_debt 0 = .ok (.aload_n 2, 1) := by decide +kernel
theorem dL_debt_1 : decode cL_debt 1 = .ok (.iconst 0, 1) := by decide +kernel
theorem dL_debt_2 : decode cL_debt 2 = .ok (.aload_n 0, 1) := by decide +kernel
theorem dL_debt_3 : decode cL_debt 3 = .ok (.iload_n 1, 1) := by decide +kernel
theorem dL_debt_4 : decode cL_debt 4 = .ok (.invokevirtual 53, 3) := by decide +kernel
theorem dL_debt_7 : decode cL_debt 7 = .ok (.i2l, 1) := by decide +kernel
theorem dL_debt_8 : decode cL_debt 8 = .ok (.lastore, 1) := by decide +kernel
theorem dL_debt_9 : decode cL_debt 9 = .ok (.goto 6, 3) := by decide +kernel
theorem dL_debt_12 : decode cL_debt 12 = .ok (.astore_n 3, 1) := by decide +kernel
theorem dL_debt_13 : decode cL_debt 13 = .ok (.iconst 1, 1) := by decide +kernel
theorem dL_debt_14 : decode cL_debt 14 = .ok (.ireturn, 1) := by decide +kernel
theorem dL_debt_15 : decode cL_debt 15 = .ok (.iconst 0, 1) := by decide +kernel
theorem dL_debt_16 : decode cL_debt 16 = .ok (.ireturn, 1) := by decide +kernel
set_option maxRecDepth 20000 in
theorem ggL_held_X4_held : GoodIn wsL_held wsX4_held := goodIn_ca (goodIn_r _ [6, 7, 8, 9, 5, 10, 11, 12, 13, 14, 15, 16, 17, 18, 19, 20, 21, 22, 23, 24, 25, 26, 27, 28, 29, 30, 31, 32, 33, 34, 35, 36, 37, 38, 39, 40, 41, 42, 43, 44, 45, 46, 47, 48, 49, 50, 51, 52, 53, 54, 55] (by decide +kernel) (by decide +kernel)) (goodIn_sub (fun _ h => List.mem_cons_of_mem _ (List.mem_append_right _ h)) (by decide +kernel))
set_option maxRecDepth 20000 in
theorem gL_held_X4_held : GoodIn wsL_held (wsV RL 56 RX4 yX4_held wsX4_held) := goodIn_app (goodIn_of _ (by decide +kernel)) ggL_held_X4_held
theorem dL_held_0 : decode cL_held 0 = .ok (.aload_n 2, 1) := by decide +kernel
theorem dL_held_1 : decode cL_held 1 = .ok (.iconst 0, 1) := by decide +kernel
theorem dL_held_2 : decode cL_held 2 = .ok (.aload_n 0, 1) := by decide +kernel
theorem dL_held_3 : decode cL_held 3 = .ok (.iload_n 1, 1) := by decide +kernel
theorem dL_held_4 : decode cL_held 4 = .ok (.invokevirtual 56, 3) := by decide +kernel
theorem dL_held_7 : decode cL_held 7 = .ok (.i2l, 1) := by decide +kernel
theorem dL_held_8 : decode cL_held 8 = .ok (.lastore, 1) := by decide +kernel
theorem dL_held_9 : decode cL_held 9 = .ok (.goto 6, 3) := by decide +kernel
theorem dL_held_12 : decode cL_held 12 = .ok (.astore_n 3, 1) := by decide +kernel
theorem dL_held_13 : decode cL_held 13 = .ok (.iconst 1, 1) := by decide +kernel
theorem dL_held_14 : decode cL_held 14 = .ok (.ireturn, 1) := by decide +kernel
theorem dL_held_15 : decode cL_held 15 = .ok (.iconst 0, 1) := by decide +kernel
theorem dL_held_16 : decode cL_held 16 = .ok (.ireturn, 1) := by decide +kernel
set_option maxRecDepth 20000 in
theorem ggL_tokens_X4_tokens : GoodIn wsL_tokens wsX4_tokens := goodIn_ca (goodIn_r _ [6, 7, 8, 9, 5, 10, 11, 12, 13, 14, 15, 16, 17, 18, 19, 20, 21, 22, 23, 24, 25, 26, 27, 28, 29, 30, 31, 32, 33, 34, 35, 36, 37, 38, 39, 40, 41, 42, 43, 44, 45, 46, 47, 48, 49, 50, 51, 52, 53, 54, 55] (by decide +kernel) (by decide +kernel)) (goodIn_sub (fun _ h => List.mem_cons_of_mem _ (List.mem_append_right _ h)) (by decide +kernel))
set_option maxRecDepth 20000 in
theorem gL_tokens_X4_tokens : GoodIn wsL_tokens (wsV RL 59 RX4 yX4_tokens wsX4_tokens) := goodIn_app (goodIn_of _ (by decide +kernel)) ggL_tokens_X4_tokens
theorem dL_tokens_0 : decode cL_tokens 0 = .ok (.aload_n 2, 1) := by decide +kernel
theorem dL_tokens_1 : decode cL_tokens 1 = .ok (.iconst 0, 1) := by decide +kernel
theorem dL_tokens_2 : decode cL_tokens 2 = .ok (.aload_n 0, 1) := by decide +kernel
theorem dL_tokens_3 : decode cL_tokens 3 = .ok (.iload_n 1, 1) := by decide +kernel
theorem dL_tokens_4 : decode cL_tokens 4 = .ok (.invokevirtual 59, 3) := by decide +kernel
theorem dL_tokens_7 : decode cL_tokens 7 = .ok (.i2l, 1) := by decide +kernel
theorem dL_tokens_8 : decode cL_tokens 8 = .ok (.lastore, 1) := by decide +kernel
theorem dL_tokens_9 : decode cL_tokens 9 = .ok (.goto 6, 3) := by decide +kernel
theorem dL_tokens_12 : decode cL_tokens 12 = .ok (.astore_n 3, 1) := by decide +kernel
theorem dL_tokens_13 : decode cL_tokens 13 = .ok (.iconst 1, 1) := by decide +kernel
theorem dL_tokens_14 : decode cL_tokens 14 = .ok (.ireturn, 1) := by decide +kernel
theorem dL_tokens_15 : decode cL_tokens 15 = .ok (.iconst 0, 1) := by decide +kernel
theorem dL_tokens_16 : decode cL_tokens 16 = .ok (.ireturn, 1) := by decide +kernel
set_option maxRecDepth 20000 in
theorem ggL_isSlowed_X4_isSlowed : GoodIn wsL_isSlowed wsX4_isSlowed := goodIn_ca (goodIn_r _ [6, 7, 8, 9, 5, 10, 11, 12, 13, 14, 15, 16, 17, 18, 19, 20, 21, 22, 23, 24, 25, 26, 27, 28, 29, 30, 31, 32, 33, 34, 35, 36, 37, 38, 39, 40, 41, 42, 43, 44, 45, 46, 47, 48, 49, 50, 51, 52, 53, 54, 55, 56, 57, 58, 59, 60, 61] (by decide +kernel) (by decide +kernel)) (goodIn_sub (fun _ h => List.mem_cons_of_mem _ (List.mem_append_right _ h)) (by decide +kernel))
set_option maxRecDepth 20000 in
theorem gL_isSlowed_X4_isSlowed : GoodIn wsL_isSlowed (wsV RL 62 RX4 yX4_isSlowed wsX4_isSlowed) := goodIn_app (goodIn_of _ (by decide +kernel)) ggL_isSlowed_X4_isSlowed
theorem dL_isSlowed_0 : decode cL_isSlowed 0 = .ok (.aload_n 2, 1) := by decide +kernel
theorem dL_isSlowed_1 : decode cL_isSlowed 1 = .ok (.iconst 0, 1) := by decide +kernel
theorem dL_isSlowed_2 : decode cL_isSlowed 2 = .ok (.aload_n 0, 1) := by decide +kernel
theorem dL_isSlowed_3 : decode cL_isSlowed 3 = .ok (.iload_n 1, 1) := by decide +kernel
theorem dL_isSlowed_4 : decode cL_isSlowed 4 = .ok (.invokevirtual 62, 3) := by decide +kernel
theorem dL_isSlowed_7 : decode cL_isSlowed 7 = .ok (.ifCond .eq 7, 3) := by decide +kernel
theorem dL_isSlowed_10 : decode cL_isSlowed 10 = .ok (.lconst 1, 1) := by decide +kernel
theorem dL_isSlowed_11 : decode cL_isSlowed 11 = .ok (.goto 4, 3) := by decide +kernel
theorem dL_isSlowed_14 : decode cL_isSlowed 14 = .ok (.lconst 0, 1) := by decide +kernel
theorem dL_isSlowed_15 : decode cL_isSlowed 15 = .ok (.lastore, 1) := by decide +kernel
theorem dL_isSlowed_16 : decode cL_isSlowed 16 = .ok (.goto 6, 3) := by decide +kernel
theorem dL_isSlowed_19 : decode cL_isSlowed 19 = .ok (.astore_n 3, 1) := by decide +kernel
theorem dL_isSlowed_20 : decode cL_isSlowed 20 = .ok (.iconst 1, 1) := by decide +kernel
theorem dL_isSlowed_21 : decode cL_isSlowed 21 = .ok (.ireturn, 1) := by decide +kernel
theorem dL_isSlowed_22 : decode cL_isSlowed 22 = .ok (.iconst 0, 1) := by decide +kernel
theorem dL_isSlowed_23 : decode cL_isSlowed 23 = .ok (.ireturn, 1) := by decide +kernel
set_option maxRecDepth 20000 in
theorem ggL_cost_X4_cost : GoodIn wsL_cost wsX4_cost := goodIn_ca (goodIn_r _ [6, 7, 8, 9, 5, 10, 11, 12, 13, 14, 15, 16, 17, 18, 19, 20, 21, 22, 23, 24, 25, 26, 27, 28, 29, 30, 31, 32, 33, 34, 35, 36, 37, 38, 39, 40, 41, 42, 43, 44, 45, 46, 47, 48, 49, 50, 51, 52, 53] (by decide +kernel) (by decide +kernel)) (goodIn_sub (fun _ h => List.mem_cons_of_mem _ (List.mem_append_right _ h)) (by decide +kernel))
set_option maxRecDepth 20000 in
theorem gL_cost_X4_cost : GoodIn wsL_cost (wsV RL 66 RX4 yX4_cost wsX4_cost) := goodIn_app (goodIn_of _ (by decide +kernel)) ggL_cost_X4_cost
theorem dL_cost_0 : decode cL_cost 0 = .ok (.aload_n 2, 1) := by decide +kernel
theorem dL_cost_1 : decode cL_cost 1 = .ok (.iconst 0, 1) := by decide +kernel
theorem dL_cost_2 : decode cL_cost 2 = .ok (.aload_n 0, 1) := by decide +kernel
theorem dL_cost_3 : decode cL_cost 3 = .ok (.iload_n 1, 1) := by decide +kernel
theorem dL_cost_4 : decode cL_cost 4 = .ok (.invokevirtual 66, 3) := by decide +kernel
theorem dL_cost_7 : decode cL_cost 7 = .ok (.i2l, 1) := by decide +kernel
theorem dL_cost_8 : decode cL_cost 8 = .ok (.lastore, 1) := by decide +kernel
theorem dL_cost_9 : decode cL_cost 9 = .ok (.goto 6, 3) := by decide +kernel
theorem dL_cost_12 : decode cL_cost 12 = .ok (.astore_n 3, 1) := by decide +kernel
theorem dL_cost_13 : decode cL_cost 13 = .ok (.iconst 1, 1) := by decide +kernel
theorem dL_cost_14 : decode cL_cost 14 = .ok (.ireturn, 1) := by decide +kernel
theorem dL_cost_15 : decode cL_cost 15 = .ok (.iconst 0, 1) := by decide +kernel
theorem dL_cost_16 : decode cL_cost 16 = .ok (.ireturn, 1) := by decide +kernel
set_option maxRecDepth 20000 in
theorem ggL_spent_X4_spent : GoodIn wsL_spent wsX4_spent := goodIn_ca (goodIn_r _ [6, 7, 8, 9, 5, 10, 11, 12, 13, 14, 15, 16, 17, 18, 19, 20, 21, 22, 23, 24, 25, 26, 27, 28, 29, 30, 31, 32, 33, 34, 35, 36, 37, 38, 39, 40, 41, 42, 43, 44, 45, 46, 47, 48, 49, 50, 51, 52, 53, 54, 55] (by decide +kernel) (by decide +kernel)) (goodIn_sub (fun _ h => List.mem_cons_of_mem _ (List.mem_append_right _ h)) (by decide +kernel))
set_option maxRecDepth 20000 in
theorem gL_spent_X4_spent : GoodIn wsL_spent (wsV RL 69 RX4 yX4_spent wsX4_spent) := goodIn_app (goodIn_of _ (by decide +kernel)) ggL_spent_X4_spent
theorem dL_spent_0 : decode cL_spent 0 = .ok (.aload_n 2, 1) := by decide +kernel
theorem dL_spent_1 : decode cL_spent 1 = .ok (.iconst 0, 1) := by decide +kernel
theorem dL_spent_2 : decode cL_spent 2 = .ok (.aload_n 0, 1) := by decide +kernel
theorem dL_spent_3 : decode cL_spent 3 = .ok (.iload_n 1, 1) := by decide +kernel
theorem dL_spent_4 : decode cL_spent 4 = .ok (.invokevirtual 69, 3) := by decide +kernel
theorem dL_spent_7 : decode cL_spent 7 = .ok (.i2l, 1) := by decide +kernel
theorem dL_spent_8 : decode cL_spent 8 = .ok (.lastore, 1) := by decide +kernel
theorem dL_spent_9 : decode cL_spent 9 = .ok (.goto 6, 3) := by decide +kernel
theorem dL_spent_12 : decode cL_spent 12 = .ok (.astore_n 3, 1) := by decide +kernel
theorem dL_spent_13 : decode cL_spent 13 = .ok (.iconst 1, 1) := by decide +kernel
theorem dL_spent_14 : decode cL_spent 14 = .ok (.ireturn, 1) := by decide +kernel
theorem dL_spent_15 : decode cL_spent 15 = .ok (.iconst 0, 1) := by decide +kernel
theorem dL_spent_16 : decode cL_spent 16 = .ok (.ireturn, 1) := by decide +kernel
set_option maxRecDepth 20000 in
theorem ggL_paid_X4_paid : GoodIn wsL_paid wsX4_paid := goodIn_ca (goodIn_r _ [6, 7, 8, 9, 5, 10, 11, 12, 13, 14, 15, 16, 17, 18, 19, 20, 21, 22, 23, 24, 25, 26, 27, 28, 29, 30, 31, 32, 33, 34, 35, 36, 37, 38, 39, 40, 41, 42, 43, 44, 45, 46, 47, 48, 49, 50, 51, 52, 53, 54, 55] (by decide +kernel) (by decide +kernel)) (goodIn_sub (fun _ h => List.mem_cons_of_mem _ (List.mem_append_right _ h)) (by decide +kernel))
set_option maxRecDepth 20000 in
theorem gL_paid_X4_paid : GoodIn wsL_paid (wsV RL 72 RX4 yX4_paid wsX4_paid) := goodIn_app (goodIn_of _ (by decide +kernel)) ggL_paid_X4_paid
theorem dL_paid_0 : decode cL_paid 0 = .ok (.aload_n 2, 1) := by decide +kernel
theorem dL_paid_1 : decode cL_paid 1 = .ok (.iconst 0, 1) := by decide +kernel
theorem dL_paid_2 : decode cL_paid 2 = .ok (.aload_n 0, 1) := by decide +kernel
theorem dL_paid_3 : decode cL_paid 3 = .ok (.iload_n 1, 1) := by decide +kernel
theorem dL_paid_4 : decode cL_paid 4 = .ok (.invokevirtual 72, 3) := by decide +kernel
theorem dL_paid_7 : decode cL_paid 7 = .ok (.i2l, 1) := by decide +kernel
theorem dL_paid_8 : decode cL_paid 8 = .ok (.lastore, 1) := by decide +kernel
theorem dL_paid_9 : decode cL_paid 9 = .ok (.goto 6, 3) := by decide +kernel
theorem dL_paid_12 : decode cL_paid 12 = .ok (.astore_n 3, 1) := by decide +kernel
theorem dL_paid_13 : decode cL_paid 13 = .ok (.iconst 1, 1) := by decide +kernel
theorem dL_paid_14 : decode cL_paid 14 = .ok (.ireturn, 1) := by decide +kernel
theorem dL_paid_15 : decode cL_paid 15 = .ok (.iconst 0, 1) := by decide +kernel
theorem dL_paid_16 : decode cL_paid 16 = .ok (.ireturn, 1) := by decide +kernel
set_option maxRecDepth 20000 in
theorem ggL_law_X4_init : GoodIn wsL_law wsX4_init := goodIn_r _ [9, 10, 11, 12, 13, 14, 15, 16, 17, 18, 19, 20, 21, 22, 23, 24, 25, 26, 27, 28, 29, 30, 31, 32, 33, 34, 35, 36, 37, 38, 39, 40, 41, 42, 43, 44, 45, 46, 47, 48, 49, 50, 51, 52, 519, 520, 521, 522, 523, 524, 548, 549, 550, 551, 552, 553, 554, 555, 556] (by decide +kernel) (by decide +kernel)
set_option maxRecDepth 20000 in
theorem gL_law_X4_init : GoodIn wsL_law (wsX4_init) := ggL_law_X4_init
set_option maxRecDepth 20000 in
theorem ggL_law_X5_init : GoodIn wsL_law wsX5_init := goodIn_r _ [55, 56, 11, 12, 57, 58, 59, 60, 61, 62, 63, 64, 65, 66, 67, 68, 69, 70, 71, 72, 73, 74, 75, 76, 77, 525, 526, 527, 528, 529, 530, 531, 532, 533, 534, 535, 536, 537, 538, 539, 540, 541, 542, 543, 544, 545, 546, 547] (by decide +kernel) (by decide +kernel)
set_option maxRecDepth 20000 in
theorem gL_law_X5_init : GoodIn wsL_law (wsX5_init) := ggL_law_X5_init
set_option maxRecDepth 20000 in
theorem ggL_law_L_setPlan : GoodIn wsL_law wsL_setPlan := goodIn_ca (goodIn_r _ [81, 82, 83, 84, 85, 2, 86, 87, 88, 89, 90, 91, 92, 14, 93, 94, 95, 551, 552, 553, 554, 519, 520, 521, 522, 523, 524] (by decide +kernel) (by decide +kernel)) (goodIn_sub (fun _ h => List.mem_append_left _ (List.mem_append_left _ (List.mem_append_right _ h))) (by decide +kernel))
set_option maxRecDepth 20000 in
theorem gL_law_L_setPlan : GoodIn wsL_law (va_wsS RL 79 yL_setPlan wsL_setPlan) := goodIn_app (goodIn_of _ (by decide +kernel)) ggL_law_L_setPlan
set_option maxRecDepth 20000 in
theorem ggL_law_X5_setPlan : GoodIn wsL_law wsX5_setPlan := goodIn_r _ [99, 58, 59, 60, 100, 101, 5, 102, 103, 104, 105, 106, 107, 108, 109, 110, 525, 526, 527, 528, 529, 530, 531, 532, 533, 534, 535, 536, 537, 538, 539, 540, 541, 542, 543, 544, 545, 546, 547] (by decide +kernel) (by decide +kernel)
set_option maxRecDepth 20000 in
theorem gL_law_X5_setPlan : GoodIn wsL_law (wsV RL 84 RX5 yX5_setPlan wsX5_setPlan) := goodIn_app (goodIn_of _ (by decide +kernel)) ggL_law_X5_setPlan
set_option maxRecDepth 20000 in
theorem ggL_law_X5_thrown : GoodIn wsL_law wsX5_thrown := goodIn_r _ [114, 110, 525, 526, 527, 528, 529, 530, 531, 532, 533, 534, 535, 536, 537, 538, 539, 540, 541, 542, 543, 544, 545, 546, 547] (by decide +kernel) (by decide +kernel)
set_option maxRecDepth 20000 in
theorem gL_law_X5_thrown : GoodIn wsL_law (wsV RL 85 RX5 yX5_thrown wsX5_thrown) := goodIn_app (goodIn_of _ (by decide +kernel)) ggL_law_X5_thrown
set_option maxRecDepth 20000 in
theorem ggL_law_L_setRoute : GoodIn wsL_law wsL_setRoute := goodIn_ca (goodIn_r _ [117, 82, 118, 119, 120, 2, 121, 122, 123, 124, 125, 91, 92, 16, 93, 94, 95, 555, 556, 519, 520, 521, 522, 523, 524] (by decide +kernel) (by decide +kernel)) (goodIn_sub (fun _ h => List.mem_append_left _ (List.mem_append_left _ (List.mem_append_right _ h))) (by decide +kernel))
set_option maxRecDepth 20000 in
theorem gL_law_L_setRoute : GoodIn wsL_law (va_wsS RL 89 yL_setRoute wsL_setRoute) := goodIn_app (goodIn_of _ (by decide +kernel)) ggL_law_L_setRoute
set_option maxRecDepth 20000 in
theorem ggL_law_X5_setRoute : GoodIn wsL_law wsX5_setRoute := goodIn_r _ [129, 61, 62, 130, 131, 5, 132, 103, 104, 105, 106, 107, 108, 109, 110, 525, 526, 527, 528, 529, 530, 531, 532, 533, 534, 535, 536, 537, 538, 539, 540, 541, 542, 543, 544, 545, 546, 547] (by decide +kernel) (by decide +kernel)
set_option maxRecDepth 20000 in
theorem gL_law_X5_setRoute : GoodIn wsL_law (wsV RL 92 RX5 yX5_setRoute wsX5_setRoute) := goodIn_app (goodIn_of _ (by decide +kernel)) ggL_law_X5_setRoute
set_option maxRecDepth 20000 in
theorem ggL_law_L_addKey : GoodIn wsL_law wsL_addKey := goodIn_ca (goodIn_ca (goodIn_r _ [135, 82, 136, 137, 138, 139, 2, 140, 141, 142, 20, 143, 144, 145, 87, 88, 89, 90, 91, 92, 14, 146, 147, 148, 19, 149, 150, 151, 152, 153, 11, 12, 154, 155, 156, 157, 158, 159, 160, 161, 30, 162, 163, 164, 165, 166, 167, 168, 169, 170, 171, 172, 173, 29, 174, 175, 176, 177, 178, 179, 180, 181, 182, 183, 184, 185, 186, 187, 188, 189, 190, 191, 192, 193, 194, 195, 196, 197, 198, 199, 200, 201, 202, 203, 204, 205, 206, 207, 519, 520, 521, 522, 523, 524, 557, 558, 559, 560, 561, 562, 563, 564, 565, 548, 549, 550, 551, 552, 553, 554] (by decide +kernel) (by decide +kernel)) (goodIn_sub (fun _ h => List.mem_append_left _ (List.mem_append_right _ h)) (by decide +kernel))) (goodIn_sub (fun _ h => List.mem_append_left _ (List.mem_append_left _ (List.mem_append_right _ h))) (by decide +kernel))
set_option maxRecDepth 20000 in
theorem gL_law_L_addKey : GoodIn wsL_law (va_wsS RL 93 yL_addKey wsL_addKey) := goodIn_app (goodIn_of _ (by decide +kernel)) ggL_law_L_addKey
set_option maxRecDepth 20000 in
theorem ggL_law_X5_addKey : GoodIn wsL_law wsX5_addKey := goodIn_r _ [211, 212, 63, 67, 58, 100, 101, 5, 102, 103, 104, 105, 106, 107, 108, 109, 110, 525, 526, 527, 528, 529, 530, 531, 532, 533, 534, 535, 536, 537, 538, 539, 540, 541, 542, 543, 544, 545, 546, 547] (by decide +kernel) (by decide +kernel)
set_option maxRecDepth 20000 in
theorem gL_law_X5_addKey : GoodIn wsL_law (wsV RL 96 RX5 yX5_addKey wsX5_addKey) := goodIn_app (goodIn_of _ (by decide +kernel)) ggL_law_X5_addKey
set_option maxRecDepth 20000 in
theorem ggL_law_L_setKeyPlan : GoodIn wsL_law wsL_setKeyPlan := goodIn_ca (goodIn_ca (goodIn_r _ [215, 216, 82, 217, 218, 219, 2, 220, 221, 222, 223, 224, 225, 226, 20, 227, 146, 147, 148, 19, 149, 150, 228, 229, 230, 231, 232, 233, 234, 235, 236, 237, 238, 239, 240, 241, 242, 243, 30, 87, 88, 89, 90, 91, 92, 14, 557, 558, 559, 560, 561, 562, 563, 564, 565, 551, 552, 553, 554, 519, 520, 521, 522, 523, 524, 548, 549, 550] (by decide +kernel) (by decide +kernel)) (goodIn_sub (fun _ h => List.mem_append_right _ h) (by decide +kernel))) (goodIn_sub (fun _ h => List.mem_append_left _ (List.mem_append_left _ (List.mem_append_right _ h))) (by decide +kernel))
set_option maxRecDepth 20000 in
theorem gL_law_L_setKeyPlan : GoodIn wsL_law (va_wsS RL 97 yL_setKeyPlan wsL_setKeyPlan) := goodIn_app (goodIn_of _ (by decide +kernel)) ggL_law_L_setKeyPlan
set_option maxRecDepth 20000 in
theorem ggL_law_X5_setKeyPlan : GoodIn wsL_law wsX5_setKeyPlan := goodIn_r _ [247, 63, 248, 249, 250, 5, 251, 212, 103, 104, 105, 100, 101, 102, 106, 107, 108, 109, 110, 525, 526, 527, 528, 529, 530, 531, 532, 533, 534, 535, 536, 537, 538, 539, 540, 541, 542, 543, 544, 545, 546, 547] (by decide +kernel) (by decide +kernel)
set_option maxRecDepth 20000 in
theorem gL_law_X5_setKeyPlan : GoodIn wsL_law (wsV RL 100 RX5 yX5_setKeyPlan wsX5_setKeyPlan) := goodIn_app (goodIn_of _ (by decide +kernel)) ggL_law_X5_setKeyPlan
set_option maxRecDepth 20000 in
theorem ggL_law_L_setTrust : GoodIn wsL_law wsL_setTrust := goodIn_ca (goodIn_ca (goodIn_r _ [254, 216, 82, 255, 256, 257, 2, 258, 221, 222, 223, 224, 225, 226, 20, 227, 146, 147, 148, 19, 149, 150, 228, 229, 230, 231, 232, 233, 234, 235, 236, 237, 238, 239, 240, 241, 242, 243, 30, 93, 94, 95, 91, 92, 557, 558, 559, 560, 561, 562, 563, 564, 565, 519, 520, 521, 522, 523, 524, 548, 549, 550] (by decide +kernel) (by decide +kernel)) (goodIn_sub (fun _ h => List.mem_append_right _ h) (by decide +kernel))) (goodIn_sub (fun _ h => List.mem_append_left _ (List.mem_append_left _ (List.mem_append_right _ h))) (by decide +kernel))
set_option maxRecDepth 20000 in
theorem gL_law_L_setTrust : GoodIn wsL_law (va_wsS RL 101 yL_setTrust wsL_setTrust) := goodIn_app (goodIn_of _ (by decide +kernel)) ggL_law_L_setTrust
set_option maxRecDepth 20000 in
theorem ggL_law_X5_setTrust : GoodIn wsL_law wsX5_setTrust := goodIn_r _ [262, 65, 248, 249, 250, 5, 251, 212, 103, 104, 105, 106, 107, 108, 109, 110, 525, 526, 527, 528, 529, 530, 531, 532, 533, 534, 535, 536, 537, 538, 539, 540, 541, 542, 543, 544, 545, 546, 547] (by decide +kernel) (by decide +kernel)
set_option maxRecDepth 20000 in
theorem gL_law_X5_setTrust : GoodIn wsL_law (wsV RL 103 RX5 yX5_setTrust wsX5_setTrust) := goodIn_app (goodIn_of _ (by decide +kernel)) ggL_law_X5_setTrust
set_option maxRecDepth 20000 in
theorem ggL_law_L_pay : GoodIn wsL_law wsL_pay := goodIn_ca (goodIn_ca (goodIn_r _ [265, 216, 82, 266, 267, 268, 2, 269, 270, 221, 222, 223, 224, 225, 226, 20, 227, 146, 147, 148, 19, 149, 150, 228, 229, 230, 231, 232, 233, 234, 235, 236, 237, 238, 239, 240, 241, 242, 243, 30, 93, 94, 95, 91, 92, 271, 145, 272, 273, 274, 275, 202, 176, 203, 276, 557, 558, 559, 560, 561, 562, 563, 564, 565, 519, 520, 521, 522, 523, 524, 548, 549, 550] (by decide +kernel) (by decide +kernel)) (goodIn_sub (fun _ h => List.mem_append_right _ h) (by decide +kernel))) (goodIn_sub (fun _ h => List.mem_append_left _ (List.mem_append_left _ (List.mem_append_right _ h))) (by decide +kernel))
set_option maxRecDepth 20000 in
theorem gL_law_L_pay : GoodIn wsL_law (va_wsS RL 104 yL_pay wsL_pay) := goodIn_app (goodIn_of _ (by decide +kernel)) ggL_law_L_pay
set_option maxRecDepth 20000 in
theorem ggL_law_X5_pay : GoodIn wsL_law wsX5_pay := goodIn_r _ [280, 281, 68, 64, 248, 249, 250, 5, 251, 212, 103, 104, 105, 106, 107, 108, 109, 110, 282, 283, 284, 285, 66, 525, 526, 527, 528, 529, 530, 531, 532, 533, 534, 535, 536, 537, 538, 539, 540, 541, 542, 543, 544, 545, 546, 547] (by decide +kernel) (by decide +kernel)
set_option maxRecDepth 20000 in
theorem gL_law_X5_pay : GoodIn wsL_law (wsV RL 106 RX5 yX5_pay wsX5_pay) := goodIn_app (goodIn_of _ (by decide +kernel)) ggL_law_X5_pay
set_option maxRecDepth 20000 in
theorem ggL_law_L_call : GoodIn wsL_law wsL_call := goodIn_ca (goodIn_ca (goodIn_ca (goodIn_r _ [288, 216, 82, 136, 289, 290, 291, 2, 292, 141, 142, 21, 293, 294, 295, 296, 221, 222, 223, 224, 225, 226, 20, 227, 146, 147, 148, 19, 149, 150, 228, 229, 230, 231, 232, 233, 234, 235, 236, 237, 238, 239, 240, 241, 242, 243, 30, 122, 123, 124, 125, 91, 92, 16, 93, 94, 95, 297, 145, 298, 299, 300, 274, 301, 175, 176, 177, 276, 302, 303, 304, 275, 202, 203, 305, 306, 307, 308, 309, 11, 12, 310, 311, 312, 313, 314, 156, 157, 158, 159, 160, 161, 162, 163, 164, 165, 166, 167, 168, 169, 170, 171, 172, 173, 29, 174, 178, 179, 180, 181, 182, 183, 184, 185, 186, 187, 188, 189, 190, 191, 192, 193, 194, 195, 196, 197, 198, 199, 200, 201, 204, 205, 206, 207, 519, 520, 521, 522, 523, 524, 555, 556, 557, 558, 559, 560, 561, 562, 563, 564, 565, 566, 567, 568, 569, 570, 571, 572, 548, 549, 550] (by decide +kernel) (by decide +kernel)) (goodIn_sub (fun _ h => List.mem_append_left _ (List.mem_append_right _ h)) (by decide +kernel))) (goodIn_sub (fun _ h => List.mem_append_right _ h) (by decide +kernel))) (goodIn_sub (fun _ h => List.mem_append_left _ (List.mem_append_left _ (List.mem_append_right _ h))) (by decide +kernel))
set_option maxRecDepth 20000 in
theorem gL_law_L_call : GoodIn wsL_law (va_wsS RL 107 yL_call wsL_call) := goodIn_app (goodIn_of _ (by decide +kernel)) ggL_law_L_call
set_option maxRecDepth 20000 in
theorem ggL_law_X5_call : GoodIn wsL_law wsX5_call := goodIn_r _ [318, 319, 61, 67, 62, 64, 66, 69, 70, 71, 72, 320, 130, 131, 5, 132, 103, 104, 105, 248, 249, 250, 251, 212, 106, 107, 108, 109, 110, 321, 322, 323, 324, 65, 525, 526, 527, 528, 529, 530, 531, 532, 533, 534, 535, 536, 537, 538, 539, 540, 541, 542, 543, 544, 545, 546, 547] (by decide +kernel) (by decide +kernel)
set_option maxRecDepth 20000 in
theorem gL_law_X5_call : GoodIn wsL_law (wsV RL 110 RX5 yX5_call wsX5_call) := goodIn_app (goodIn_of _ (by decide +kernel)) ggL_law_X5_call
set_option maxRecDepth 20000 in
theorem ggL_law_L_end : GoodIn wsL_law wsL_end := goodIn_ca (goodIn_ca (goodIn_ca (goodIn_r _ [327, 216, 82, 136, 328, 329, 330, 2, 331, 141, 142, 296, 332, 333, 334, 335, 225, 226, 21, 336, 146, 147, 148, 19, 149, 150, 228, 229, 230, 231, 232, 233, 234, 235, 236, 237, 238, 239, 240, 241, 242, 243, 30, 93, 94, 95, 91, 92, 337, 295, 338, 339, 310, 340, 341, 342, 343, 311, 312, 344, 345, 346, 347, 348, 145, 349, 350, 305, 306, 351, 352, 271, 272, 273, 274, 275, 202, 176, 203, 276, 519, 520, 521, 522, 523, 524, 566, 567, 568, 569, 570, 571, 572, 548, 549, 550, 557, 558, 559, 560, 561, 562, 563, 564, 565] (by decide +kernel) (by decide +kernel)) (goodIn_sub (fun _ h => List.mem_append_left _ (List.mem_append_right _ h)) (by decide +kernel))) (goodIn_sub (fun _ h => List.mem_append_right _ h) (by decide +kernel))) (goodIn_sub (fun _ h => List.mem_append_left _ (List.mem_append_left _ (List.mem_append_right _ h))) (by decide +kernel))
set_option maxRecDepth 20000 in
theorem gL_law_L_end : GoodIn wsL_law (va_wsS RL 111 yL_end wsL_end) := goodIn_app (goodIn_of _ (by decide +kernel)) ggL_law_L_end
set_option maxRecDepth 20000 in
theorem ggL_law_X5_end : GoodIn wsL_law wsX5_end := goodIn_r _ [356, 76, 70, 73, 357, 358, 359, 5, 360, 319, 103, 104, 105, 106, 107, 108, 109, 110, 361, 362, 363, 364, 74, 320, 69, 282, 283, 284, 285, 66, 64, 525, 526, 527, 528, 529, 530, 531, 532, 533, 534, 535, 536, 537, 538, 539, 540, 541, 542, 543, 544, 545, 546, 547] (by decide +kernel) (by decide +kernel)
set_option maxRecDepth 20000 in
theorem gL_law_X5_end : GoodIn wsL_law (wsV RL 113 RX5 yX5_end wsX5_end) := goodIn_app (goodIn_of _ (by decide +kernel)) ggL_law_X5_end
set_option maxRecDepth 20000 in
theorem ggL_law_L_dispute : GoodIn wsL_law wsL_dispute := goodIn_ca (goodIn_ca (goodIn_r _ [367, 216, 136, 368, 369, 370, 2, 371, 141, 142, 296, 332, 333, 334, 335, 225, 226, 21, 336, 146, 147, 148, 19, 149, 150, 228, 229, 230, 231, 232, 233, 234, 235, 236, 237, 238, 239, 240, 241, 242, 243, 30, 337, 295, 338, 339, 310, 372, 373, 374, 375, 311, 313, 271, 145, 272, 273, 274, 275, 202, 176, 203, 276, 566, 567, 568, 569, 570, 571, 572, 519, 520, 521, 522, 523, 524, 548, 549, 550, 557, 558, 559, 560, 561, 562, 563, 564, 565] (by decide +kernel) (by decide +kernel)) (goodIn_sub (fun _ h => List.mem_append_left _ (List.mem_append_right _ h)) (by decide +kernel))) (goodIn_sub (fun _ h => List.mem_append_right _ h) (by decide +kernel))
set_option maxRecDepth 20000 in
theorem gL_law_L_dispute : GoodIn wsL_law (va_wsS RL 114 yL_dispute wsL_dispute) := goodIn_app (goodIn_of _ (by decide +kernel)) ggL_law_L_dispute
set_option maxRecDepth 20000 in
theorem ggL_law_X5_dispute : GoodIn wsL_law wsX5_dispute := goodIn_r _ [379, 76, 77, 320, 74, 73, 69, 67, 71, 357, 358, 359, 5, 360, 319, 103, 104, 105, 106, 107, 108, 109, 110, 282, 283, 284, 285, 66, 64, 525, 526, 527, 528, 529, 530, 531, 532, 533, 534, 535, 536, 537, 538, 539, 540, 541, 542, 543, 544, 545, 546, 547] (by decide +kernel) (by decide +kernel)
set_option maxRecDepth 20000 in
theorem gL_law_X5_dispute : GoodIn wsL_law (wsV RL 116 RX5 yX5_dispute wsX5_dispute) := goodIn_app (goodIn_of _ (by decide +kernel)) ggL_law_X5_dispute
set_option maxRecDepth 20000 in
theorem ggL_law_L_pass : GoodIn wsL_law wsL_pass := goodIn_ca (goodIn_r _ [382, 82, 383, 384, 385, 2, 386, 296, 93, 94, 95, 91, 92, 387, 388, 389, 390, 391, 21, 336, 146, 147, 148, 19, 149, 150, 228, 229, 230, 231, 232, 233, 234, 235, 236, 237, 238, 239, 240, 241, 242, 243, 30, 337, 295, 338, 339, 310, 340, 341, 342, 343, 311, 312, 344, 345, 346, 347, 348, 145, 349, 350, 305, 306, 351, 352, 271, 272, 273, 274, 275, 202, 176, 203, 276, 392, 393, 394, 395, 20, 227, 396, 397, 398, 155, 154, 399, 400, 401, 402, 519, 520, 521, 522, 523, 524, 566, 567, 568, 569, 570, 571, 572, 548, 549, 550, 557, 558, 559, 560, 561, 562, 563, 564, 565, 551, 552, 553, 554] (by decide +kernel) (by decide +kernel)) (goodIn_sub (fun _ h => List.mem_append_left _ (List.mem_append_left _ (List.mem_append_right _ h))) (by decide +kernel))
set_option maxRecDepth 20000 in
theorem gL_law_L_pass : GoodIn wsL_law (va_wsS RL 117 yL_pass wsL_pass) := goodIn_app (goodIn_of _ (by decide +kernel)) ggL_law_L_pass
set_option maxRecDepth 20000 in
theorem ggL_law_X5_pass : GoodIn wsL_law wsX5_pass := goodIn_r _ [406, 103, 104, 5, 105, 106, 107, 108, 109, 110, 407, 408, 409, 410, 320, 319, 76, 72, 70, 212, 63, 67, 60, 59, 58, 361, 362, 363, 364, 73, 74, 69, 282, 283, 284, 285, 66, 64, 411, 412, 413, 414, 525, 526, 527, 528, 529, 530, 531, 532, 533, 534, 535, 536, 537, 538, 539, 540, 541, 542, 543, 544, 545, 546, 547] (by decide +kernel) (by decide +kernel)
set_option maxRecDepth 20000 in
theorem gL_law_X5_pass : GoodIn wsL_law (wsV RL 119 RX5 yX5_pass wsX5_pass) := goodIn_app (goodIn_of _ (by decide +kernel)) ggL_law_X5_pass
set_option maxRecDepth 20000 in
theorem ggL_law_X4_now : GoodIn wsL_law wsX4_now := goodIn_r _ [418, 296, 519, 520, 521, 522, 523, 524] (by decide +kernel) (by decide +kernel)
set_option maxRecDepth 20000 in
theorem gL_law_X4_now : GoodIn wsL_law (wsV RL 120 RX4 yX4_now wsX4_now) := goodIn_app (goodIn_of _ (by decide +kernel)) ggL_law_X4_now
set_option maxRecDepth 20000 in
theorem ggL_law_X5_now : GoodIn wsL_law wsX5_now := goodIn_r _ [422, 110, 320, 525, 526, 527, 528, 529, 530, 531, 532, 533, 534, 535, 536, 537, 538, 539, 540, 541, 542, 543, 544, 545, 546, 547] (by decide +kernel) (by decide +kernel)
set_option maxRecDepth 20000 in
theorem gL_law_X5_now : GoodIn wsL_law (wsV RL 123 RX5 yX5_now wsX5_now) := goodIn_app (goodIn_of _ (by decide +kernel)) ggL_law_X5_now
set_option maxRecDepth 20000 in
theorem ggL_law_X4_calls : GoodIn wsL_law wsX4_calls := goodIn_r _ [426, 21, 146, 147, 148, 19, 149, 150, 519, 520, 521, 522, 523, 524, 548, 549, 550] (by decide +kernel) (by decide +kernel)
set_option maxRecDepth 20000 in
theorem gL_law_X4_calls : GoodIn wsL_law (wsV RL 124 RX4 yX4_calls wsX4_calls) := goodIn_app (goodIn_of _ (by decide +kernel)) ggL_law_X4_calls
set_option maxRecDepth 20000 in
theorem ggL_law_X5_calls : GoodIn wsL_law wsX5_calls := goodIn_r _ [430, 110, 319, 525, 526, 527, 528, 529, 530, 531, 532, 533, 534, 535, 536, 537, 538, 539, 540, 541, 542, 543, 544, 545, 546, 547] (by decide +kernel) (by decide +kernel)
set_option maxRecDepth 20000 in
theorem gL_law_X5_calls : GoodIn wsL_law (wsV RL 127 RX5 yX5_calls wsX5_calls) := goodIn_app (goodIn_of _ (by decide +kernel)) ggL_law_X5_calls
set_option maxRecDepth 20000 in
theorem ggL_law_L_credit : GoodIn wsL_law wsL_credit := goodIn_ca (goodIn_r _ [433, 216, 434, 435, 436, 2, 437, 221, 222, 223, 224, 225, 226, 20, 227, 146, 147, 148, 19, 149, 150, 228, 229, 230, 231, 232, 233, 234, 235, 236, 237, 238, 239, 240, 241, 242, 243, 30, 557, 558, 559, 560, 561, 562, 563, 564, 565, 519, 520, 521, 522, 523, 524, 548, 549, 550] (by decide +kernel) (by decide +kernel)) (goodIn_sub (fun _ h => List.mem_append_right _ h) (by decide +kernel))
set_option maxRecDepth 20000 in
theorem gL_law_L_credit : GoodIn wsL_law (va_wsS RL 128 yL_credit wsL_credit) := goodIn_app (goodIn_of _ (by decide +kernel)) ggL_law_L_credit
set_option maxRecDepth 20000 in
theorem ggL_law_X5_credit : GoodIn wsL_law wsX5_credit := goodIn_r _ [441, 64, 248, 249, 250, 5, 251, 212, 103, 104, 105, 106, 107, 108, 109, 110, 525, 526, 527, 528, 529, 530, 531, 532, 533, 534, 535, 536, 537, 538, 539, 540, 541, 542, 543, 544, 545, 546, 547] (by decide +kernel) (by decide +kernel)
set_option maxRecDepth 20000 in
theorem gL_law_X5_credit : GoodIn wsL_law (wsV RL 130 RX5 yX5_credit wsX5_credit) := goodIn_app (goodIn_of _ (by decide +kernel)) ggL_law_X5_credit
set_option maxRecDepth 20000 in
theorem ggL_law_L_debt : GoodIn wsL_law wsL_debt := goodIn_ca (goodIn_r _ [444, 216, 445, 446, 447, 2, 448, 221, 222, 223, 224, 225, 226, 20, 227, 146, 147, 148, 19, 149, 150, 228, 229, 230, 231, 232, 233, 234, 235, 236, 237, 238, 239, 240, 241, 242, 243, 30, 557, 558, 559, 560, 561, 562, 563, 564, 565, 519, 520, 521, 522, 523, 524, 548, 549, 550] (by decide +kernel) (by decide +kernel)) (goodIn_sub (fun _ h => List.mem_append_right _ h) (by decide +kernel))
set_option maxRecDepth 20000 in
theorem gL_law_L_debt : GoodIn wsL_law (va_wsS RL 131 yL_debt wsL_debt) := goodIn_app (goodIn_of _ (by decide +kernel)) ggL_law_L_debt
set_option maxRecDepth 20000 in
theorem ggL_law_X5_debt : GoodIn wsL_law wsX5_debt := goodIn_r _ [452, 66, 248, 249, 250, 5, 251, 212, 103, 104, 105, 106, 107, 108, 109, 110, 525, 526, 527, 528, 529, 530, 531, 532, 533, 534, 535, 536, 537, 538, 539, 540, 541, 542, 543, 544, 545, 546, 547] (by decide +kernel) (by decide +kernel)
set_option maxRecDepth 20000 in
theorem gL_law_X5_debt : GoodIn wsL_law (wsV RL 133 RX5 yX5_debt wsX5_debt) := goodIn_app (goodIn_of _ (by decide +kernel)) ggL_law_X5_debt
set_option maxRecDepth 20000 in
theorem ggL_law_L_held : GoodIn wsL_law wsL_held := goodIn_ca (goodIn_r _ [455, 216, 456, 457, 458, 2, 459, 221, 222, 223, 224, 225, 226, 20, 227, 146, 147, 148, 19, 149, 150, 228, 229, 230, 231, 232, 233, 234, 235, 236, 237, 238, 239, 240, 241, 242, 243, 30, 557, 558, 559, 560, 561, 562, 563, 564, 565, 519, 520, 521, 522, 523, 524, 548, 549, 550] (by decide +kernel) (by decide +kernel)) (goodIn_sub (fun _ h => List.mem_append_right _ h) (by decide +kernel))
set_option maxRecDepth 20000 in
theorem gL_law_L_held : GoodIn wsL_law (va_wsS RL 134 yL_held wsL_held) := goodIn_app (goodIn_of _ (by decide +kernel)) ggL_law_L_held
set_option maxRecDepth 20000 in
theorem ggL_law_X5_held : GoodIn wsL_law wsX5_held := goodIn_r _ [463, 319, 69, 76, 70, 248, 249, 250, 5, 251, 212, 103, 104, 105, 106, 107, 108, 109, 110, 525, 526, 527, 528, 529, 530, 531, 532, 533, 534, 535, 536, 537, 538, 539, 540, 541, 542, 543, 544, 545, 546, 547] (by decide +kernel) (by decide +kernel)
set_option maxRecDepth 20000 in
theorem gL_law_X5_held : GoodIn wsL_law (wsV RL 136 RX5 yX5_held wsX5_held) := goodIn_app (goodIn_of _ (by decide +kernel)) ggL_law_X5_held
set_option maxRecDepth 20000 in
theorem ggL_law_L_tokens : GoodIn wsL_law wsL_tokens := goodIn_ca (goodIn_r _ [466, 216, 467, 468, 469, 2, 470, 221, 222, 223, 224, 225, 226, 20, 227, 146, 147, 148, 19, 149, 150, 228, 229, 230, 231, 232, 233, 234, 235, 236, 237, 238, 239, 240, 241, 242, 243, 30, 557, 558, 559, 560, 561, 562, 563, 564, 565, 519, 520, 521, 522, 523, 524, 548, 549, 550] (by decide +kernel) (by decide +kernel)) (goodIn_sub (fun _ h => List.mem_append_right _ h) (by decide +kernel))
set_option maxRecDepth 20000 in
theorem gL_law_L_tokens : GoodIn wsL_law (va_wsS RL 137 yL_tokens wsL_tokens) := goodIn_app (goodIn_of _ (by decide +kernel)) ggL_law_L_tokens
set_option maxRecDepth 20000 in
theorem ggL_law_X5_tokens : GoodIn wsL_law wsX5_tokens := goodIn_r _ [474, 67, 248, 249, 250, 5, 251, 212, 103, 104, 105, 106, 107, 108, 109, 110, 525, 526, 527, 528, 529, 530, 531, 532, 533, 534, 535, 536, 537, 538, 539, 540, 541, 542, 543, 544, 545, 546, 547] (by decide +kernel) (by decide +kernel)
set_option maxRecDepth 20000 in
theorem gL_law_X5_tokens : GoodIn wsL_law (wsV RL 139 RX5 yX5_tokens wsX5_tokens) := goodIn_app (goodIn_of _ (by decide +kernel)) ggL_law_X5_tokens
set_option maxRecDepth 20000 in
theorem ggL_law_L_isSlowed : GoodIn wsL_law wsL_isSlowed := goodIn_ca (goodIn_r _ [477, 216, 478, 479, 480, 2, 481, 221, 222, 223, 224, 225, 226, 20, 227, 146, 147, 148, 19, 149, 150, 228, 229, 230, 231, 232, 233, 234, 235, 236, 237, 238, 239, 240, 241, 242, 243, 30, 400, 145, 401, 402, 276, 306, 519, 520, 521, 522, 523, 524, 548, 549, 550, 557, 558, 559, 560, 561, 562, 563, 564, 565] (by decide +kernel) (by decide +kernel)) (goodIn_sub (fun _ h => List.mem_append_right _ h) (by decide +kernel))
set_option maxRecDepth 20000 in
theorem gL_law_L_isSlowed : GoodIn wsL_law (va_wsS RL 140 yL_isSlowed wsL_isSlowed) := goodIn_app (goodIn_of _ (by decide +kernel)) ggL_law_L_isSlowed
set_option maxRecDepth 20000 in
theorem ggL_law_X5_isSlowed : GoodIn wsL_law wsX5_isSlowed := goodIn_r _ [485, 248, 249, 250, 5, 251, 212, 103, 104, 105, 106, 107, 108, 109, 110, 411, 412, 413, 414, 64, 319, 69, 76, 525, 526, 527, 528, 529, 530, 531, 532, 533, 534, 535, 536, 537, 538, 539, 540, 541, 542, 543, 544, 545, 546, 547] (by decide +kernel) (by decide +kernel)
set_option maxRecDepth 20000 in
theorem gL_law_X5_isSlowed : GoodIn wsL_law (wsV RL 142 RX5 yX5_isSlowed wsX5_isSlowed) := goodIn_app (goodIn_of _ (by decide +kernel)) ggL_law_X5_isSlowed
set_option maxRecDepth 20000 in
theorem ggL_law_L_cost : GoodIn wsL_law wsL_cost := goodIn_ca (goodIn_r _ [488, 216, 489, 490, 491, 2, 492, 332, 333, 334, 335, 225, 226, 21, 336, 146, 147, 148, 19, 149, 150, 228, 229, 230, 231, 232, 233, 234, 235, 236, 237, 238, 239, 240, 241, 242, 243, 30, 566, 567, 568, 569, 570, 571, 572, 519, 520, 521, 522, 523, 524, 548, 549, 550] (by decide +kernel) (by decide +kernel)) (goodIn_sub (fun _ h => List.mem_append_right _ h) (by decide +kernel))
set_option maxRecDepth 20000 in
theorem gL_law_L_cost : GoodIn wsL_law (va_wsS RL 143 yL_cost wsL_cost) := goodIn_app (goodIn_of _ (by decide +kernel)) ggL_law_L_cost
set_option maxRecDepth 20000 in
theorem ggL_law_X5_cost : GoodIn wsL_law wsX5_cost := goodIn_r _ [496, 76, 73, 357, 358, 359, 5, 360, 319, 103, 104, 105, 106, 107, 108, 109, 110, 525, 526, 527, 528, 529, 530, 531, 532, 533, 534, 535, 536, 537, 538, 539, 540, 541, 542, 543, 544, 545, 546, 547] (by decide +kernel) (by decide +kernel)
set_option maxRecDepth 20000 in
theorem gL_law_X5_cost : GoodIn wsL_law (wsV RL 145 RX5 yX5_cost wsX5_cost) := goodIn_app (goodIn_of _ (by decide +kernel)) ggL_law_X5_cost
set_option maxRecDepth 20000 in
theorem ggL_law_L_spent : GoodIn wsL_law wsL_spent := goodIn_ca (goodIn_r _ [499, 216, 500, 501, 502, 2, 503, 221, 222, 223, 224, 225, 226, 20, 227, 146, 147, 148, 19, 149, 150, 228, 229, 230, 231, 232, 233, 234, 235, 236, 237, 238, 239, 240, 241, 242, 243, 30, 557, 558, 559, 560, 561, 562, 563, 564, 565, 519, 520, 521, 522, 523, 524, 548, 549, 550] (by decide +kernel) (by decide +kernel)) (goodIn_sub (fun _ h => List.mem_append_right _ h) (by decide +kernel))
set_option maxRecDepth 20000 in
theorem gL_law_L_spent : GoodIn wsL_law (va_wsS RL 146 yL_spent wsL_spent) := goodIn_app (goodIn_of _ (by decide +kernel)) ggL_law_L_spent
set_option maxRecDepth 20000 in
theorem ggL_law_X5_spent : GoodIn wsL_law wsX5_spent := goodIn_r _ [507, 319, 69, 73, 248, 249, 250, 5, 251, 212, 103, 104, 105, 106, 107, 108, 109, 110, 525, 526, 527, 528, 529, 530, 531, 532, 533, 534, 535, 536, 537, 538, 539, 540, 541, 542, 543, 544, 545, 546, 547] (by decide +kernel) (by decide +kernel)
set_option maxRecDepth 20000 in
theorem gL_law_X5_spent : GoodIn wsL_law (wsV RL 148 RX5 yX5_spent wsX5_spent) := goodIn_app (goodIn_of _ (by decide +kernel)) ggL_law_X5_spent
set_option maxRecDepth 20000 in
theorem ggL_law_L_paid : GoodIn wsL_law wsL_paid := goodIn_ca (goodIn_r _ [510, 216, 511, 512, 513, 2, 514, 221, 222, 223, 224, 225, 226, 20, 227, 146, 147, 148, 19, 149, 150, 228, 229, 230, 231, 232, 233, 234, 235, 236, 237, 238, 239, 240, 241, 242, 243, 30, 557, 558, 559, 560, 561, 562, 563, 564, 565, 519, 520, 521, 522, 523, 524, 548, 549, 550] (by decide +kernel) (by decide +kernel)) (goodIn_sub (fun _ h => List.mem_append_right _ h) (by decide +kernel))
set_option maxRecDepth 20000 in
theorem gL_law_L_paid : GoodIn wsL_law (va_wsS RL 149 yL_paid wsL_paid) := goodIn_app (goodIn_of _ (by decide +kernel)) ggL_law_L_paid
set_option maxRecDepth 20000 in
theorem ggL_law_X5_paid : GoodIn wsL_law wsX5_paid := goodIn_r _ [518, 68, 248, 249, 250, 5, 251, 212, 103, 104, 105, 106, 107, 108, 109, 110, 525, 526, 527, 528, 529, 530, 531, 532, 533, 534, 535, 536, 537, 538, 539, 540, 541, 542, 543, 544, 545, 546, 547] (by decide +kernel) (by decide +kernel)
set_option maxRecDepth 20000 in
theorem gL_law_X5_paid : GoodIn wsL_law (wsV RL 151 RX5 yX5_paid wsX5_paid) := goodIn_app (goodIn_of _ (by decide +kernel)) ggL_law_X5_paid
end
section
theorem dL_law_0 : decode cL_law 0 = .ok (.new 8, 3) := by decide +kernel
theorem dL_law_3 : decode cL_law 3 = .ok (.dup, 1) := by decide +kernel
theorem dL_law_4 : decode cL_law 4 = .ok (.invokespecial 75, 3) := by decide +kernel
theorem dL_law_7 : decode cL_law 7 = .ok (.astore_n 1, 1) := by decide +kernel
theorem dL_law_8 : decode cL_law 8 = .ok (.new 76, 3) := by decide +kernel
theorem dL_law_11 : decode cL_law 11 = .ok (.dup, 1) := by decide +kernel
theorem dL_law_12 : decode cL_law 12 = .ok (.invokespecial 78, 3) := by decide +kernel
theorem dL_law_15 : decode cL_law 15 = .ok (.astore_n 2, 1) := by decide +kernel
theorem dL_law_16 : decode cL_law 16 = .ok (.iconst 1, 1) := by decide +kernel
theorem dL_law_17 : decode cL_law 17 = .ok (.newarray .long, 2) := by decide +kernel
theorem dL_law_19 : decode cL_law 19 = .ok (.astore_n 3, 1) := by decide +kernel
theorem dL_law_20 : decode cL_law 20 = .ok (.iconst 0, 1) := by decide +kernel
theorem dL_law_21 : decode cL_law 21 = .ok (.istore 4, 2) := by decide +kernel
theorem dL_law_23 : decode cL_law 23 = .ok (.iload 4, 2) := by decide +kernel
theorem dL_law_25 : decode cL_law 25 = .ok (.aload_n 0, 1) := by decide +kernel
theorem dL_law_26 : decode cL_law 26 = .ok (.arraylength, 1) := by decide +kernel
theorem dL_law_27 : decode cL_law 27 = .ok (.iconst 5, 1) := by decide +kernel
theorem dL_law_28 : decode cL_law 28 = .ok (.isub, 1) := by decide +kernel
theorem dL_law_29 : decode cL_law 29 = .ok (.if_icmp .gt 1242, 3) := by decide +kernel
theorem dL_law_32 : decode cL_law 32 = .ok (.aload_n 0, 1) := by decide +kernel
theorem dL_law_33 : decode cL_law 33 = .ok (.iload 4, 2) := by decide +kernel
theorem dL_law_35 : decode cL_law 35 = .ok (.iaload, 1) := by decide +kernel
theorem dL_law_36 : decode cL_law 36 = .ok (.bipush 31, 2) := by decide +kernel
theorem dL_law_38 : decode cL_law 38 = .ok (.iand, 1) := by decide +kernel
theorem dL_law_39 : decode cL_law 39 = .ok (.tableswitch 1226 0 19 #[93, 165, 225, 281, 349, 417, 485, 565, 633, 689, 745, 758, 771, 827, 883, 939, 995, 1058, 1114, 1170], 93) := by decide +kernel
theorem dL_law_132 : decode cL_law 132 = .ok (.aload_n 1, 1) := by decide +kernel
theorem dL_law_133 : decode cL_law 133 = .ok (.aload_n 0, 1) := by decide +kernel
theorem dL_law_134 : decode cL_law 134 = .ok (.iload 4, 2) := by decide +kernel
theorem dL_law_136 : decode cL_law 136 = .ok (.iconst 1, 1) := by decide +kernel
theorem dL_law_137 : decode cL_law 137 = .ok (.iadd, 1) := by decide +kernel
theorem dL_law_138 : decode cL_law 138 = .ok (.iaload, 1) := by decide +kernel
theorem dL_law_139 : decode cL_law 139 = .ok (.aload_n 0, 1) := by decide +kernel
theorem dL_law_140 : decode cL_law 140 = .ok (.iload 4, 2) := by decide +kernel
theorem dL_law_142 : decode cL_law 142 = .ok (.iconst 2, 1) := by decide +kernel
theorem dL_law_143 : decode cL_law 143 = .ok (.iadd, 1) := by decide +kernel
theorem dL_law_144 : decode cL_law 144 = .ok (.iaload, 1) := by decide +kernel
theorem dL_law_145 : decode cL_law 145 = .ok (.aload_n 0, 1) := by decide +kernel
theorem dL_law_146 : decode cL_law 146 = .ok (.iload 4, 2) := by decide +kernel
theorem dL_law_148 : decode cL_law 148 = .ok (.iconst 3, 1) := by decide +kernel
theorem dL_law_149 : decode cL_law 149 = .ok (.iadd, 1) := by decide +kernel
theorem dL_law_150 : decode cL_law 150 = .ok (.iaload, 1) := by decide +kernel
theorem dL_law_151 : decode cL_law 151 = .ok (.aload_n 0, 1) := by decide +kernel
theorem dL_law_152 : decode cL_law 152 = .ok (.iload 4, 2) := by decide +kernel
theorem dL_law_154 : decode cL_law 154 = .ok (.iconst 4, 1) := by decide +kernel
theorem dL_law_155 : decode cL_law 155 = .ok (.iadd, 1) := by decide +kernel
theorem dL_law_156 : decode cL_law 156 = .ok (.iaload, 1) := by decide +kernel
theorem dL_law_157 : decode cL_law 157 = .ok (.invokestatic 79, 3) := by decide +kernel
theorem dL_law_160 : decode cL_law 160 = .ok (.istore 5, 2) := by decide +kernel
theorem dL_law_162 : decode cL_law 162 = .ok (.aload_n 2, 1) := by decide +kernel
theorem dL_law_163 : decode cL_law 163 = .ok (.aload_n 0, 1) := by decide +kernel
theorem dL_law_164 : decode cL_law 164 = .ok (.iload 4, 2) := by decide +kernel
theorem dL_law_166 : decode cL_law 166 = .ok (.iconst 1, 1) := by decide +kernel
theorem dL_law_167 : decode cL_law 167 = .ok (.iadd, 1) := by decide +kernel
theorem dL_law_168 : decode cL_law 168 = .ok (.iaload, 1) := by decide +kernel
theorem dL_law_169 : decode cL_law 169 = .ok (.aload_n 0, 1) := by decide +kernel
theorem dL_law_170 : decode cL_law 170 = .ok (.iload 4, 2) := by decide +kernel
theorem dL_law_172 : decode cL_law 172 = .ok (.iconst 2, 1) := by decide +kernel
theorem dL_law_173 : decode cL_law 173 = .ok (.iadd, 1) := by decide +kernel
theorem dL_law_174 : decode cL_law 174 = .ok (.iaload, 1) := by decide +kernel
theorem dL_law_175 : decode cL_law 175 = .ok (.aload_n 0, 1) := by decide +kernel
theorem dL_law_176 : decode cL_law 176 = .ok (.iload 4, 2) := by decide +kernel
theorem dL_law_178 : decode cL_law 178 = .ok (.iconst 3, 1) := by decide +kernel
theorem dL_law_179 : decode cL_law 179 = .ok (.iadd, 1) := by decide +kernel
theorem dL_law_180 : decode cL_law 180 = .ok (.iaload, 1) := by decide +kernel
theorem dL_law_181 : decode cL_law 181 = .ok (.aload_n 0, 1) := by decide +kernel
theorem dL_law_182 : decode cL_law 182 = .ok (.iload 4, 2) := by decide +kernel
theorem dL_law_184 : decode cL_law 184 = .ok (.iconst 4, 1) := by decide +kernel
theorem dL_law_185 : decode cL_law 185 = .ok (.iadd, 1) := by decide +kernel
theorem dL_law_186 : decode cL_law 186 = .ok (.iaload, 1) := by decide +kernel
theorem dL_law_187 : decode cL_law 187 = .ok (.invokevirtual 84, 3) := by decide +kernel
theorem dL_law_190 : decode cL_law 190 = .ok (.aload_n 2, 1) := by decide +kernel
theorem dL_law_191 : decode cL_law 191 = .ok (.invokevirtual 85, 3) := by decide +kernel
theorem dL_law_194 : decode cL_law 194 = .ok (.iload 5, 2) := by decide +kernel
theorem dL_law_196 : decode cL_law 196 = .ok (.if_icmp .eq 5, 3) := by decide +kernel
theorem dL_law_199 : decode cL_law 199 = .ok (.iconst 0, 1) := by decide +kernel
theorem dL_law_200 : decode cL_law 200 = .ok (.ireturn, 1) := by decide +kernel
theorem dL_law_201 : decode cL_law 201 = .ok (.goto 1064, 3) := by decide +kernel
theorem dL_law_204 : decode cL_law 204 = .ok (.aload_n 1, 1) := by decide +kernel
theorem dL_law_205 : decode cL_law 205 = .ok (.aload_n 0, 1) := by decide +kernel
theorem dL_law_206 : decode cL_law 206 = .ok (.iload 4, 2) := by decide +kernel
theorem dL_law_208 : decode cL_law 208 = .ok (.iconst 1, 1) := by decide +kernel
theorem dL_law_209 : decode cL_law 209 = .ok (.iadd, 1) := by decide +kernel
theorem dL_law_210 : decode cL_law 210 = .ok (.iaload, 1) := by decide +kernel
theorem dL_law_211 : decode cL_law 211 = .ok (.aload_n 0, 1) := by decide +kernel
theorem dL_law_212 : decode cL_law 212 = .ok (.iload 4, 2) := by decide +kernel
theorem dL_law_214 : decode cL_law 214 = .ok (.iconst 2, 1) := by decide +kernel
theorem dL_law_215 : decode cL_law 215 = .ok (.iadd, 1) := by decide +kernel
theorem dL_law_216 : decode cL_law 216 = .ok (.iaload, 1) := by decide +kernel
theorem dL_law_217 : decode cL_law 217 = .ok (.aload_n 0, 1) := by decide +kernel
theorem dL_law_218 : decode cL_law 218 = .ok (.iload 4, 2) := by decide +kernel
theorem dL_law_220 : decode cL_law 220 = .ok (.iconst 3, 1) := by decide +kernel
theorem dL_law_221 : decode cL_law 221 = .ok (.iadd, 1) := by decide +kernel
theorem dL_law_222 : decode cL_law 222 = .ok (.iaload, 1) := by decide +kernel
theorem dL_law_223 : decode cL_law 223 = .ok (.invokestatic 89, 3) := by decide +kernel
theorem dL_law_226 : decode cL_law 226 = .ok (.istore 5, 2) := by decide +kernel
theorem dL_law_228 : decode cL_law 228 = .ok (.aload_n 2, 1) := by decide +kernel
theorem dL_law_229 : decode cL_law 229 = .ok (.aload_n 0, 1) := by decide +kernel
theorem dL_law_230 : decode cL_law 230 = .ok (.iload 4, 2) := by decide +kernel
theorem dL_law_232 : decode cL_law 232 = .ok (.iconst 1, 1) := by decide +kernel
theorem dL_law_233 : decode cL_law 233 = .ok (.iadd, 1) := by decide +kernel
theorem dL_law_234 : decode cL_law 234 = .ok (.iaload, 1) := by decide +kernel
theorem dL_law_235 : decode cL_law 235 = .ok (.aload_n 0, 1) := by decide +kernel
theorem dL_law_236 : decode cL_law 236 = .ok (.iload 4, 2) := by decide +kernel
theorem dL_law_238 : decode cL_law 238 = .ok (.iconst 2, 1) := by decide +kernel
theorem dL_law_239 : decode cL_law 239 = .ok (.iadd, 1) := by decide +kernel
theorem dL_law_240 : decode cL_law 240 = .ok (.iaload, 1) := by decide +kernel
theorem dL_law_241 : decode cL_law 241 = .ok (.aload_n 0, 1) := by decide +kernel
theorem dL_law_242 : decode cL_law 242 = .ok (.iload 4, 2) := by decide +kernel
theorem dL_law_244 : decode cL_law 244 = .ok (.iconst 3, 1) := by decide +kernel
theorem dL_law_245 : decode cL_law 245 = .ok (.iadd, 1) := by decide +kernel
theorem dL_law_246 : decode cL_law 246 = .ok (.iaload, 1) := by decide +kernel
theorem dL_law_247 : decode cL_law 247 = .ok (.invokevirtual 92, 3) := by decide +kernel
theorem dL_law_250 : decode cL_law 250 = .ok (.aload_n 2, 1) := by decide +kernel
theorem dL_law_251 : decode cL_law 251 = .ok (.invokevirtual 85, 3) := by decide +kernel
theorem dL_law_254 : decode cL_law 254 = .ok (.iload 5, 2) := by decide +kernel
theorem dL_law_256 : decode cL_law 256 = .ok (.if_icmp .eq 5, 3) := by decide +kernel
theorem dL_law_259 : decode cL_law 259 = .ok (.iconst 0, 1) := by decide +kernel
theorem dL_law_260 : decode cL_law 260 = .ok (.ireturn, 1) := by decide +kernel
theorem dL_law_261 : decode cL_law 261 = .ok (.goto 1004, 3) := by decide +kernel
theorem dL_law_264 : decode cL_law 264 = .ok (.aload_n 1, 1) := by decide +kernel
theorem dL_law_265 : decode cL_law 265 = .ok (.aload_n 0, 1) := by decide +kernel
theorem dL_law_266 : decode cL_law 266 = .ok (.iload 4, 2) := by decide +kernel
theorem dL_law_268 : decode cL_law 268 = .ok (.iconst 1, 1) := by decide +kernel
theorem dL_law_269 : decode cL_law 269 = .ok (.iadd, 1) := by decide +kernel
theorem dL_law_270 : decode cL_law 270 = .ok (.iaload, 1) := by decide +kernel
theorem dL_law_271 : decode cL_law 271 = .ok (.aload_n 3, 1) := by decide +kernel
theorem dL_law_272 : decode cL_law 272 = .ok (.invokestatic 93, 3) := by decide +kernel
theorem dL_law_275 : decode cL_law 275 = .ok (.istore 5, 2) := by decide +kernel
theorem dL_law_277 : decode cL_law 277 = .ok (.aload_n 2, 1) := by decide +kernel
theorem dL_law_278 : decode cL_law 278 = .ok (.aload_n 0, 1) := by decide +kernel
theorem dL_law_279 : decode cL_law 279 = .ok (.iload 4, 2) := by decide +kernel
theorem dL_law_281 : decode cL_law 281 = .ok (.iconst 1, 1) := by decide +kernel
theorem dL_law_282 : decode cL_law 282 = .ok (.iadd, 1) := by decide +kernel
theorem dL_law_283 : decode cL_law 283 = .ok (.iaload, 1) := by decide +kernel
theorem dL_law_284 : decode cL_law 284 = .ok (.invokevirtual 96, 3) := by decide +kernel
theorem dL_law_287 : decode cL_law 287 = .ok (.istore 6, 2) := by decide +kernel
theorem dL_law_289 : decode cL_law 289 = .ok (.aload_n 2, 1) := by decide +kernel
theorem dL_law_290 : decode cL_law 290 = .ok (.invokevirtual 85, 3) := by decide +kernel
theorem dL_law_293 : decode cL_law 293 = .ok (.iload 5, 2) := by decide +kernel
theorem dL_law_295 : decode cL_law 295 = .ok (.if_icmp .eq 5, 3) := by decide +kernel
theorem dL_law_298 : decode cL_law 298 = .ok (.iconst 0, 1) := by decide +kernel
theorem dL_law_299 : decode cL_law 299 = .ok (.ireturn, 1) := by decide +kernel
theorem dL_law_300 : decode cL_law 300 = .ok (.iload 5, 2) := by decide +kernel
theorem dL_law_302 : decode cL_law 302 = .ok (.ifCond .ne 15, 3) := by decide +kernel
theorem dL_law_305 : decode cL_law 305 = .ok (.aload_n 3, 1) := by decide +kernel
theorem dL_law_306 : decode cL_law 306 = .ok (.iconst 0, 1) := by decide +kernel
theorem dL_law_307 : decode cL_law 307 = .ok (.laload, 1) := by decide +kernel
theorem dL_law_308 : decode cL_law 308 = .ok (.iload 6, 2) := by decide +kernel
theorem dL_law_310 : decode cL_law 310 = .ok (.i2l, 1) := by decide +kernel
theorem dL_law_311 : decode cL_law 311 = .ok (.lcmp, 1) := by decide +kernel
theorem dL_law_312 : decode cL_law 312 = .ok (.ifCond .eq 5, 3) := by decide +kernel
theorem dL_law_315 : decode cL_law 315 = .ok (.iconst 0, 1) := by decide +kernel
theorem dL_law_316 : decode cL_law 316 = .ok (.ireturn, 1) := by decide +kernel
theorem dL_law_317 : decode cL_law 317 = .ok (.goto 948, 3) := by decide +kernel
theorem dL_law_320 : decode cL_law 320 = .ok (.aload_n 1, 1) := by decide +kernel
theorem dL_law_321 : decode cL_law 321 = .ok (.aload_n 0, 1) := by decide +kernel
theorem dL_law_322 : decode cL_law 322 = .ok (.iload 4, 2) := by decide +kernel
theorem dL_law_324 : decode cL_law 324 = .ok (.iconst 1, 1) := by decide +kernel
theorem dL_law_325 : decode cL_law 325 = .ok (.iadd, 1) := by decide +kernel
theorem dL_law_326 : decode cL_law 326 = .ok (.iaload, 1) := by decide +kernel
theorem dL_law_327 : decode cL_law 327 = .ok (.aload_n 0, 1) := by decide +kernel
theorem dL_law_328 : decode cL_law 328 = .ok (.iload 4, 2) := by decide +kernel
theorem dL_law_330 : decode cL_law 330 = .ok (.iconst 2, 1) := by decide +kernel
theorem dL_law_331 : decode cL_law 331 = .ok (.iadd, 1) := by decide +kernel
theorem dL_law_332 : decode cL_law 332 = .ok (.iaload, 1) := by decide +kernel
theorem dL_law_333 : decode cL_law 333 = .ok (.aload_n 3, 1) := by decide +kernel
theorem dL_law_334 : decode cL_law 334 = .ok (.invokestatic 97, 3) := by decide +kernel
theorem dL_law_337 : decode cL_law 337 = .ok (.istore 5, 2) := by decide +kernel
theorem dL_law_339 : decode cL_law 339 = .ok (.aload_n 2, 1) := by decide +kernel
theorem dL_law_340 : decode cL_law 340 = .ok (.aload_n 0, 1) := by decide +kernel
theorem dL_law_341 : decode cL_law 341 = .ok (.iload 4, 2) := by decide +kernel
theorem dL_law_343 : decode cL_law 343 = .ok (.iconst 1, 1) := by decide +kernel
theorem dL_law_344 : decode cL_law 344 = .ok (.iadd, 1) := by decide +kernel
theorem dL_law_345 : decode cL_law 345 = .ok (.iaload, 1) := by decide +kernel
theorem dL_law_346 : decode cL_law 346 = .ok (.aload_n 0, 1) := by decide +kernel
theorem dL_law_347 : decode cL_law 347 = .ok (.iload 4, 2) := by decide +kernel
theorem dL_law_349 : decode cL_law 349 = .ok (.iconst 2, 1) := by decide +kernel
theorem dL_law_350 : decode cL_law 350 = .ok (.iadd, 1) := by decide +kernel
theorem dL_law_351 : decode cL_law 351 = .ok (.iaload, 1) := by decide +kernel
theorem dL_law_352 : decode cL_law 352 = .ok (.invokevirtual 100, 3) := by decide +kernel
theorem dL_law_355 : decode cL_law 355 = .ok (.istore 6, 2) := by decide +kernel
theorem dL_law_357 : decode cL_law 357 = .ok (.aload_n 2, 1) := by decide +kernel
theorem dL_law_358 : decode cL_law 358 = .ok (.invokevirtual 85, 3) := by decide +kernel
theorem dL_law_361 : decode cL_law 361 = .ok (.iload 5, 2) := by decide +kernel
theorem dL_law_363 : decode cL_law 363 = .ok (.if_icmp .eq 5, 3) := by decide +kernel
theorem dL_law_366 : decode cL_law 366 = .ok (.iconst 0, 1) := by decide +kernel
theorem dL_law_367 : decode cL_law 367 = .ok (.ireturn, 1) := by decide +kernel
theorem dL_law_368 : decode cL_law 368 = .ok (.iload 5, 2) := by decide +kernel
theorem dL_law_370 : decode cL_law 370 = .ok (.ifCond .ne 15, 3) := by decide +kernel
theorem dL_law_373 : decode cL_law 373 = .ok (.aload_n 3, 1) := by decide +kernel
theorem dL_law_374 : decode cL_law 374 = .ok (.iconst 0, 1) := by decide +kernel
theorem dL_law_375 : decode cL_law 375 = .ok (.laload, 1) := by decide +kernel
theorem dL_law_376 : decode cL_law 376 = .ok (.iload 6, 2) := by decide +kernel
theorem dL_law_378 : decode cL_law 378 = .ok (.i2l, 1) := by decide +kernel
theorem dL_law_379 : decode cL_law 379 = .ok (.lcmp, 1) := by decide +kernel
theorem dL_law_380 : decode cL_law 380 = .ok (.ifCond .eq 5, 3) := by decide +kernel
theorem dL_law_383 : decode cL_law 383 = .ok (.iconst 0, 1) := by decide +kernel
theorem dL_law_384 : decode cL_law 384 = .ok (.ireturn, 1) := by decide +kernel
theorem dL_law_385 : decode cL_law 385 = .ok (.goto 880, 3) := by decide +kernel
theorem dL_law_388 : decode cL_law 388 = .ok (.aload_n 1, 1) := by decide +kernel
theorem dL_law_389 : decode cL_law 389 = .ok (.aload_n 0, 1) := by decide +kernel
theorem dL_law_390 : decode cL_law 390 = .ok (.iload 4, 2) := by decide +kernel
theorem dL_law_392 : decode cL_law 392 = .ok (.iconst 1, 1) := by decide +kernel
theorem dL_law_393 : decode cL_law 393 = .ok (.iadd, 1) := by decide +kernel
theorem dL_law_394 : decode cL_law 394 = .ok (.iaload, 1) := by decide +kernel
theorem dL_law_395 : decode cL_law 395 = .ok (.aload_n 0, 1) := by decide +kernel
theorem dL_law_396 : decode cL_law 396 = .ok (.iload 4, 2) := by decide +kernel
theorem dL_law_398 : decode cL_law 398 = .ok (.iconst 2, 1) := by decide +kernel
theorem dL_law_399 : decode cL_law 399 = .ok (.iadd, 1) := by decide +kernel
theorem dL_law_400 : decode cL_law 400 = .ok (.iaload, 1) := by decide +kernel
theorem dL_law_401 : decode cL_law 401 = .ok (.aload_n 3, 1) := by decide +kernel
theorem dL_law_402 : decode cL_law 402 = .ok (.invokestatic 101, 3) := by decide +kernel
theorem dL_law_405 : decode cL_law 405 = .ok (.istore 5, 2) := by decide +kernel
theorem dL_law_407 : decode cL_law 407 = .ok (.aload_n 2, 1) := by decide +kernel
theorem dL_law_408 : decode cL_law 408 = .ok (.aload_n 0, 1) := by decide +kernel
theorem dL_law_409 : decode cL_law 409 = .ok (.iload 4, 2) := by decide +kernel
theorem dL_law_411 : decode cL_law 411 = .ok (.iconst 1, 1) := by decide +kernel
theorem dL_law_412 : decode cL_law 412 = .ok (.iadd, 1) := by decide +kernel
theorem dL_law_413 : decode cL_law 413 = .ok (.iaload, 1) := by decide +kernel
theorem dL_law_414 : decode cL_law 414 = .ok (.aload_n 0, 1) := by decide +kernel
theorem dL_law_415 : decode cL_law 415 = .ok (.iload 4, 2) := by decide +kernel
theorem dL_law_417 : decode cL_law 417 = .ok (.iconst 2, 1) := by decide +kernel
theorem dL_law_418 : decode cL_law 418 = .ok (.iadd, 1) := by decide +kernel
theorem dL_law_419 : decode cL_law 419 = .ok (.iaload, 1) := by decide +kernel
theorem dL_law_420 : decode cL_law 420 = .ok (.invokevirtual 103, 3) := by decide +kernel
theorem dL_law_423 : decode cL_law 423 = .ok (.istore 6, 2) := by decide +kernel
theorem dL_law_425 : decode cL_law 425 = .ok (.aload_n 2, 1) := by decide +kernel
theorem dL_law_426 : decode cL_law 426 = .ok (.invokevirtual 85, 3) := by decide +kernel
theorem dL_law_429 : decode cL_law 429 = .ok (.iload 5, 2) := by decide +kernel
theorem dL_law_431 : decode cL_law 431 = .ok (.if_icmp .eq 5, 3) := by decide +kernel
theorem dL_law_434 : decode cL_law 434 = .ok (.iconst 0, 1) := by decide +kernel
theorem dL_law_435 : decode cL_law 435 = .ok (.ireturn, 1) := by decide +kernel
theorem dL_law_436 : decode cL_law 436 = .ok (.iload 5, 2) := by decide +kernel
theorem dL_law_438 : decode cL_law 438 = .ok (.ifCond .ne 15, 3) := by decide +kernel
theorem dL_law_441 : decode cL_law 441 = .ok (.aload_n 3, 1) := by decide +kernel
theorem dL_law_442 : decode cL_law 442 = .ok (.iconst 0, 1) := by decide +kernel
theorem dL_law_443 : decode cL_law 443 = .ok (.laload, 1) := by decide +kernel
theorem dL_law_444 : decode cL_law 444 = .ok (.iload 6, 2) := by decide +kernel
theorem dL_law_446 : decode cL_law 446 = .ok (.i2l, 1) := by decide +kernel
theorem dL_law_447 : decode cL_law 447 = .ok (.lcmp, 1) := by decide +kernel
theorem dL_law_448 : decode cL_law 448 = .ok (.ifCond .eq 5, 3) := by decide +kernel
theorem dL_law_451 : decode cL_law 451 = .ok (.iconst 0, 1) := by decide +kernel
theorem dL_law_452 : decode cL_law 452 = .ok (.ireturn, 1) := by decide +kernel
theorem dL_law_453 : decode cL_law 453 = .ok (.goto 812, 3) := by decide +kernel
theorem dL_law_456 : decode cL_law 456 = .ok (.aload_n 1, 1) := by decide +kernel
theorem dL_law_457 : decode cL_law 457 = .ok (.aload_n 0, 1) := by decide +kernel
theorem dL_law_458 : decode cL_law 458 = .ok (.iload 4, 2) := by decide +kernel
theorem dL_law_460 : decode cL_law 460 = .ok (.iconst 1, 1) := by decide +kernel
theorem dL_law_461 : decode cL_law 461 = .ok (.iadd, 1) := by decide +kernel
theorem dL_law_462 : decode cL_law 462 = .ok (.iaload, 1) := by decide +kernel
theorem dL_law_463 : decode cL_law 463 = .ok (.aload_n 0, 1) := by decide +kernel
theorem dL_law_464 : decode cL_law 464 = .ok (.iload 4, 2) := by decide +kernel
theorem dL_law_466 : decode cL_law 466 = .ok (.iconst 2, 1) := by decide +kernel
theorem dL_law_467 : decode cL_law 467 = .ok (.iadd, 1) := by decide +kernel
theorem dL_law_468 : decode cL_law 468 = .ok (.iaload, 1) := by decide +kernel
theorem dL_law_469 : decode cL_law 469 = .ok (.aload_n 3, 1) := by decide +kernel
theorem dL_law_470 : decode cL_law 470 = .ok (.invokestatic 104, 3) := by decide +kernel
theorem dL_law_473 : decode cL_law 473 = .ok (.istore 5, 2) := by decide +kernel
theorem dL_law_475 : decode cL_law 475 = .ok (.aload_n 2, 1) := by decide +kernel
theorem dL_law_476 : decode cL_law 476 = .ok (.aload_n 0, 1) := by decide +kernel
theorem dL_law_477 : decode cL_law 477 = .ok (.iload 4, 2) := by decide +kernel
theorem dL_law_479 : decode cL_law 479 = .ok (.iconst 1, 1) := by decide +kernel
theorem dL_law_480 : decode cL_law 480 = .ok (.iadd, 1) := by decide +kernel
theorem dL_law_481 : decode cL_law 481 = .ok (.iaload, 1) := by decide +kernel
theorem dL_law_482 : decode cL_law 482 = .ok (.aload_n 0, 1) := by decide +kernel
theorem dL_law_483 : decode cL_law 483 = .ok (.iload 4, 2) := by decide +kernel
theorem dL_law_485 : decode cL_law 485 = .ok (.iconst 2, 1) := by decide +kernel
theorem dL_law_486 : decode cL_law 486 = .ok (.iadd, 1) := by decide +kernel
theorem dL_law_487 : decode cL_law 487 = .ok (.iaload, 1) := by decide +kernel
theorem dL_law_488 : decode cL_law 488 = .ok (.invokevirtual 106, 3) := by decide +kernel
theorem dL_law_491 : decode cL_law 491 = .ok (.istore 6, 2) := by decide +kernel
theorem dL_law_493 : decode cL_law 493 = .ok (.aload_n 2, 1) := by decide +kernel
theorem dL_law_494 : decode cL_law 494 = .ok (.invokevirtual 85, 3) := by decide +kernel
theorem dL_law_497 : decode cL_law 497 = .ok (.iload 5, 2) := by decide +kernel
theorem dL_law_499 : decode cL_law 499 = .ok (.if_icmp .eq 5, 3) := by decide +kernel
theorem dL_law_502 : decode cL_law 502 = .ok (.iconst 0, 1) := by decide +kernel
theorem dL_law_503 : decode cL_law 503 = .ok (.ireturn, 1) := by decide +kernel
theorem dL_law_504 : decode cL_law 504 = .ok (.iload 5, 2) := by decide +kernel
theorem dL_law_506 : decode cL_law 506 = .ok (.ifCond .ne 15, 3) := by decide +kernel
theorem dL_law_509 : decode cL_law 509 = .ok (.aload_n 3, 1) := by decide +kernel
theorem dL_law_510 : decode cL_law 510 = .ok (.iconst 0, 1) := by decide +kernel
theorem dL_law_511 : decode cL_law 511 = .ok (.laload, 1) := by decide +kernel
theorem dL_law_512 : decode cL_law 512 = .ok (.iload 6, 2) := by decide +kernel
theorem dL_law_514 : decode cL_law 514 = .ok (.i2l, 1) := by decide +kernel
theorem dL_law_515 : decode cL_law 515 = .ok (.lcmp, 1) := by decide +kernel
theorem dL_law_516 : decode cL_law 516 = .ok (.ifCond .eq 5, 3) := by decide +kernel
theorem dL_law_519 : decode cL_law 519 = .ok (.iconst 0, 1) := by decide +kernel
theorem dL_law_520 : decode cL_law 520 = .ok (.ireturn, 1) := by decide +kernel
theorem dL_law_521 : decode cL_law 521 = .ok (.goto 744, 3) := by decide +kernel
theorem dL_law_524 : decode cL_law 524 = .ok (.aload_n 1, 1) := by decide +kernel
theorem dL_law_525 : decode cL_law 525 = .ok (.aload_n 0, 1) := by decide +kernel
theorem dL_law_526 : decode cL_law 526 = .ok (.iload 4, 2) := by decide +kernel
theorem dL_law_528 : decode cL_law 528 = .ok (.iconst 1, 1) := by decide +kernel
theorem dL_law_529 : decode cL_law 529 = .ok (.iadd, 1) := by decide +kernel
theorem dL_law_530 : decode cL_law 530 = .ok (.iaload, 1) := by decide +kernel
theorem dL_law_531 : decode cL_law 531 = .ok (.aload_n 0, 1) := by decide +kernel
theorem dL_law_532 : decode cL_law 532 = .ok (.iload 4, 2) := by decide +kernel
theorem dL_law_534 : decode cL_law 534 = .ok (.iconst 2, 1) := by decide +kernel
theorem dL_law_535 : decode cL_law 535 = .ok (.iadd, 1) := by decide +kernel
theorem dL_law_536 : decode cL_law 536 = .ok (.iaload, 1) := by decide +kernel
theorem dL_law_537 : decode cL_law 537 = .ok (.aload_n 0, 1) := by decide +kernel
theorem dL_law_538 : decode cL_law 538 = .ok (.iload 4, 2) := by decide +kernel
theorem dL_law_540 : decode cL_law 540 = .ok (.iconst 3, 1) := by decide +kernel
theorem dL_law_541 : decode cL_law 541 = .ok (.iadd, 1) := by decide +kernel
theorem dL_law_542 : decode cL_law 542 = .ok (.iaload, 1) := by decide +kernel
theorem dL_law_543 : decode cL_law 543 = .ok (.aload_n 3, 1) := by decide +kernel
theorem dL_law_544 : decode cL_law 544 = .ok (.invokestatic 107, 3) := by decide +kernel
theorem dL_law_547 : decode cL_law 547 = .ok (.istore 5, 2) := by decide +kernel
theorem dL_law_549 : decode cL_law 549 = .ok (.aload_n 2, 1) := by decide +kernel
theorem dL_law_550 : decode cL_law 550 = .ok (.aload_n 0, 1) := by decide +kernel
theorem dL_law_551 : decode cL_law 551 = .ok (.iload 4, 2) := by decide +kernel
theorem dL_law_553 : decode cL_law 553 = .ok (.iconst 1, 1) := by decide +kernel
theorem dL_law_554 : decode cL_law 554 = .ok (.iadd, 1) := by decide +kernel
theorem dL_law_555 : decode cL_law 555 = .ok (.iaload, 1) := by decide +kernel
theorem dL_law_556 : decode cL_law 556 = .ok (.aload_n 0, 1) := by decide +kernel
theorem dL_law_557 : decode cL_law 557 = .ok (.iload 4, 2) := by decide +kernel
theorem dL_law_559 : decode cL_law 559 = .ok (.iconst 2, 1) := by decide +kernel
theorem dL_law_560 : decode cL_law 560 = .ok (.iadd, 1) := by decide +kernel
theorem dL_law_561 : decode cL_law 561 = .ok (.iaload, 1) := by decide +kernel
theorem dL_law_562 : decode cL_law 562 = .ok (.aload_n 0, 1) := by decide +kernel
theorem dL_law_563 : decode cL_law 563 = .ok (.iload 4, 2) := by decide +kernel
theorem dL_law_565 : decode cL_law 565 = .ok (.iconst 3, 1) := by decide +kernel
theorem dL_law_566 : decode cL_law 566 = .ok (.iadd, 1) := by decide +kernel
theorem dL_law_567 : decode cL_law 567 = .ok (.iaload, 1) := by decide +kernel
theorem dL_law_568 : decode cL_law 568 = .ok (.invokevirtual 110, 3) := by decide +kernel
theorem dL_law_571 : decode cL_law 571 = .ok (.istore 6, 2) := by decide +kernel
theorem dL_law_573 : decode cL_law 573 = .ok (.aload_n 2, 1) := by decide +kernel
theorem dL_law_574 : decode cL_law 574 = .ok (.invokevirtual 85, 3) := by decide +kernel
theorem dL_law_577 : decode cL_law 577 = .ok (.iload 5, 2) := by decide +kernel
theorem dL_law_579 : decode cL_law 579 = .ok (.if_icmp .eq 5, 3) := by decide +kernel
theorem dL_law_582 : decode cL_law 582 = .ok (.iconst 0, 1) := by decide +kernel
theorem dL_law_583 : decode cL_law 583 = .ok (.ireturn, 1) := by decide +kernel
theorem dL_law_584 : decode cL_law 584 = .ok (.iload 5, 2) := by decide +kernel
theorem dL_law_586 : decode cL_law 586 = .ok (.ifCond .ne 15, 3) := by decide +kernel
theorem dL_law_589 : decode cL_law 589 = .ok (.aload_n 3, 1) := by decide +kernel
theorem dL_law_590 : decode cL_law 590 = .ok (.iconst 0, 1) := by decide +kernel
theorem dL_law_591 : decode cL_law 591 = .ok (.laload, 1) := by decide +kernel
theorem dL_law_592 : decode cL_law 592 = .ok (.iload 6, 2) := by decide +kernel
theorem dL_law_594 : decode cL_law 594 = .ok (.i2l, 1) := by decide +kernel
theorem dL_law_595 : decode cL_law 595 = .ok (.lcmp, 1) := by decide +kernel
theorem dL_law_596 : decode cL_law 596 = .ok (.ifCond .eq 5, 3) := by decide +kernel
theorem dL_law_599 : decode cL_law 599 = .ok (.iconst 0, 1) := by decide +kernel
theorem dL_law_600 : decode cL_law 600 = .ok (.ireturn, 1) := by decide +kernel
theorem dL_law_601 : decode cL_law 601 = .ok (.goto 664, 3) := by decide +kernel
theorem dL_law_604 : decode cL_law 604 = .ok (.aload_n 1, 1) := by decide +kernel
theorem dL_law_605 : decode cL_law 605 = .ok (.aload_n 0, 1) := by decide +kernel
theorem dL_law_606 : decode cL_law 606 = .ok (.iload 4, 2) := by decide +kernel
theorem dL_law_608 : decode cL_law 608 = .ok (.iconst 1, 1) := by decide +kernel
theorem dL_law_609 : decode cL_law 609 = .ok (.iadd, 1) := by decide +kernel
theorem dL_law_610 : decode cL_law 610 = .ok (.iaload, 1) := by decide +kernel
theorem dL_law_611 : decode cL_law 611 = .ok (.aload_n 0, 1) := by decide +kernel
theorem dL_law_612 : decode cL_law 612 = .ok (.iload 4, 2) := by decide +kernel
theorem dL_law_614 : decode cL_law 614 = .ok (.iconst 2, 1) := by decide +kernel
theorem dL_law_615 : decode cL_law 615 = .ok (.iadd, 1) := by decide +kernel
theorem dL_law_616 : decode cL_law 616 = .ok (.iaload, 1) := by decide +kernel
theorem dL_law_617 : decode cL_law 617 = .ok (.aload_n 3, 1) := by decide +kernel
theorem dL_law_618 : decode cL_law 618 = .ok (.invokestatic 111, 3) := by decide +kernel
theorem dL_law_621 : decode cL_law 621 = .ok (.istore 5, 2) := by decide +kernel
theorem dL_law_623 : decode cL_law 623 = .ok (.aload_n 2, 1) := by decide +kernel
theorem dL_law_624 : decode cL_law 624 = .ok (.aload_n 0, 1) := by decide +kernel
theorem dL_law_625 : decode cL_law 625 = .ok (.iload 4, 2) := by decide +kernel
theorem dL_law_627 : decode cL_law 627 = .ok (.iconst 1, 1) := by decide +kernel
theorem dL_law_628 : decode cL_law 628 = .ok (.iadd, 1) := by decide +kernel
theorem dL_law_629 : decode cL_law 629 = .ok (.iaload, 1) := by decide +kernel
theorem dL_law_630 : decode cL_law 630 = .ok (.aload_n 0, 1) := by decide +kernel
theorem dL_law_631 : decode cL_law 631 = .ok (.iload 4, 2) := by decide +kernel
theorem dL_law_633 : decode cL_law 633 = .ok (.iconst 2, 1) := by decide +kernel
theorem dL_law_634 : decode cL_law 634 = .ok (.iadd, 1) := by decide +kernel
theorem dL_law_635 : decode cL_law 635 = .ok (.iaload, 1) := by decide +kernel
theorem dL_law_636 : decode cL_law 636 = .ok (.invokevirtual 113, 3) := by decide +kernel
theorem dL_law_639 : decode cL_law 639 = .ok (.istore 6, 2) := by decide +kernel
theorem dL_law_641 : decode cL_law 641 = .ok (.aload_n 2, 1) := by decide +kernel
theorem dL_law_642 : decode cL_law 642 = .ok (.invokevirtual 85, 3) := by decide +kernel
theorem dL_law_645 : decode cL_law 645 = .ok (.iload 5, 2) := by decide +kernel
theorem dL_law_647 : decode cL_law 647 = .ok (.if_icmp .eq 5, 3) := by decide +kernel
theorem dL_law_650 : decode cL_law 650 = .ok (.iconst 0, 1) := by decide +kernel
theorem dL_law_651 : decode cL_law 651 = .ok (.ireturn, 1) := by decide +kernel
theorem dL_law_652 : decode cL_law 652 = .ok (.iload 5, 2) := by decide +kernel
theorem dL_law_654 : decode cL_law 654 = .ok (.ifCond .ne 15, 3) := by decide +kernel
theorem dL_law_657 : decode cL_law 657 = .ok (.aload_n 3, 1) := by decide +kernel
end
section
theorem dL_law_658 : decode cL_law 658 = .ok (.iconst 0, 1) := by decide +kernel
theorem dL_law_659 : decode cL_law 659 = .ok (.laload, 1) := by decide +kernel
theorem dL_law_660 : decode cL_law 660 = .ok (.iload 6, 2) := by decide +kernel
theorem dL_law_662 : decode cL_law 662 = .ok (.i2l, 1) := by decide +kernel
theorem dL_law_663 : decode cL_law 663 = .ok (.lcmp, 1) := by decide +kernel
theorem dL_law_664 : decode cL_law 664 = .ok (.ifCond .eq 5, 3) := by decide +kernel
theorem dL_law_667 : decode cL_law 667 = .ok (.iconst 0, 1) := by decide +kernel
theorem dL_law_668 : decode cL_law 668 = .ok (.ireturn, 1) := by decide +kernel
theorem dL_law_669 : decode cL_law 669 = .ok (.goto 596, 3) := by decide +kernel
theorem dL_law_672 : decode cL_law 672 = .ok (.aload_n 1, 1) := by decide +kernel
theorem dL_law_673 : decode cL_law 673 = .ok (.aload_n 0, 1) := by decide +kernel
theorem dL_law_674 : decode cL_law 674 = .ok (.iload 4, 2) := by decide +kernel
theorem dL_law_676 : decode cL_law 676 = .ok (.iconst 1, 1) := by decide +kernel
theorem dL_law_677 : decode cL_law 677 = .ok (.iadd, 1) := by decide +kernel
theorem dL_law_678 : decode cL_law 678 = .ok (.iaload, 1) := by decide +kernel
theorem dL_law_679 : decode cL_law 679 = .ok (.aload_n 3, 1) := by decide +kernel
theorem dL_law_680 : decode cL_law 680 = .ok (.invokestatic 114, 3) := by decide +kernel
theorem dL_law_683 : decode cL_law 683 = .ok (.istore 5, 2) := by decide +kernel
theorem dL_law_685 : decode cL_law 685 = .ok (.aload_n 2, 1) := by decide +kernel
theorem dL_law_686 : decode cL_law 686 = .ok (.aload_n 0, 1) := by decide +kernel
theorem dL_law_687 : decode cL_law 687 = .ok (.iload 4, 2) := by decide +kernel
theorem dL_law_689 : decode cL_law 689 = .ok (.iconst 1, 1) := by decide +kernel
theorem dL_law_690 : decode cL_law 690 = .ok (.iadd, 1) := by decide +kernel
theorem dL_law_691 : decode cL_law 691 = .ok (.iaload, 1) := by decide +kernel
theorem dL_law_692 : decode cL_law 692 = .ok (.invokevirtual 116, 3) := by decide +kernel
theorem dL_law_695 : decode cL_law 695 = .ok (.istore 6, 2) := by decide +kernel
theorem dL_law_697 : decode cL_law 697 = .ok (.aload_n 2, 1) := by decide +kernel
theorem dL_law_698 : decode cL_law 698 = .ok (.invokevirtual 85, 3) := by decide +kernel
theorem dL_law_701 : decode cL_law 701 = .ok (.iload 5, 2) := by decide +kernel
theorem dL_law_703 : decode cL_law 703 = .ok (.if_icmp .eq 5, 3) := by decide +kernel
theorem dL_law_706 : decode cL_law 706 = .ok (.iconst 0, 1) := by decide +kernel
theorem dL_law_707 : decode cL_law 707 = .ok (.ireturn, 1) := by decide +kernel
theorem dL_law_708 : decode cL_law 708 = .ok (.iload 5, 2) := by decide +kernel
theorem dL_law_710 : decode cL_law 710 = .ok (.ifCond .ne 15, 3) := by decide +kernel
theorem dL_law_713 : decode cL_law 713 = .ok (.aload_n 3, 1) := by decide +kernel
theorem dL_law_714 : decode cL_law 714 = .ok (.iconst 0, 1) := by decide +kernel
theorem dL_law_715 : decode cL_law 715 = .ok (.laload, 1) := by decide +kernel
theorem dL_law_716 : decode cL_law 716 = .ok (.iload 6, 2) := by decide +kernel
theorem dL_law_718 : decode cL_law 718 = .ok (.i2l, 1) := by decide +kernel
theorem dL_law_719 : decode cL_law 719 = .ok (.lcmp, 1) := by decide +kernel
theorem dL_law_720 : decode cL_law 720 = .ok (.ifCond .eq 5, 3) := by decide +kernel
theorem dL_law_723 : decode cL_law 723 = .ok (.iconst 0, 1) := by decide +kernel
theorem dL_law_724 : decode cL_law 724 = .ok (.ireturn, 1) := by decide +kernel
theorem dL_law_725 : decode cL_law 725 = .ok (.goto 540, 3) := by decide +kernel
theorem dL_law_728 : decode cL_law 728 = .ok (.aload_n 1, 1) := by decide +kernel
theorem dL_law_729 : decode cL_law 729 = .ok (.aload_n 0, 1) := by decide +kernel
theorem dL_law_730 : decode cL_law 730 = .ok (.iload 4, 2) := by decide +kernel
theorem dL_law_732 : decode cL_law 732 = .ok (.iconst 1, 1) := by decide +kernel
theorem dL_law_733 : decode cL_law 733 = .ok (.iadd, 1) := by decide +kernel
theorem dL_law_734 : decode cL_law 734 = .ok (.iaload, 1) := by decide +kernel
theorem dL_law_735 : decode cL_law 735 = .ok (.aload_n 3, 1) := by decide +kernel
theorem dL_law_736 : decode cL_law 736 = .ok (.invokestatic 117, 3) := by decide +kernel
theorem dL_law_739 : decode cL_law 739 = .ok (.istore 5, 2) := by decide +kernel
theorem dL_law_741 : decode cL_law 741 = .ok (.aload_n 2, 1) := by decide +kernel
theorem dL_law_742 : decode cL_law 742 = .ok (.aload_n 0, 1) := by decide +kernel
theorem dL_law_743 : decode cL_law 743 = .ok (.iload 4, 2) := by decide +kernel
theorem dL_law_745 : decode cL_law 745 = .ok (.iconst 1, 1) := by decide +kernel
theorem dL_law_746 : decode cL_law 746 = .ok (.iadd, 1) := by decide +kernel
theorem dL_law_747 : decode cL_law 747 = .ok (.iaload, 1) := by decide +kernel
theorem dL_law_748 : decode cL_law 748 = .ok (.invokevirtual 119, 3) := by decide +kernel
theorem dL_law_751 : decode cL_law 751 = .ok (.istore 6, 2) := by decide +kernel
theorem dL_law_753 : decode cL_law 753 = .ok (.aload_n 2, 1) := by decide +kernel
theorem dL_law_754 : decode cL_law 754 = .ok (.invokevirtual 85, 3) := by decide +kernel
theorem dL_law_757 : decode cL_law 757 = .ok (.iload 5, 2) := by decide +kernel
theorem dL_law_759 : decode cL_law 759 = .ok (.if_icmp .eq 5, 3) := by decide +kernel
theorem dL_law_762 : decode cL_law 762 = .ok (.iconst 0, 1) := by decide +kernel
theorem dL_law_763 : decode cL_law 763 = .ok (.ireturn, 1) := by decide +kernel
theorem dL_law_764 : decode cL_law 764 = .ok (.iload 5, 2) := by decide +kernel
theorem dL_law_766 : decode cL_law 766 = .ok (.ifCond .ne 15, 3) := by decide +kernel
theorem dL_law_769 : decode cL_law 769 = .ok (.aload_n 3, 1) := by decide +kernel
theorem dL_law_770 : decode cL_law 770 = .ok (.iconst 0, 1) := by decide +kernel
theorem dL_law_771 : decode cL_law 771 = .ok (.laload, 1) := by decide +kernel
theorem dL_law_772 : decode cL_law 772 = .ok (.iload 6, 2) := by decide +kernel
theorem dL_law_774 : decode cL_law 774 = .ok (.i2l, 1) := by decide +kernel
theorem dL_law_775 : decode cL_law 775 = .ok (.lcmp, 1) := by decide +kernel
theorem dL_law_776 : decode cL_law 776 = .ok (.ifCond .eq 5, 3) := by decide +kernel
theorem dL_law_779 : decode cL_law 779 = .ok (.iconst 0, 1) := by decide +kernel
theorem dL_law_780 : decode cL_law 780 = .ok (.ireturn, 1) := by decide +kernel
theorem dL_law_781 : decode cL_law 781 = .ok (.goto 484, 3) := by decide +kernel
theorem dL_law_784 : decode cL_law 784 = .ok (.aload_n 1, 1) := by decide +kernel
theorem dL_law_785 : decode cL_law 785 = .ok (.invokevirtual 120, 3) := by decide +kernel
theorem dL_law_788 : decode cL_law 788 = .ok (.aload_n 2, 1) := by decide +kernel
theorem dL_law_789 : decode cL_law 789 = .ok (.invokevirtual 123, 3) := by decide +kernel
theorem dL_law_792 : decode cL_law 792 = .ok (.if_icmp .eq 473, 3) := by decide +kernel
theorem dL_law_795 : decode cL_law 795 = .ok (.iconst 0, 1) := by decide +kernel
theorem dL_law_796 : decode cL_law 796 = .ok (.ireturn, 1) := by decide +kernel
theorem dL_law_797 : decode cL_law 797 = .ok (.aload_n 1, 1) := by decide +kernel
theorem dL_law_798 : decode cL_law 798 = .ok (.invokevirtual 124, 3) := by decide +kernel
theorem dL_law_801 : decode cL_law 801 = .ok (.aload_n 2, 1) := by decide +kernel
theorem dL_law_802 : decode cL_law 802 = .ok (.invokevirtual 127, 3) := by decide +kernel
theorem dL_law_805 : decode cL_law 805 = .ok (.if_icmp .eq 460, 3) := by decide +kernel
theorem dL_law_808 : decode cL_law 808 = .ok (.iconst 0, 1) := by decide +kernel
theorem dL_law_809 : decode cL_law 809 = .ok (.ireturn, 1) := by decide +kernel
theorem dL_law_810 : decode cL_law 810 = .ok (.aload_n 1, 1) := by decide +kernel
theorem dL_law_811 : decode cL_law 811 = .ok (.aload_n 0, 1) := by decide +kernel
theorem dL_law_812 : decode cL_law 812 = .ok (.iload 4, 2) := by decide +kernel
theorem dL_law_814 : decode cL_law 814 = .ok (.iconst 1, 1) := by decide +kernel
theorem dL_law_815 : decode cL_law 815 = .ok (.iadd, 1) := by decide +kernel
theorem dL_law_816 : decode cL_law 816 = .ok (.iaload, 1) := by decide +kernel
theorem dL_law_817 : decode cL_law 817 = .ok (.aload_n 3, 1) := by decide +kernel
theorem dL_law_818 : decode cL_law 818 = .ok (.invokestatic 128, 3) := by decide +kernel
theorem dL_law_821 : decode cL_law 821 = .ok (.istore 5, 2) := by decide +kernel
theorem dL_law_823 : decode cL_law 823 = .ok (.aload_n 2, 1) := by decide +kernel
theorem dL_law_824 : decode cL_law 824 = .ok (.aload_n 0, 1) := by decide +kernel
theorem dL_law_825 : decode cL_law 825 = .ok (.iload 4, 2) := by decide +kernel
theorem dL_law_827 : decode cL_law 827 = .ok (.iconst 1, 1) := by decide +kernel
theorem dL_law_828 : decode cL_law 828 = .ok (.iadd, 1) := by decide +kernel
theorem dL_law_829 : decode cL_law 829 = .ok (.iaload, 1) := by decide +kernel
theorem dL_law_830 : decode cL_law 830 = .ok (.invokevirtual 130, 3) := by decide +kernel
theorem dL_law_833 : decode cL_law 833 = .ok (.istore 6, 2) := by decide +kernel
theorem dL_law_835 : decode cL_law 835 = .ok (.aload_n 2, 1) := by decide +kernel
theorem dL_law_836 : decode cL_law 836 = .ok (.invokevirtual 85, 3) := by decide +kernel
theorem dL_law_839 : decode cL_law 839 = .ok (.iload 5, 2) := by decide +kernel
theorem dL_law_841 : decode cL_law 841 = .ok (.if_icmp .eq 5, 3) := by decide +kernel
theorem dL_law_844 : decode cL_law 844 = .ok (.iconst 0, 1) := by decide +kernel
theorem dL_law_845 : decode cL_law 845 = .ok (.ireturn, 1) := by decide +kernel
theorem dL_law_846 : decode cL_law 846 = .ok (.iload 5, 2) := by decide +kernel
theorem dL_law_848 : decode cL_law 848 = .ok (.ifCond .ne 15, 3) := by decide +kernel
theorem dL_law_851 : decode cL_law 851 = .ok (.aload_n 3, 1) := by decide +kernel
theorem dL_law_852 : decode cL_law 852 = .ok (.iconst 0, 1) := by decide +kernel
theorem dL_law_853 : decode cL_law 853 = .ok (.laload, 1) := by decide +kernel
theorem dL_law_854 : decode cL_law 854 = .ok (.iload 6, 2) := by decide +kernel
theorem dL_law_856 : decode cL_law 856 = .ok (.i2l, 1) := by decide +kernel
theorem dL_law_857 : decode cL_law 857 = .ok (.lcmp, 1) := by decide +kernel
theorem dL_law_858 : decode cL_law 858 = .ok (.ifCond .eq 5, 3) := by decide +kernel
theorem dL_law_861 : decode cL_law 861 = .ok (.iconst 0, 1) := by decide +kernel
theorem dL_law_862 : decode cL_law 862 = .ok (.ireturn, 1) := by decide +kernel
theorem dL_law_863 : decode cL_law 863 = .ok (.goto 402, 3) := by decide +kernel
theorem dL_law_866 : decode cL_law 866 = .ok (.aload_n 1, 1) := by decide +kernel
theorem dL_law_867 : decode cL_law 867 = .ok (.aload_n 0, 1) := by decide +kernel
theorem dL_law_868 : decode cL_law 868 = .ok (.iload 4, 2) := by decide +kernel
theorem dL_law_870 : decode cL_law 870 = .ok (.iconst 1, 1) := by decide +kernel
theorem dL_law_871 : decode cL_law 871 = .ok (.iadd, 1) := by decide +kernel
theorem dL_law_872 : decode cL_law 872 = .ok (.iaload, 1) := by decide +kernel
theorem dL_law_873 : decode cL_law 873 = .ok (.aload_n 3, 1) := by decide +kernel
theorem dL_law_874 : decode cL_law 874 = .ok (.invokestatic 131, 3) := by decide +kernel
theorem dL_law_877 : decode cL_law 877 = .ok (.istore 5, 2) := by decide +kernel
theorem dL_law_879 : decode cL_law 879 = .ok (.aload_n 2, 1) := by decide +kernel
theorem dL_law_880 : decode cL_law 880 = .ok (.aload_n 0, 1) := by decide +kernel
theorem dL_law_881 : decode cL_law 881 = .ok (.iload 4, 2) := by decide +kernel
theorem dL_law_883 : decode cL_law 883 = .ok (.iconst 1, 1) := by decide +kernel
theorem dL_law_884 : decode cL_law 884 = .ok (.iadd, 1) := by decide +kernel
theorem dL_law_885 : decode cL_law 885 = .ok (.iaload, 1) := by decide +kernel
theorem dL_law_886 : decode cL_law 886 = .ok (.invokevirtual 133, 3) := by decide +kernel
theorem dL_law_889 : decode cL_law 889 = .ok (.istore 6, 2) := by decide +kernel
theorem dL_law_891 : decode cL_law 891 = .ok (.aload_n 2, 1) := by decide +kernel
theorem dL_law_892 : decode cL_law 892 = .ok (.invokevirtual 85, 3) := by decide +kernel
theorem dL_law_895 : decode cL_law 895 = .ok (.iload 5, 2) := by decide +kernel
theorem dL_law_897 : decode cL_law 897 = .ok (.if_icmp .eq 5, 3) := by decide +kernel
theorem dL_law_900 : decode cL_law 900 = .ok (.iconst 0, 1) := by decide +kernel
theorem dL_law_901 : decode cL_law 901 = .ok (.ireturn, 1) := by decide +kernel
theorem dL_law_902 : decode cL_law 902 = .ok (.iload 5, 2) := by decide +kernel
theorem dL_law_904 : decode cL_law 904 = .ok (.ifCond .ne 15, 3) := by decide +kernel
theorem dL_law_907 : decode cL_law 907 = .ok (.aload_n 3, 1) := by decide +kernel
theorem dL_law_908 : decode cL_law 908 = .ok (.iconst 0, 1) := by decide +kernel
theorem dL_law_909 : decode cL_law 909 = .ok (.laload, 1) := by decide +kernel
theorem dL_law_910 : decode cL_law 910 = .ok (.iload 6, 2) := by decide +kernel
theorem dL_law_912 : decode cL_law 912 = .ok (.i2l, 1) := by decide +kernel
theorem dL_law_913 : decode cL_law 913 = .ok (.lcmp, 1) := by decide +kernel
theorem dL_law_914 : decode cL_law 914 = .ok (.ifCond .eq 5, 3) := by decide +kernel
theorem dL_law_917 : decode cL_law 917 = .ok (.iconst 0, 1) := by decide +kernel
theorem dL_law_918 : decode cL_law 918 = .ok (.ireturn, 1) := by decide +kernel
theorem dL_law_919 : decode cL_law 919 = .ok (.goto 346, 3) := by decide +kernel
theorem dL_law_922 : decode cL_law 922 = .ok (.aload_n 1, 1) := by decide +kernel
theorem dL_law_923 : decode cL_law 923 = .ok (.aload_n 0, 1) := by decide +kernel
theorem dL_law_924 : decode cL_law 924 = .ok (.iload 4, 2) := by decide +kernel
theorem dL_law_926 : decode cL_law 926 = .ok (.iconst 1, 1) := by decide +kernel
theorem dL_law_927 : decode cL_law 927 = .ok (.iadd, 1) := by decide +kernel
theorem dL_law_928 : decode cL_law 928 = .ok (.iaload, 1) := by decide +kernel
theorem dL_law_929 : decode cL_law 929 = .ok (.aload_n 3, 1) := by decide +kernel
theorem dL_law_930 : decode cL_law 930 = .ok (.invokestatic 134, 3) := by decide +kernel
theorem dL_law_933 : decode cL_law 933 = .ok (.istore 5, 2) := by decide +kernel
theorem dL_law_935 : decode cL_law 935 = .ok (.aload_n 2, 1) := by decide +kernel
theorem dL_law_936 : decode cL_law 936 = .ok (.aload_n 0, 1) := by decide +kernel
theorem dL_law_937 : decode cL_law 937 = .ok (.iload 4, 2) := by decide +kernel
theorem dL_law_939 : decode cL_law 939 = .ok (.iconst 1, 1) := by decide +kernel
theorem dL_law_940 : decode cL_law 940 = .ok (.iadd, 1) := by decide +kernel
theorem dL_law_941 : decode cL_law 941 = .ok (.iaload, 1) := by decide +kernel
theorem dL_law_942 : decode cL_law 942 = .ok (.invokevirtual 136, 3) := by decide +kernel
theorem dL_law_945 : decode cL_law 945 = .ok (.istore 6, 2) := by decide +kernel
theorem dL_law_947 : decode cL_law 947 = .ok (.aload_n 2, 1) := by decide +kernel
theorem dL_law_948 : decode cL_law 948 = .ok (.invokevirtual 85, 3) := by decide +kernel
theorem dL_law_951 : decode cL_law 951 = .ok (.iload 5, 2) := by decide +kernel
theorem dL_law_953 : decode cL_law 953 = .ok (.if_icmp .eq 5, 3) := by decide +kernel
theorem dL_law_956 : decode cL_law 956 = .ok (.iconst 0, 1) := by decide +kernel
theorem dL_law_957 : decode cL_law 957 = .ok (.ireturn, 1) := by decide +kernel
theorem dL_law_958 : decode cL_law 958 = .ok (.iload 5, 2) := by decide +kernel
theorem dL_law_960 : decode cL_law 960 = .ok (.ifCond .ne 15, 3) := by decide +kernel
theorem dL_law_963 : decode cL_law 963 = .ok (.aload_n 3, 1) := by decide +kernel
theorem dL_law_964 : decode cL_law 964 = .ok (.iconst 0, 1) := by decide +kernel
theorem dL_law_965 : decode cL_law 965 = .ok (.laload, 1) := by decide +kernel
theorem dL_law_966 : decode cL_law 966 = .ok (.iload 6, 2) := by decide +kernel
theorem dL_law_968 : decode cL_law 968 = .ok (.i2l, 1) := by decide +kernel
theorem dL_law_969 : decode cL_law 969 = .ok (.lcmp, 1) := by decide +kernel
theorem dL_law_970 : decode cL_law 970 = .ok (.ifCond .eq 5, 3) := by decide +kernel
theorem dL_law_973 : decode cL_law 973 = .ok (.iconst 0, 1) := by decide +kernel
theorem dL_law_974 : decode cL_law 974 = .ok (.ireturn, 1) := by decide +kernel
theorem dL_law_975 : decode cL_law 975 = .ok (.goto 290, 3) := by decide +kernel
theorem dL_law_978 : decode cL_law 978 = .ok (.aload_n 1, 1) := by decide +kernel
theorem dL_law_979 : decode cL_law 979 = .ok (.aload_n 0, 1) := by decide +kernel
theorem dL_law_980 : decode cL_law 980 = .ok (.iload 4, 2) := by decide +kernel
theorem dL_law_982 : decode cL_law 982 = .ok (.iconst 1, 1) := by decide +kernel
theorem dL_law_983 : decode cL_law 983 = .ok (.iadd, 1) := by decide +kernel
theorem dL_law_984 : decode cL_law 984 = .ok (.iaload, 1) := by decide +kernel
theorem dL_law_985 : decode cL_law 985 = .ok (.aload_n 3, 1) := by decide +kernel
theorem dL_law_986 : decode cL_law 986 = .ok (.invokestatic 137, 3) := by decide +kernel
theorem dL_law_989 : decode cL_law 989 = .ok (.istore 5, 2) := by decide +kernel
theorem dL_law_991 : decode cL_law 991 = .ok (.aload_n 2, 1) := by decide +kernel
theorem dL_law_992 : decode cL_law 992 = .ok (.aload_n 0, 1) := by decide +kernel
theorem dL_law_993 : decode cL_law 993 = .ok (.iload 4, 2) := by decide +kernel
theorem dL_law_995 : decode cL_law 995 = .ok (.iconst 1, 1) := by decide +kernel
theorem dL_law_996 : decode cL_law 996 = .ok (.iadd, 1) := by decide +kernel
theorem dL_law_997 : decode cL_law 997 = .ok (.iaload, 1) := by decide +kernel
theorem dL_law_998 : decode cL_law 998 = .ok (.invokevirtual 139, 3) := by decide +kernel
theorem dL_law_1001 : decode cL_law 1001 = .ok (.istore 6, 2) := by decide +kernel
theorem dL_law_1003 : decode cL_law 1003 = .ok (.aload_n 2, 1) := by decide +kernel
theorem dL_law_1004 : decode cL_law 1004 = .ok (.invokevirtual 85, 3) := by decide +kernel
theorem dL_law_1007 : decode cL_law 1007 = .ok (.iload 5, 2) := by decide +kernel
theorem dL_law_1009 : decode cL_law 1009 = .ok (.if_icmp .eq 5, 3) := by decide +kernel
theorem dL_law_1012 : decode cL_law 1012 = .ok (.iconst 0, 1) := by decide +kernel
theorem dL_law_1013 : decode cL_law 1013 = .ok (.ireturn, 1) := by decide +kernel
theorem dL_law_1014 : decode cL_law 1014 = .ok (.iload 5, 2) := by decide +kernel
theorem dL_law_1016 : decode cL_law 1016 = .ok (.ifCond .ne 15, 3) := by decide +kernel
theorem dL_law_1019 : decode cL_law 1019 = .ok (.aload_n 3, 1) := by decide +kernel
theorem dL_law_1020 : decode cL_law 1020 = .ok (.iconst 0, 1) := by decide +kernel
theorem dL_law_1021 : decode cL_law 1021 = .ok (.laload, 1) := by decide +kernel
theorem dL_law_1022 : decode cL_law 1022 = .ok (.iload 6, 2) := by decide +kernel
theorem dL_law_1024 : decode cL_law 1024 = .ok (.i2l, 1) := by decide +kernel
theorem dL_law_1025 : decode cL_law 1025 = .ok (.lcmp, 1) := by decide +kernel
theorem dL_law_1026 : decode cL_law 1026 = .ok (.ifCond .eq 5, 3) := by decide +kernel
theorem dL_law_1029 : decode cL_law 1029 = .ok (.iconst 0, 1) := by decide +kernel
theorem dL_law_1030 : decode cL_law 1030 = .ok (.ireturn, 1) := by decide +kernel
theorem dL_law_1031 : decode cL_law 1031 = .ok (.goto 234, 3) := by decide +kernel
theorem dL_law_1034 : decode cL_law 1034 = .ok (.aload_n 1, 1) := by decide +kernel
theorem dL_law_1035 : decode cL_law 1035 = .ok (.aload_n 0, 1) := by decide +kernel
theorem dL_law_1036 : decode cL_law 1036 = .ok (.iload 4, 2) := by decide +kernel
theorem dL_law_1038 : decode cL_law 1038 = .ok (.iconst 1, 1) := by decide +kernel
theorem dL_law_1039 : decode cL_law 1039 = .ok (.iadd, 1) := by decide +kernel
theorem dL_law_1040 : decode cL_law 1040 = .ok (.iaload, 1) := by decide +kernel
theorem dL_law_1041 : decode cL_law 1041 = .ok (.aload_n 3, 1) := by decide +kernel
theorem dL_law_1042 : decode cL_law 1042 = .ok (.invokestatic 140, 3) := by decide +kernel
theorem dL_law_1045 : decode cL_law 1045 = .ok (.istore 5, 2) := by decide +kernel
theorem dL_law_1047 : decode cL_law 1047 = .ok (.aload_n 2, 1) := by decide +kernel
theorem dL_law_1048 : decode cL_law 1048 = .ok (.aload_n 0, 1) := by decide +kernel
theorem dL_law_1049 : decode cL_law 1049 = .ok (.iload 4, 2) := by decide +kernel
theorem dL_law_1051 : decode cL_law 1051 = .ok (.iconst 1, 1) := by decide +kernel
theorem dL_law_1052 : decode cL_law 1052 = .ok (.iadd, 1) := by decide +kernel
theorem dL_law_1053 : decode cL_law 1053 = .ok (.iaload, 1) := by decide +kernel
theorem dL_law_1054 : decode cL_law 1054 = .ok (.invokevirtual 142, 3) := by decide +kernel
theorem dL_law_1057 : decode cL_law 1057 = .ok (.istore 6, 2) := by decide +kernel
theorem dL_law_1059 : decode cL_law 1059 = .ok (.aload_n 2, 1) := by decide +kernel
theorem dL_law_1060 : decode cL_law 1060 = .ok (.invokevirtual 85, 3) := by decide +kernel
theorem dL_law_1063 : decode cL_law 1063 = .ok (.iload 5, 2) := by decide +kernel
theorem dL_law_1065 : decode cL_law 1065 = .ok (.if_icmp .eq 5, 3) := by decide +kernel
theorem dL_law_1068 : decode cL_law 1068 = .ok (.iconst 0, 1) := by decide +kernel
theorem dL_law_1069 : decode cL_law 1069 = .ok (.ireturn, 1) := by decide +kernel
theorem dL_law_1070 : decode cL_law 1070 = .ok (.iload 5, 2) := by decide +kernel
theorem dL_law_1072 : decode cL_law 1072 = .ok (.ifCond .ne 22, 3) := by decide +kernel
theorem dL_law_1075 : decode cL_law 1075 = .ok (.aload_n 3, 1) := by decide +kernel
theorem dL_law_1076 : decode cL_law 1076 = .ok (.iconst 0, 1) := by decide +kernel
theorem dL_law_1077 : decode cL_law 1077 = .ok (.laload, 1) := by decide +kernel
theorem dL_law_1078 : decode cL_law 1078 = .ok (.iload 6, 2) := by decide +kernel
theorem dL_law_1080 : decode cL_law 1080 = .ok (.ifCond .eq 7, 3) := by decide +kernel
theorem dL_law_1083 : decode cL_law 1083 = .ok (.lconst 1, 1) := by decide +kernel
theorem dL_law_1084 : decode cL_law 1084 = .ok (.goto 4, 3) := by decide +kernel
theorem dL_law_1087 : decode cL_law 1087 = .ok (.lconst 0, 1) := by decide +kernel
theorem dL_law_1088 : decode cL_law 1088 = .ok (.lcmp, 1) := by decide +kernel
theorem dL_law_1089 : decode cL_law 1089 = .ok (.ifCond .eq 5, 3) := by decide +kernel
theorem dL_law_1092 : decode cL_law 1092 = .ok (.iconst 0, 1) := by decide +kernel
theorem dL_law_1093 : decode cL_law 1093 = .ok (.ireturn, 1) := by decide +kernel
theorem dL_law_1094 : decode cL_law 1094 = .ok (.goto 171, 3) := by decide +kernel
theorem dL_law_1097 : decode cL_law 1097 = .ok (.aload_n 1, 1) := by decide +kernel
theorem dL_law_1098 : decode cL_law 1098 = .ok (.aload_n 0, 1) := by decide +kernel
theorem dL_law_1099 : decode cL_law 1099 = .ok (.iload 4, 2) := by decide +kernel
theorem dL_law_1101 : decode cL_law 1101 = .ok (.iconst 1, 1) := by decide +kernel
theorem dL_law_1102 : decode cL_law 1102 = .ok (.iadd, 1) := by decide +kernel
theorem dL_law_1103 : decode cL_law 1103 = .ok (.iaload, 1) := by decide +kernel
theorem dL_law_1104 : decode cL_law 1104 = .ok (.aload_n 3, 1) := by decide +kernel
theorem dL_law_1105 : decode cL_law 1105 = .ok (.invokestatic 143, 3) := by decide +kernel
theorem dL_law_1108 : decode cL_law 1108 = .ok (.istore 5, 2) := by decide +kernel
theorem dL_law_1110 : decode cL_law 1110 = .ok (.aload_n 2, 1) := by decide +kernel
theorem dL_law_1111 : decode cL_law 1111 = .ok (.aload_n 0, 1) := by decide +kernel
theorem dL_law_1112 : decode cL_law 1112 = .ok (.iload 4, 2) := by decide +kernel
theorem dL_law_1114 : decode cL_law 1114 = .ok (.iconst 1, 1) := by decide +kernel
theorem dL_law_1115 : decode cL_law 1115 = .ok (.iadd, 1) := by decide +kernel
theorem dL_law_1116 : decode cL_law 1116 = .ok (.iaload, 1) := by decide +kernel
theorem dL_law_1117 : decode cL_law 1117 = .ok (.invokevirtual 145, 3) := by decide +kernel
theorem dL_law_1120 : decode cL_law 1120 = .ok (.istore 6, 2) := by decide +kernel
theorem dL_law_1122 : decode cL_law 1122 = .ok (.aload_n 2, 1) := by decide +kernel
theorem dL_law_1123 : decode cL_law 1123 = .ok (.invokevirtual 85, 3) := by decide +kernel
theorem dL_law_1126 : decode cL_law 1126 = .ok (.iload 5, 2) := by decide +kernel
theorem dL_law_1128 : decode cL_law 1128 = .ok (.if_icmp .eq 5, 3) := by decide +kernel
theorem dL_law_1131 : decode cL_law 1131 = .ok (.iconst 0, 1) := by decide +kernel
theorem dL_law_1132 : decode cL_law 1132 = .ok (.ireturn, 1) := by decide +kernel
theorem dL_law_1133 : decode cL_law 1133 = .ok (.iload 5, 2) := by decide +kernel
theorem dL_law_1135 : decode cL_law 1135 = .ok (.ifCond .ne 15, 3) := by decide +kernel
theorem dL_law_1138 : decode cL_law 1138 = .ok (.aload_n 3, 1) := by decide +kernel
theorem dL_law_1139 : decode cL_law 1139 = .ok (.iconst 0, 1) := by decide +kernel
theorem dL_law_1140 : decode cL_law 1140 = .ok (.laload, 1) := by decide +kernel
theorem dL_law_1141 : decode cL_law 1141 = .ok (.iload 6, 2) := by decide +kernel
theorem dL_law_1143 : decode cL_law 1143 = .ok (.i2l, 1) := by decide +kernel
theorem dL_law_1144 : decode cL_law 1144 = .ok (.lcmp, 1) := by decide +kernel
theorem dL_law_1145 : decode cL_law 1145 = .ok (.ifCond .eq 5, 3) := by decide +kernel
theorem dL_law_1148 : decode cL_law 1148 = .ok (.iconst 0, 1) := by decide +kernel
theorem dL_law_1149 : decode cL_law 1149 = .ok (.ireturn, 1) := by decide +kernel
theorem dL_law_1150 : decode cL_law 1150 = .ok (.goto 115, 3) := by decide +kernel
theorem dL_law_1153 : decode cL_law 1153 = .ok (.aload_n 1, 1) := by decide +kernel
theorem dL_law_1154 : decode cL_law 1154 = .ok (.aload_n 0, 1) := by decide +kernel
theorem dL_law_1155 : decode cL_law 1155 = .ok (.iload 4, 2) := by decide +kernel
theorem dL_law_1157 : decode cL_law 1157 = .ok (.iconst 1, 1) := by decide +kernel
theorem dL_law_1158 : decode cL_law 1158 = .ok (.iadd, 1) := by decide +kernel
theorem dL_law_1159 : decode cL_law 1159 = .ok (.iaload, 1) := by decide +kernel
theorem dL_law_1160 : decode cL_law 1160 = .ok (.aload_n 3, 1) := by decide +kernel
theorem dL_law_1161 : decode cL_law 1161 = .ok (.invokestatic 146, 3) := by decide +kernel
theorem dL_law_1164 : decode cL_law 1164 = .ok (.istore 5, 2) := by decide +kernel
theorem dL_law_1166 : decode cL_law 1166 = .ok (.aload_n 2, 1) := by decide +kernel
theorem dL_law_1167 : decode cL_law 1167 = .ok (.aload_n 0, 1) := by decide +kernel
theorem dL_law_1168 : decode cL_law 1168 = .ok (.iload 4, 2) := by decide +kernel
theorem dL_law_1170 : decode cL_law 1170 = .ok (.iconst 1, 1) := by decide +kernel
theorem dL_law_1171 : decode cL_law 1171 = .ok (.iadd, 1) := by decide +kernel
theorem dL_law_1172 : decode cL_law 1172 = .ok (.iaload, 1) := by decide +kernel
theorem dL_law_1173 : decode cL_law 1173 = .ok (.invokevirtual 148, 3) := by decide +kernel
theorem dL_law_1176 : decode cL_law 1176 = .ok (.istore 6, 2) := by decide +kernel
theorem dL_law_1178 : decode cL_law 1178 = .ok (.aload_n 2, 1) := by decide +kernel
theorem dL_law_1179 : decode cL_law 1179 = .ok (.invokevirtual 85, 3) := by decide +kernel
theorem dL_law_1182 : decode cL_law 1182 = .ok (.iload 5, 2) := by decide +kernel
theorem dL_law_1184 : decode cL_law 1184 = .ok (.if_icmp .eq 5, 3) := by decide +kernel
theorem dL_law_1187 : decode cL_law 1187 = .ok (.iconst 0, 1) := by decide +kernel
theorem dL_law_1188 : decode cL_law 1188 = .ok (.ireturn, 1) := by decide +kernel
theorem dL_law_1189 : decode cL_law 1189 = .ok (.iload 5, 2) := by decide +kernel
theorem dL_law_1191 : decode cL_law 1191 = .ok (.ifCond .ne 15, 3) := by decide +kernel
theorem dL_law_1194 : decode cL_law 1194 = .ok (.aload_n 3, 1) := by decide +kernel
theorem dL_law_1195 : decode cL_law 1195 = .ok (.iconst 0, 1) := by decide +kernel
theorem dL_law_1196 : decode cL_law 1196 = .ok (.laload, 1) := by decide +kernel
theorem dL_law_1197 : decode cL_law 1197 = .ok (.iload 6, 2) := by decide +kernel
theorem dL_law_1199 : decode cL_law 1199 = .ok (.i2l, 1) := by decide +kernel
theorem dL_law_1200 : decode cL_law 1200 = .ok (.lcmp, 1) := by decide +kernel
theorem dL_law_1201 : decode cL_law 1201 = .ok (.ifCond .eq 5, 3) := by decide +kernel
theorem dL_law_1204 : decode cL_law 1204 = .ok (.iconst 0, 1) := by decide +kernel
theorem dL_law_1205 : decode cL_law 1205 = .ok (.ireturn, 1) := by decide +kernel
theorem dL_law_1206 : decode cL_law 1206 = .ok (.goto 59, 3) := by decide +kernel
theorem dL_law_1209 : decode cL_law 1209 = .ok (.aload_n 1, 1) := by decide +kernel
theorem dL_law_1210 : decode cL_law 1210 = .ok (.aload_n 0, 1) := by decide +kernel
theorem dL_law_1211 : decode cL_law 1211 = .ok (.iload 4, 2) := by decide +kernel
theorem dL_law_1213 : decode cL_law 1213 = .ok (.iconst 1, 1) := by decide +kernel
theorem dL_law_1214 : decode cL_law 1214 = .ok (.iadd, 1) := by decide +kernel
theorem dL_law_1215 : decode cL_law 1215 = .ok (.iaload, 1) := by decide +kernel
theorem dL_law_1216 : decode cL_law 1216 = .ok (.aload_n 3, 1) := by decide +kernel
theorem dL_law_1217 : decode cL_law 1217 = .ok (.invokestatic 149, 3) := by decide +kernel
theorem dL_law_1220 : decode cL_law 1220 = .ok (.istore 5, 2) := by decide +kernel
theorem dL_law_1222 : decode cL_law 1222 = .ok (.aload_n 2, 1) := by decide +kernel
theorem dL_law_1223 : decode cL_law 1223 = .ok (.aload_n 0, 1) := by decide +kernel
theorem dL_law_1224 : decode cL_law 1224 = .ok (.iload 4, 2) := by decide +kernel
theorem dL_law_1226 : decode cL_law 1226 = .ok (.iconst 1, 1) := by decide +kernel
theorem dL_law_1227 : decode cL_law 1227 = .ok (.iadd, 1) := by decide +kernel
theorem dL_law_1228 : decode cL_law 1228 = .ok (.iaload, 1) := by decide +kernel
theorem dL_law_1229 : decode cL_law 1229 = .ok (.invokevirtual 151, 3) := by decide +kernel
theorem dL_law_1232 : decode cL_law 1232 = .ok (.istore 6, 2) := by decide +kernel
theorem dL_law_1234 : decode cL_law 1234 = .ok (.aload_n 2, 1) := by decide +kernel
theorem dL_law_1235 : decode cL_law 1235 = .ok (.invokevirtual 85, 3) := by decide +kernel
theorem dL_law_1238 : decode cL_law 1238 = .ok (.iload 5, 2) := by decide +kernel
theorem dL_law_1240 : decode cL_law 1240 = .ok (.if_icmp .eq 5, 3) := by decide +kernel
theorem dL_law_1243 : decode cL_law 1243 = .ok (.iconst 0, 1) := by decide +kernel
theorem dL_law_1244 : decode cL_law 1244 = .ok (.ireturn, 1) := by decide +kernel
theorem dL_law_1245 : decode cL_law 1245 = .ok (.iload 5, 2) := by decide +kernel
theorem dL_law_1247 : decode cL_law 1247 = .ok (.ifCond .ne 15, 3) := by decide +kernel
theorem dL_law_1250 : decode cL_law 1250 = .ok (.aload_n 3, 1) := by decide +kernel
theorem dL_law_1251 : decode cL_law 1251 = .ok (.iconst 0, 1) := by decide +kernel
theorem dL_law_1252 : decode cL_law 1252 = .ok (.laload, 1) := by decide +kernel
theorem dL_law_1253 : decode cL_law 1253 = .ok (.iload 6, 2) := by decide +kernel
theorem dL_law_1255 : decode cL_law 1255 = .ok (.i2l, 1) := by decide +kernel
theorem dL_law_1256 : decode cL_law 1256 = .ok (.lcmp, 1) := by decide +kernel
theorem dL_law_1257 : decode cL_law 1257 = .ok (.ifCond .eq 5, 3) := by decide +kernel
theorem dL_law_1260 : decode cL_law 1260 = .ok (.iconst 0, 1) := by decide +kernel
theorem dL_law_1261 : decode cL_law 1261 = .ok (.ireturn, 1) := by decide +kernel
theorem dL_law_1262 : decode cL_law 1262 = .ok (.goto 3, 3) := by decide +kernel
theorem dL_law_1265 : decode cL_law 1265 = .ok (.iinc 4 5, 3) := by decide +kernel
theorem dL_law_1268 : decode cL_law 1268 = .ok (.goto (-1245), 3) := by decide +kernel
theorem dL_law_1271 : decode cL_law 1271 = .ok (.iconst 1, 1) := by decide +kernel
theorem dL_law_1272 : decode cL_law 1272 = .ok (.ireturn, 1) := by decide +kernel
abbrev vwCl : List vw_C := [(RJx4a65c, TJx4a65c, 3), (RX0, TX0, 7), (RX1, TX1, 9), (RX2, TX2, 4), (RX3, TX3, 2), (RX4, TX4, 6), (RX5, TX5, 23)]
end
section
-- ===== the environment that every method needs, and how it goes along =====
abbrev gFm : Type := Nat → Option va_E
def gT (cy : Nat → ClassId) : List (ClassId × FieldType) := [(cy 0, .int), (cy 1, .boolean), (cy 2, .long), (cy 3, .object "TollGateway$Plan"), (cy 4, .object "TollGateway$Route"), (cy 5, .object "java/lang/Object")]
def gNF : List (String × Nat × String × String × String) := [("TollGateway", 90, "TollGateway$Plan", "number", "I"), ("TollGateway$Key", 13, "TollGateway$Plan", "size", "I"), ("TollGateway", 43, "TollGateway$Plan", "size", "I"), ("TollGateway", 47, "TollGateway$Plan", "refill", "I"), ("TollGateway$Key", 60, "TollGateway$Plan", "refill", "I"), ("TollGateway", 50, "TollGateway$Plan", "slowRefill", "I"), ("TollGateway$Key", 57, "TollGateway$Plan", "slowRefill", "I"), ("TollGateway", 57, "TollGateway$Route", "price", "I"), ("TollGateway", 60, "TollGateway$Route", "weight", "I"), ("TollGateway", 86, "TollGateway$Key", "plan", "LTollGateway$Plan;"), ("TollGateway$Call", 52, "TollGateway$Key", "tokens", "I"), ("TollGateway", 108, "TollGateway$Key", "tokens", "I"), ("TollGateway", 93, "TollGateway$Key", "trustLine", "I"), ("TollGateway", 103, "TollGateway$Key", "credit", "I"), ("TollGateway", 165, "TollGateway$Key", "debt", "I"), ("TollGateway", 168, "TollGateway$Key", "held", "I"), ("TollGateway$Call", 45, "TollGateway$Key", "spent", "I"), ("TollGateway", 174, "TollGateway$Key", "spent", "I"), ("TollGateway", 97, "TollGateway$Key", "paid", "I"), ("TollGateway", 200, "TollGateway$Call", "dueTick", "I"), ("TollGateway", 140, "TollGateway$Call", "cost", "I"), ("TollGateway", 151, "TollGateway$Call", "endTick", "I"), ("TollGateway", 145, "TollGateway$Call", "wasDisputed", "Z")]
def gNM : List (String × Nat × MethodName) := [("TollGateway", 31, yX2_init), ("TollGateway", 34, yX3_init), ("TollGateway", 75, yX1_init), ("TollGateway", 100, yX1_receive), ("TollGateway", 111, yX1_canCover), ("TollGateway", 115, yX1_openHold), ("TollGateway", 123, yX0_init), ("TollGateway", 130, yX0_hasEnded), ("TollGateway", 136, yX0_settle), ("TollGateway$Call", 35, yX1_closeHold), ("TollGateway", 156, yX0_giveBack), ("TollGateway$Call", 48, yX1_receive), ("TollGateway", 203, yX1_refillBucket), ("TollGateway", 171, yX1_refillsSlowly)]
def gSt : List (Nat × String) := [(179, "plan is out of range"), (195, "a parameter is out of range"), (182, "route is out of range"), (68, "there are 8 keys"), (186, "there is no such key"), (106, "80 calls were let through"), (193, "there is no such call"), (134, "the call has ended"), (143, "the call has not ended"), (149, "the call was disputed already"), (154, "the call ended more than 50 ticks ago")]
def gCs : List (String × String) := [(RX1, "java/lang/Object"), (RX0, "java/lang/Object"), ("java/lang/IllegalArgumentException", "java/lang/IllegalArgumentException"), ("java/lang/IllegalStateException", "java/lang/IllegalStateException"), ("java/lang/IndexOutOfBoundsException", "java/lang/IndexOutOfBoundsException")]
def gNc : List (String × String) := [("java/lang/IllegalArgumentException", "java/lang/IndexOutOfBoundsException"), ("java/lang/IllegalStateException", "java/lang/IndexOutOfBoundsException"), ("java/lang/IllegalStateException", "java/lang/IllegalArgumentException")]
def gAO : List String := ["TollGateway$Plan", "TollGateway$Route", "java/lang/Object"]
def gE (de mi : Nat) (A : Nat → Prop) (U : State) (H : Heap) : Prop :=
  (∀ q ∈ gNF, va_Nw (.fieldLinkNest q.1 q.2.1 q.2.2.1 q.2.2.2.1 q.2.2.2.2 "TollGateway") U) ∧
  (∀ q ∈ gNM, va_Nw (.methodLinkNest q.1 q.2.1 q.2.2 "TollGateway") U) ∧
  (∀ q ∈ gCs, va_Nw (.castable q.1 q.2) U) ∧ (∀ q ∈ gNc, va_Nc q.1 q.2 U) ∧ (∀ q ∈ gAO, va_AO q U) ∧
  (∀ q ∈ gSt, ∃ a, vk_R RX4 q.1 q.2 a U) ∧ va_Mi "[Ljava/lang/Object;" mi U ∧ va_Dc U ∧
  vx_Zq Bundle.tN "UNASSIGNED_STACK" Bundle.steD A U H ∧ vx_Zq Bundle.tN "SUPPRESSED_SENTINEL" Bundle.listD A U H ∧
  va_Z "java/util/ArrayList" "DEFAULTCAPACITY_EMPTY_ELEMENTDATA" "[Ljava/lang/Object;" (.ref de) A U H ∧ va_T (.object "java/lang/Object") de 0 (fun _ => .null) A U H
theorem gE.go {de mi : Nat} {A B : Nat → Prop} {s U : State} {H : Heap} {locs : List Loc} (h : gE de mi A s s.heap) (hS : va_S A s.heap H locs) (hW : s.WarmedH U.vm) (hB : ∀ q, B q → A q) : gE de mi B U H := by
  obtain ⟨h1, h2, h3, h4, h5, h6, h7, h8, h9, h10, h11, h12⟩ := h
  refine ⟨fun q hq => va_Nw.warmF hW (h1 q hq), fun q hq => va_Nw.warmM hW (h2 q hq), fun q hq => va_Nw.warmC hW (h3 q hq), fun q hq => va_Nc.moved hW.alike (h4 q hq), fun q hq => va_AO.moved hW.alike (h5 q hq), fun q hq => ?_, va_Mi.moved hW.alike h7, va_Dc.moved hW.alike h8, ?_, ?_, ?_, ?_⟩
  · obtain ⟨a, ha⟩ := h6 q hq
    exact ⟨a, vk_R.warm hW ha⟩
  · exact vx_Zq.narrow (vx_Zq.moved hW.alike (h9.kept hS.2.1)) hB
  · exact vx_Zq.narrow (vx_Zq.moved hW.alike (h10.kept hS.2.1)) hB
  · exact va_Z.narrow (va_Z.moved hW.alike (h11.kept hS.2.1)) hB
  · exact va_T.narrow (va_T.moved hW.alike (h12.kept hS.2.1)) hB
theorem gE.same {de mi : Nat} {A : Nat → Prop} {u U : State} {H : Heap} (h : gE de mi A u H) (hv : u.vm = U.vm) : gE de mi A U H := by
  have ha : u.vm.Alike U.vm := hv ▸ Vm.Alike.refl u.vm
  obtain ⟨h1, h2, h3, h4, h5, h6, h7, h8, h9, h10, h11, h12⟩ := h
  refine ⟨fun q hq => va_Nw.same rfl hv (h1 q hq), fun q hq => va_Nw.same rfl hv (h2 q hq), fun q hq => va_Nw.same rfl hv (h3 q hq), fun q hq => va_Nc.moved ha (h4 q hq), fun q hq => va_AO.moved ha (h5 q hq), fun q hq => ?_, va_Mi.moved ha h7, va_Dc.moved ha h8, h9.moved ha, h10.moved ha, h11.moved ha, h12.moved ha⟩
  obtain ⟨a, hk⟩ := h6 q hq
  exact ⟨a, vk_R.same hv.symm hk⟩
theorem nf_T90 {de mi : Nat} {A : Nat → Prop} {s : State} {H : Heap} {args : Array Value} (h : gE de mi A s H) : (Cond.fieldLinkNest "TollGateway" 90 "TollGateway$Plan" "number" "I" "TollGateway").before args s = true := va_Nw.use rfl (h.1 ("TollGateway", 90, "TollGateway$Plan", "number", "I") (List.mem_of_getElem? (i := 0) rfl))
theorem nf_K13 {de mi : Nat} {A : Nat → Prop} {s : State} {H : Heap} {args : Array Value} (h : gE de mi A s H) : (Cond.fieldLinkNest "TollGateway$Key" 13 "TollGateway$Plan" "size" "I" "TollGateway").before args s = true := va_Nw.use rfl (h.1 ("TollGateway$Key", 13, "TollGateway$Plan", "size", "I") (List.mem_of_getElem? (i := 1) rfl))
theorem nf_T43 {de mi : Nat} {A : Nat → Prop} {s : State} {H : Heap} {args : Array Value} (h : gE de mi A s H) : (Cond.fieldLinkNest "TollGateway" 43 "TollGateway$Plan" "size" "I" "TollGateway").before args s = true := va_Nw.use rfl (h.1 ("TollGateway", 43, "TollGateway$Plan", "size", "I") (List.mem_of_getElem? (i := 2) rfl))
theorem nf_T47 {de mi : Nat} {A : Nat → Prop} {s : State} {H : Heap} {args : Array Value} (h : gE de mi A s H) : (Cond.fieldLinkNest "TollGateway" 47 "TollGateway$Plan" "refill" "I" "TollGateway").before args s = true := va_Nw.use rfl (h.1 ("TollGateway", 47, "TollGateway$Plan", "refill", "I") (List.mem_of_getElem? (i := 3) rfl))
theorem nf_K60 {de mi : Nat} {A : Nat → Prop} {s : State} {H : Heap} {args : Array Value} (h : gE de mi A s H) : (Cond.fieldLinkNest "TollGateway$Key" 60 "TollGateway$Plan" "refill" "I" "TollGateway").before args s = true := va_Nw.use rfl (h.1 ("TollGateway$Key", 60, "TollGateway$Plan", "refill", "I") (List.mem_of_getElem? (i := 4) rfl))
theorem nf_T50 {de mi : Nat} {A : Nat → Prop} {s : State} {H : Heap} {args : Array Value} (h : gE de mi A s H) : (Cond.fieldLinkNest "TollGateway" 50 "TollGateway$Plan" "slowRefill" "I" "TollGateway").before args s = true := va_Nw.use rfl (h.1 ("TollGateway", 50, "TollGateway$Plan", "slowRefill", "I") (List.mem_of_getElem? (i := 5) rfl))
theorem nf_K57 {de mi : Nat} {A : Nat → Prop} {s : State} {H : Heap} {args : Array Value} (h : gE de mi A s H) : (Cond.fieldLinkNest "TollGateway$Key" 57 "TollGateway$Plan" "slowRefill" "I" "TollGateway").before args s = true := va_Nw.use rfl (h.1 ("TollGateway$Key", 57, "TollGateway$Plan", "slowRefill", "I") (List.mem_of_getElem? (i := 6) rfl))
theorem nf_T57 {de mi : Nat} {A : Nat → Prop} {s : State} {H : Heap} {args : Array Value} (h : gE de mi A s H) : (Cond.fieldLinkNest "TollGateway" 57 "TollGateway$Route" "price" "I" "TollGateway").before args s = true := va_Nw.use rfl (h.1 ("TollGateway", 57, "TollGateway$Route", "price", "I") (List.mem_of_getElem? (i := 7) rfl))
theorem nf_T60 {de mi : Nat} {A : Nat → Prop} {s : State} {H : Heap} {args : Array Value} (h : gE de mi A s H) : (Cond.fieldLinkNest "TollGateway" 60 "TollGateway$Route" "weight" "I" "TollGateway").before args s = true := va_Nw.use rfl (h.1 ("TollGateway", 60, "TollGateway$Route", "weight", "I") (List.mem_of_getElem? (i := 8) rfl))
theorem nf_T86 {de mi : Nat} {A : Nat → Prop} {s : State} {H : Heap} {args : Array Value} (h : gE de mi A s H) : (Cond.fieldLinkNest "TollGateway" 86 "TollGateway$Key" "plan" "LTollGateway$Plan;" "TollGateway").before args s = true := va_Nw.use rfl (h.1 ("TollGateway", 86, "TollGateway$Key", "plan", "LTollGateway$Plan;") (List.mem_of_getElem? (i := 9) rfl))
theorem nf_C52 {de mi : Nat} {A : Nat → Prop} {s : State} {H : Heap} {args : Array Value} (h : gE de mi A s H) : (Cond.fieldLinkNest "TollGateway$Call" 52 "TollGateway$Key" "tokens" "I" "TollGateway").before args s = true := va_Nw.use rfl (h.1 ("TollGateway$Call", 52, "TollGateway$Key", "tokens", "I") (List.mem_of_getElem? (i := 10) rfl))
theorem nf_T108 {de mi : Nat} {A : Nat → Prop} {s : State} {H : Heap} {args : Array Value} (h : gE de mi A s H) : (Cond.fieldLinkNest "TollGateway" 108 "TollGateway$Key" "tokens" "I" "TollGateway").before args s = true := va_Nw.use rfl (h.1 ("TollGateway", 108, "TollGateway$Key", "tokens", "I") (List.mem_of_getElem? (i := 11) rfl))
theorem nf_T93 {de mi : Nat} {A : Nat → Prop} {s : State} {H : Heap} {args : Array Value} (h : gE de mi A s H) : (Cond.fieldLinkNest "TollGateway" 93 "TollGateway$Key" "trustLine" "I" "TollGateway").before args s = true := va_Nw.use rfl (h.1 ("TollGateway", 93, "TollGateway$Key", "trustLine", "I") (List.mem_of_getElem? (i := 12) rfl))
theorem nf_T103 {de mi : Nat} {A : Nat → Prop} {s : State} {H : Heap} {args : Array Value} (h : gE de mi A s H) : (Cond.fieldLinkNest "TollGateway" 103 "TollGateway$Key" "credit" "I" "TollGateway").before args s = true := va_Nw.use rfl (h.1 ("TollGateway", 103, "TollGateway$Key", "credit", "I") (List.mem_of_getElem? (i := 13) rfl))
theorem nf_T165 {de mi : Nat} {A : Nat → Prop} {s : State} {H : Heap} {args : Array Value} (h : gE de mi A s H) : (Cond.fieldLinkNest "TollGateway" 165 "TollGateway$Key" "debt" "I" "TollGateway").before args s = true := va_Nw.use rfl (h.1 ("TollGateway", 165, "TollGateway$Key", "debt", "I") (List.mem_of_getElem? (i := 14) rfl))
theorem nf_T168 {de mi : Nat} {A : Nat → Prop} {s : State} {H : Heap} {args : Array Value} (h : gE de mi A s H) : (Cond.fieldLinkNest "TollGateway" 168 "TollGateway$Key" "held" "I" "TollGateway").before args s = true := va_Nw.use rfl (h.1 ("TollGateway", 168, "TollGateway$Key", "held", "I") (List.mem_of_getElem? (i := 15) rfl))
theorem nf_C45 {de mi : Nat} {A : Nat → Prop} {s : State} {H : Heap} {args : Array Value} (h : gE de mi A s H) : (Cond.fieldLinkNest "TollGateway$Call" 45 "TollGateway$Key" "spent" "I" "TollGateway").before args s = true := va_Nw.use rfl (h.1 ("TollGateway$Call", 45, "TollGateway$Key", "spent", "I") (List.mem_of_getElem? (i := 16) rfl))
theorem nf_T174 {de mi : Nat} {A : Nat → Prop} {s : State} {H : Heap} {args : Array Value} (h : gE de mi A s H) : (Cond.fieldLinkNest "TollGateway" 174 "TollGateway$Key" "spent" "I" "TollGateway").before args s = true := va_Nw.use rfl (h.1 ("TollGateway", 174, "TollGateway$Key", "spent", "I") (List.mem_of_getElem? (i := 17) rfl))
theorem nf_T97 {de mi : Nat} {A : Nat → Prop} {s : State} {H : Heap} {args : Array Value} (h : gE de mi A s H) : (Cond.fieldLinkNest "TollGateway" 97 "TollGateway$Key" "paid" "I" "TollGateway").before args s = true := va_Nw.use rfl (h.1 ("TollGateway", 97, "TollGateway$Key", "paid", "I") (List.mem_of_getElem? (i := 18) rfl))
theorem nf_T200 {de mi : Nat} {A : Nat → Prop} {s : State} {H : Heap} {args : Array Value} (h : gE de mi A s H) : (Cond.fieldLinkNest "TollGateway" 200 "TollGateway$Call" "dueTick" "I" "TollGateway").before args s = true := va_Nw.use rfl (h.1 ("TollGateway", 200, "TollGateway$Call", "dueTick", "I") (List.mem_of_getElem? (i := 19) rfl))
theorem nf_T140 {de mi : Nat} {A : Nat → Prop} {s : State} {H : Heap} {args : Array Value} (h : gE de mi A s H) : (Cond.fieldLinkNest "TollGateway" 140 "TollGateway$Call" "cost" "I" "TollGateway").before args s = true := va_Nw.use rfl (h.1 ("TollGateway", 140, "TollGateway$Call", "cost", "I") (List.mem_of_getElem? (i := 20) rfl))
theorem nf_T151 {de mi : Nat} {A : Nat → Prop} {s : State} {H : Heap} {args : Array Value} (h : gE de mi A s H) : (Cond.fieldLinkNest "TollGateway" 151 "TollGateway$Call" "endTick" "I" "TollGateway").before args s = true := va_Nw.use rfl (h.1 ("TollGateway", 151, "TollGateway$Call", "endTick", "I") (List.mem_of_getElem? (i := 21) rfl))
theorem nf_T145 {de mi : Nat} {A : Nat → Prop} {s : State} {H : Heap} {args : Array Value} (h : gE de mi A s H) : (Cond.fieldLinkNest "TollGateway" 145 "TollGateway$Call" "wasDisputed" "Z" "TollGateway").before args s = true := va_Nw.use rfl (h.1 ("TollGateway", 145, "TollGateway$Call", "wasDisputed", "Z") (List.mem_of_getElem? (i := 22) rfl))
theorem nm_T31 {de mi : Nat} {A : Nat → Prop} {s : State} {H : Heap} (h : gE de mi A s H) : va_Nw (.methodLinkNest "TollGateway" 31 yX2_init "TollGateway") s := h.2.1 ("TollGateway", 31, yX2_init) (List.mem_of_getElem? (i := 0) rfl)
theorem nm_T34 {de mi : Nat} {A : Nat → Prop} {s : State} {H : Heap} (h : gE de mi A s H) : va_Nw (.methodLinkNest "TollGateway" 34 yX3_init "TollGateway") s := h.2.1 ("TollGateway", 34, yX3_init) (List.mem_of_getElem? (i := 1) rfl)
theorem nm_T75 {de mi : Nat} {A : Nat → Prop} {s : State} {H : Heap} (h : gE de mi A s H) : va_Nw (.methodLinkNest "TollGateway" 75 yX1_init "TollGateway") s := h.2.1 ("TollGateway", 75, yX1_init) (List.mem_of_getElem? (i := 2) rfl)
theorem nm_T100 {de mi : Nat} {A : Nat → Prop} {s : State} {H : Heap} (h : gE de mi A s H) : va_Nw (.methodLinkNest "TollGateway" 100 yX1_receive "TollGateway") s := h.2.1 ("TollGateway", 100, yX1_receive) (List.mem_of_getElem? (i := 3) rfl)
theorem nm_T111 {de mi : Nat} {A : Nat → Prop} {s : State} {H : Heap} (h : gE de mi A s H) : va_Nw (.methodLinkNest "TollGateway" 111 yX1_canCover "TollGateway") s := h.2.1 ("TollGateway", 111, yX1_canCover) (List.mem_of_getElem? (i := 4) rfl)
theorem nm_T115 {de mi : Nat} {A : Nat → Prop} {s : State} {H : Heap} (h : gE de mi A s H) : va_Nw (.methodLinkNest "TollGateway" 115 yX1_openHold "TollGateway") s := h.2.1 ("TollGateway", 115, yX1_openHold) (List.mem_of_getElem? (i := 5) rfl)
theorem nm_T123 {de mi : Nat} {A : Nat → Prop} {s : State} {H : Heap} (h : gE de mi A s H) : va_Nw (.methodLinkNest "TollGateway" 123 yX0_init "TollGateway") s := h.2.1 ("TollGateway", 123, yX0_init) (List.mem_of_getElem? (i := 6) rfl)
theorem nm_T130 {de mi : Nat} {A : Nat → Prop} {s : State} {H : Heap} (h : gE de mi A s H) : va_Nw (.methodLinkNest "TollGateway" 130 yX0_hasEnded "TollGateway") s := h.2.1 ("TollGateway", 130, yX0_hasEnded) (List.mem_of_getElem? (i := 7) rfl)
theorem nm_T136 {de mi : Nat} {A : Nat → Prop} {s : State} {H : Heap} (h : gE de mi A s H) : va_Nw (.methodLinkNest "TollGateway" 136 yX0_settle "TollGateway") s := h.2.1 ("TollGateway", 136, yX0_settle) (List.mem_of_getElem? (i := 8) rfl)
theorem nm_C35 {de mi : Nat} {A : Nat → Prop} {s : State} {H : Heap} (h : gE de mi A s H) : va_Nw (.methodLinkNest "TollGateway$Call" 35 yX1_closeHold "TollGateway") s := h.2.1 ("TollGateway$Call", 35, yX1_closeHold) (List.mem_of_getElem? (i := 9) rfl)
theorem nm_T156 {de mi : Nat} {A : Nat → Prop} {s : State} {H : Heap} (h : gE de mi A s H) : va_Nw (.methodLinkNest "TollGateway" 156 yX0_giveBack "TollGateway") s := h.2.1 ("TollGateway", 156, yX0_giveBack) (List.mem_of_getElem? (i := 10) rfl)
theorem nm_C48 {de mi : Nat} {A : Nat → Prop} {s : State} {H : Heap} (h : gE de mi A s H) : va_Nw (.methodLinkNest "TollGateway$Call" 48 yX1_receive "TollGateway") s := h.2.1 ("TollGateway$Call", 48, yX1_receive) (List.mem_of_getElem? (i := 11) rfl)
theorem nm_T203 {de mi : Nat} {A : Nat → Prop} {s : State} {H : Heap} (h : gE de mi A s H) : va_Nw (.methodLinkNest "TollGateway" 203 yX1_refillBucket "TollGateway") s := h.2.1 ("TollGateway", 203, yX1_refillBucket) (List.mem_of_getElem? (i := 12) rfl)
theorem nm_T171 {de mi : Nat} {A : Nat → Prop} {s : State} {H : Heap} (h : gE de mi A s H) : va_Nw (.methodLinkNest "TollGateway" 171 yX1_refillsSlowly "TollGateway") s := h.2.1 ("TollGateway", 171, yX1_refillsSlowly) (List.mem_of_getElem? (i := 13) rfl)
theorem st_179 {de mi : Nat} {A : Nat → Prop} {s : State} {H : Heap} (h : gE de mi A s H) : ∃ a, vk_R RX4 179 "plan is out of range" a s := h.2.2.2.2.2.1 (179, "plan is out of range") (List.mem_of_getElem? (i := 0) rfl)
theorem st_195 {de mi : Nat} {A : Nat → Prop} {s : State} {H : Heap} (h : gE de mi A s H) : ∃ a, vk_R RX4 195 "a parameter is out of range" a s := h.2.2.2.2.2.1 (195, "a parameter is out of range") (List.mem_of_getElem? (i := 1) rfl)
theorem st_182 {de mi : Nat} {A : Nat → Prop} {s : State} {H : Heap} (h : gE de mi A s H) : ∃ a, vk_R RX4 182 "route is out of range" a s := h.2.2.2.2.2.1 (182, "route is out of range") (List.mem_of_getElem? (i := 2) rfl)
theorem st_68 {de mi : Nat} {A : Nat → Prop} {s : State} {H : Heap} (h : gE de mi A s H) : ∃ a, vk_R RX4 68 "there are 8 keys" a s := h.2.2.2.2.2.1 (68, "there are 8 keys") (List.mem_of_getElem? (i := 3) rfl)
theorem st_186 {de mi : Nat} {A : Nat → Prop} {s : State} {H : Heap} (h : gE de mi A s H) : ∃ a, vk_R RX4 186 "there is no such key" a s := h.2.2.2.2.2.1 (186, "there is no such key") (List.mem_of_getElem? (i := 4) rfl)
theorem st_106 {de mi : Nat} {A : Nat → Prop} {s : State} {H : Heap} (h : gE de mi A s H) : ∃ a, vk_R RX4 106 "80 calls were let through" a s := h.2.2.2.2.2.1 (106, "80 calls were let through") (List.mem_of_getElem? (i := 5) rfl)
theorem st_193 {de mi : Nat} {A : Nat → Prop} {s : State} {H : Heap} (h : gE de mi A s H) : ∃ a, vk_R RX4 193 "there is no such call" a s := h.2.2.2.2.2.1 (193, "there is no such call") (List.mem_of_getElem? (i := 6) rfl)
theorem st_134 {de mi : Nat} {A : Nat → Prop} {s : State} {H : Heap} (h : gE de mi A s H) : ∃ a, vk_R RX4 134 "the call has ended" a s := h.2.2.2.2.2.1 (134, "the call has ended") (List.mem_of_getElem? (i := 7) rfl)
theorem st_143 {de mi : Nat} {A : Nat → Prop} {s : State} {H : Heap} (h : gE de mi A s H) : ∃ a, vk_R RX4 143 "the call has not ended" a s := h.2.2.2.2.2.1 (143, "the call has not ended") (List.mem_of_getElem? (i := 8) rfl)
theorem st_149 {de mi : Nat} {A : Nat → Prop} {s : State} {H : Heap} (h : gE de mi A s H) : ∃ a, vk_R RX4 149 "the call was disputed already" a s := h.2.2.2.2.2.1 (149, "the call was disputed already") (List.mem_of_getElem? (i := 9) rfl)
theorem st_154 {de mi : Nat} {A : Nat → Prop} {s : State} {H : Heap} (h : gE de mi A s H) : ∃ a, vk_R RX4 154 "the call ended more than 50 ticks ago" a s := h.2.2.2.2.2.1 (154, "the call ended more than 50 ticks ago") (List.mem_of_getElem? (i := 10) rfl)
theorem gE_M {de mi : Nat} {A : Nat → Prop} {s : State} {H : Heap} (h : gE de mi A s H) : va_Mi "[Ljava/lang/Object;" mi s := h.2.2.2.2.2.2.1
theorem gE_D {de mi : Nat} {A : Nat → Prop} {s : State} {H : Heap} (h : gE de mi A s H) : va_Dc s := h.2.2.2.2.2.2.2.1
theorem gE_Z {de mi : Nat} {A : Nat → Prop} {s : State} {H : Heap} (h : gE de mi A s H) : va_Z "java/util/ArrayList" "DEFAULTCAPACITY_EMPTY_ELEMENTDATA" "[Ljava/lang/Object;" (.ref de) A s H := h.2.2.2.2.2.2.2.2.2.2.1
theorem gE_T {de mi : Nat} {A : Nat → Prop} {s : State} {H : Heap} (h : gE de mi A s H) : va_T (.object "java/lang/Object") de 0 (fun _ => .null) A s H := h.2.2.2.2.2.2.2.2.2.2.2
end
section
-- ===== the world as one function by address =====
def g_gf (f : gFm) : Nat → va_E := fun a => (f a).getD (.inr (0, []))
def gFin (f : gFm) : Prop := ∃ L : List Nat, L.Nodup ∧ ∀ a, a ∈ L ↔ f a ≠ none
def gA (f : gFm) (sz : Nat) : Nat → Prop := fun q => f q ≠ none ∨ sz ≤ q
def gC (D : va_G) (A : Nat → Prop) (f : gFm) (H : Heap) : Prop := (∀ a e, f a = some e → va_at D vwCl (a, e) H ∧ A a) ∧ gFin f
theorem gC_pl {D : va_G} {A : Nat → Prop} {f : gFm} {H : Heap} (h : gC D A f H) : ∃ L : List Nat, (∀ a, a ∈ L ↔ f a ≠ none) ∧ va_P D vwCl (va_pl L (g_gf f)) H ∧ va_D A (va_pl L (g_gf f)) := by
  obtain ⟨h1, L, hn, hL⟩ := h
  have key : ∀ (k : Nat) (q : Nat × va_E), (va_pl L (g_gf f))[k]? = some q → L[k]? = some q.1 ∧ f q.1 = some q.2 := by
    intro k q hq
    simp only [va_pl, List.getElem?_map] at hq
    cases hk : L[k]? with
    | none => rw [hk] at hq; cases hq
    | some a =>
      rw [hk] at hq
      have e : (a, g_gf f a) = q := Option.some.inj hq
      subst e
      refine ⟨rfl, ?_⟩
      have ha : f a ≠ none := (hL a).mp (List.mem_of_getElem? hk)
      cases hfa : f a with
      | none => exact absurd hfa ha
      | some e => simp [g_gf, hfa]
  refine ⟨L, hL, fun k q hq => (h1 q.1 q.2 (key k q hq).2).1, ⟨fun i j p q hp hq hpq => ?_, fun k q hq => (h1 q.1 q.2 (key k q hq).2).2⟩⟩
  have a1 := (key i p hp).1
  have a2 := (key j q hq).1
  rw [← hpq] at a2
  exact (List.getElem?_inj (List.getElem?_eq_some_iff.mp a1).1 hn).mp (a1.trans a2.symm)
theorem gC_of {D : va_G} {A : Nat → Prop} {f : gFm} {H : Heap} {L : List Nat} {g : Nat → va_E} (hP : va_P D vwCl (va_pl L g) H) (hD : va_D A (va_pl L g)) (hL : ∀ a, a ∈ L ↔ f a ≠ none) (hg : ∀ a e, f a = some e → g a = e) : gC D A f H := by
  refine ⟨fun a e ha => ?_, L, ?_, hL⟩
  · obtain ⟨k, hk⟩ := va_pl_get (X := []) (f := g) ((hL a).mpr (by rw [ha]; exact Option.some_ne_none e))
    have hk' : (va_pl L g)[k]? = some (a, e) := by rw [← hg a e ha]; exact hk
    exact ⟨hP k _ hk', hD.2 k _ hk'⟩
  · refine List.pairwise_iff_getElem.mpr (fun i j hi hj hij he => ?_)
    have h1 : (va_pl L g)[i]? = some (L[i], g L[i]) := by simp [va_pl, hi]
    have h2 : (va_pl L g)[j]? = some (L[j], g L[j]) := by simp [va_pl, hj]
    have := hD.1 i j _ _ h1 h2 he
    omega
theorem gC_set {D : va_G} {A : Nat → Prop} {f : gFm} {H1 : Heap} {L : List Nat} {a : Nat} {e0 e : va_E} (hL : ∀ b, b ∈ L ↔ f b ≠ none) (ha : f a = some e0) (hP : va_P D vwCl (va_pl L (va_up (g_gf f) a e)) H1) (hD : va_D A (va_pl L (va_up (g_gf f) a e))) : gC D A (va_up f a (some e)) H1 := by
  refine gC_of hP hD (fun b => ?_) (fun b x hx => ?_)
  · by_cases h : b = a
    · subst h
      rw [hL b, ha, va_up_self]
      exact ⟨fun _ => Option.some_ne_none _, fun _ => Option.some_ne_none _⟩
    · rw [hL b, va_up_ne _ _ h]
  · by_cases h : b = a
    · subst h
      rw [va_up_self] at hx ⊢
      exact Option.some.inj hx
    · rw [va_up_ne _ _ h] at hx ⊢
      simp [g_gf, hx]
theorem gC_push {D : va_G} {A : Nat → Prop} {f : gFm} {H1 : Heap} {L : List Nat} {q : Nat} {e : va_E} (hL : ∀ b, b ∈ L ↔ f b ≠ none) (hP : va_P D vwCl (va_pl L (g_gf f) ++ [(q, e)]) H1) (hD : va_D A (va_pl L (g_gf f) ++ [(q, e)])) : f q = none ∧ gC D A (va_up f q (some e)) H1 := by
  have hq : q ∉ L := va_pl_fresh2 (X := []) hD
  have hf : f q = none := by
    cases h : f q with
    | none => rfl
    | some x => exact absurd ((hL q).mpr (by rw [h]; exact Option.some_ne_none x)) hq
  rw [va_pl_push hq] at hP hD
  refine ⟨hf, gC_of hP hD (fun b => ?_) (fun b x hx => ?_)⟩
  · by_cases h : b = q
    · subst h
      rw [va_up_self]
      exact ⟨fun _ => Option.some_ne_none _, fun _ => List.mem_append.mpr (Or.inr (List.mem_singleton.mpr rfl))⟩
    · rw [va_up_ne _ _ h, ← hL b]
      constructor
      · intro hb
        rcases List.mem_append.mp hb with hb | hb
        · exact hb
        · exact absurd (List.mem_singleton.mp hb) h
      · exact fun hb => List.mem_append.mpr (Or.inl hb)
  · by_cases h : b = q
    · subst h
      rw [va_up_self] at hx ⊢
      exact Option.some.inj hx
    · rw [va_up_ne _ _ h] at hx ⊢
      simp [g_gf, hx]
theorem g_uu {α : Type} (f : Nat → α) (a : Nat) (x y : α) : va_up (va_up f a x) a y = va_up f a y := by
  funext j
  by_cases h : j = a <;> simp [va_up, h]
theorem g_us {α : Type} (f : Nat → α) {a : Nat} {x : α} (h : f a = x) : va_up f a x = f := by
  funext j
  by_cases hj : j = a
  · subst hj; rw [va_up_self, h]
  · rw [va_up_ne _ _ hj]
-- ===== the bundles =====
def gI (D : va_G) (cy : Nat → ClassId) (de : Nat) (A : Nat → Prop) (s : State) (f : gFm) (H : Heap) (locs : List Loc) : Prop :=
  va_K D vwCl (gT cy) s ∧ va_S A s.heap H locs ∧ (∀ q, s.heap.size ≤ q → A q) ∧ gE de (cy 9) A s s.heap ∧ gC D A f H
def gP (D : va_G) (cy : Nat → ClassId) (de sz : Nat) (f : gFm) (U : State) : Prop :=
  U.heap.size = sz ∧ va_K D vwCl (gT cy) U ∧ gE de (cy 9) (gA f sz) U U.heap ∧ (∀ a e, f a = some e → va_at D vwCl (a, e) U.heap) ∧ gFin f
def gB (D : va_G) (A : Nat → Prop) (f : gFm) (t : State) : Prop := gC D A f t.heap
theorem gP_I {D : va_G} {cy : Nat → ClassId} {de sz : Nat} {f : gFm} {s : State} (h : gP D cy de sz f s) : s.heap.size = sz ∧ gI D cy de (gA f sz) s f s.heap [] := by
  obtain ⟨h1, h2, h3, h4, h5⟩ := h
  exact ⟨h1, h2, va_S.rf, fun q hq => Or.inr (by omega), h3, fun a e ha => ⟨h4 a e ha, Or.inl (by rw [ha]; exact Option.some_ne_none e)⟩, h5⟩
theorem gI_A {D : va_G} {cy : Nat → ClassId} {de : Nat} {A : Nat → Prop} {s : State} {f : gFm} {H : Heap} {locs : List Loc} (h : gI D cy de A s f H locs) : ∀ q, gA f H.size q → A q := by
  intro q hq
  rcases hq with hq | hq
  · cases hf : f q with
    | none => exact absurd hf hq
    | some e => exact (h.2.2.2.2.1 q e hf).2
  · exact h.2.2.1 q (Nat.le_trans h.2.1.1 hq)
theorem gI_P {D : va_G} {cy : Nat → ClassId} {de : Nat} {A : Nat → Prop} {s U : State} {f : gFm} {H : Heap} {locs : List Loc} (h : gI D cy de A s f H locs) (hU : U.heap = H) (hW : s.WarmedH U.vm) : gP D cy de H.size f U :=
  ⟨by rw [hU], va_K.moved hW.alike h.1, by rw [hU]; exact h.2.2.2.1.go h.2.1 hW (gI_A h), fun a e ha => by rw [hU]; exact (h.2.2.2.2.1 a e ha).1, h.2.2.2.2.2⟩
theorem gP_blind {D : va_G} {cy : Nat → ClassId} {de sz : Nat} {f : gFm} {av : List Value} : FrameBlind (va_Pc av (gP D cy de sz f)) :=
  fun a U g mk q => ⟨q.1, q.2.1, va_K.moved (u := U) (U := U.calling g mk a) (Vm.Alike.refl U.vm) q.2.2.1, q.2.2.2.1.same rfl, q.2.2.2.2.1, q.2.2.2.2.2⟩
theorem gI_back {D : va_G} {cy : Nat → ClassId} {de : Nat} {A : Nat → Prop} {s t : State} {f f1 : gFm} {H H1 : Heap} {locs locs1 : List Loc} (h : gI D cy de A s f H locs) (ht : t.heap = H1) (hS : va_S A s.heap H1 locs1) (hB : gB D (gA f H.size) f1 t) : gI D cy de A s f1 H1 locs1 := by
  refine ⟨h.1, hS, h.2.2.1, h.2.2.2.1, fun a e ha => ?_, hB.2⟩
  obtain ⟨h1, h2⟩ := hB.1 a e ha
  rw [ht] at h1
  exact ⟨h1, gI_A h a h2⟩
theorem gI_lt {D : va_G} {cy : Nat → ClassId} {de : Nat} {A : Nat → Prop} {s : State} {f : gFm} {H : Heap} {locs : List Loc} (h : gI D cy de A s f H locs) {a : Nat} {e : va_E} (ha : f a = some e) : a < H.size := (h.2.2.2.2.1 a e ha).1.lt
theorem gI_P1 {D : va_G} {cy : Nat → ClassId} {de : Nat} {A : Nat → Prop} {s : State} {f : gFm} {H : Heap} {locs : List Loc} (h : gI D cy de A s f H locs) {a : Nat} {e : va_E} (ha : f a = some e) : va_P D vwCl [(a, e)] H := by
  intro k q hq
  have hz : k < 1 := (List.getElem?_eq_some_iff.mp hq).1
  rw [show k = 0 by omega] at hq
  cases hq
  exact (h.2.2.2.2.1 a e ha).1
theorem gI_recv {D : va_G} {cy : Nat → ClassId} {de : Nat} {A : Nat → Prop} {s : State} {f : gFm} {H : Heap} {locs : List Loc} (h : gI D cy de A s f H locs) {a ci : Nat} {fs : List Value} {q : vw_C} (ha : f a = some (.inr (ci, fs))) (hc : vwCl[ci]? = some q) : ∃ cell : Cell, H[a]? = some cell ∧ cell.vm.isStatics = false ∧ s.vm.findClass q.1 = some cell.cls := va_recv (q0 := 0) h.1 (gI_P1 h ha) hc rfl
-- ===== contracts =====
def gMi (l : Launch) (y : MethodName) (ws : List Cond) (rm : Room) (D : va_G) (cy : Nat → ClassId) (de : Nat) (av : List Value) (f : gFm) (post : Int32 → gFm → Prop) (mc ms : Nat) : Prop := ∀ sz : Nat, Met l y ws rm (va_Pc av (gP D cy de sz f)) (va_Qi post (gB D (gA f sz)) (gA f sz)) mc ms (gA f sz)
def gMv (l : Launch) (y : MethodName) (ws : List Cond) (rm : Room) (D : va_G) (cy : Nat → ClassId) (de : Nat) (av : List Value) (f : gFm) (post : gFm → Prop) (mc ms : Nat) : Prop := ∀ sz : Nat, Met l y ws rm (va_Pc av (gP D cy de sz f)) (va_Qv post (gB D (gA f sz)) (gA f sz)) mc ms (gA f sz)
def gMq (l : Launch) (y : MethodName) (ws : List Cond) (rm : Room) (D : va_G) (cy : Nat → ClassId) (de : Nat) (av : List Value) (f : gFm) (post : Option Nat → gFm → Prop) (mc ms : Nat) : Prop := ∀ sz : Nat, Met l y ws rm (va_Pc av (gP D cy de sz f)) (va_Qq post (gB D (gA f sz)) (gA f sz)) mc ms (gA f sz)
def gXX (D : va_G) (A : Nat → Prop) (f : gFm) (px : String → Prop) : String → State → State → Prop := vx_X (fun _ : Unit => True) (fun E _ t => px E ∧ gB D A f t) A
def gXi (l : Launch) (y : MethodName) (ws : List Cond) (rm : Room) (D : va_G) (cy : Nat → ClassId) (de : Nat) (av : List Value) (f : gFm) (post : Int32 → gFm → Prop) (px : String → Prop) (mc ms : Nat) : Prop := ∀ sz : Nat, vx_Met l y ws rm (va_Pc av (gP D cy de sz f)) (va_Qi post (gB D (gA f sz)) (gA f sz)) (gXX D (gA f sz) f px) mc ms (gA f sz)
def gXv (l : Launch) (y : MethodName) (ws : List Cond) (rm : Room) (D : va_G) (cy : Nat → ClassId) (de : Nat) (av : List Value) (f : gFm) (post : gFm → Prop) (px : String → Prop) (mc ms : Nat) : Prop := ∀ sz : Nat, vx_Met l y ws rm (va_Pc av (gP D cy de sz f)) (va_Qv post (gB D (gA f sz)) (gA f sz)) (gXX D (gA f sz) f px) mc ms (gA f sz)
def gXq (l : Launch) (y : MethodName) (ws : List Cond) (rm : Room) (D : va_G) (cy : Nat → ClassId) (de : Nat) (av : List Value) (f : gFm) (post : Option Nat → gFm → Prop) (px : String → Prop) (mc ms : Nat) : Prop := ∀ sz : Nat, vx_Met l y ws rm (va_Pc av (gP D cy de sz f)) (va_Qq post (gB D (gA f sz)) (gA f sz)) (gXX D (gA f sz) f px) mc ms (gA f sz)
end
section
-- ===== steps over the bundle =====
section GST
variable {p : Program} {l : Launch} {e : Env} {R : Room} {s : State} {m : MethodId} {args : Array Value} {below : List Frame} {meth : Method} {c : Code} {H : Heap} {locs : List Loc} {cells slots : Nat} {Q : State → Prop}
variable {cc : ByteArray} {pc : Nat} {ls : Array Slot} {rest : List Value} {D : va_G} {cy : Nat → ClassId} {de : Nat} {A : Nat → Prop} {f : gFm} {a : Nat}
theorem g_get (hexec : p.tables.exec = Jvm.exec) (hb : c.code = cc) {own ref C : String} {T : u_T} {N ci index : Nat} {Ts : List Cond} (hts : ∀ w ∈ Ts, w.before args s = true) (hin : ∀ w ∈ u_ws C T N, w ∈ Ts) (hown : s.vm.findClass own = some m.cls) (hI : gI D cy de A s f H locs) {fs : List Value} (hf : f a = some (.inr (ci, fs))) (hc : vwCl[ci]? = some (C, T, N)) (k : Nat) (hk : k < N) (hlink : (Cond.fieldLink own index ref (T k).2.1 (T k).2.2.1).before args s = true) (hsame : ∀ x, s.fieldFound? (T k).1 (T k).2.1 (T k).2.2.1 = some x → s.fieldFound? ref (T k).2.1 (T k).2.2.1 = some x) {v : Value} (hv : fs[k]? = some v) (hdg : decode cc pc = .ok (.getfield index, 3))
    (kk : W p l e R s m args below meth c H locs cells slots Q (F0 m (pc + 3) ls (v :: rest))) : W p l e R s m args below meth c H locs cells slots Q (F0 m pc ls (.ref a :: rest)) :=
  va_get (ws := [(a, .inr (ci, fs))]) hexec hb hts hin hown hI.1 (gI_P1 hI hf) 0 rfl hc k hk hlink hsame hv hdg kk
theorem g_getN (hexec : p.tables.exec = Jvm.exec) (hb : c.code = cc) {own ref C host : String} {T : u_T} {N ci index : Nat} {Ts : List Cond} (hts : ∀ w ∈ Ts, w.before args s = true) (hin : ∀ w ∈ u_ws C T N, w ∈ Ts) (hown : s.vm.findClass own = some m.cls) (hI : gI D cy de A s f H locs) {fs : List Value} (hf : f a = some (.inr (ci, fs))) (hc : vwCl[ci]? = some (C, T, N)) (k : Nat) (hk : k < N) (hlink : (Cond.fieldLinkNest own index ref (T k).2.1 (T k).2.2.1 host).before args s = true) (hsame : ∀ x, s.fieldFound? (T k).1 (T k).2.1 (T k).2.2.1 = some x → s.fieldFound? ref (T k).2.1 (T k).2.2.1 = some x) {v : Value} (hv : fs[k]? = some v) (hdg : decode cc pc = .ok (.getfield index, 3))
    (kk : W p l e R s m args below meth c H locs cells slots Q (F0 m (pc + 3) ls (v :: rest))) : W p l e R s m args below meth c H locs cells slots Q (F0 m pc ls (.ref a :: rest)) :=
  va_getN (ws := [(a, .inr (ci, fs))]) hexec hb hts hin hown hI.1 (gI_P1 hI hf) 0 rfl hc k hk hlink hsame hv hdg kk
theorem g_set {e0 e1 : va_E} (hI : gI D cy de A s f H locs) (hf : f a = some e0)
    (kk : ∀ (L : List Nat) (k : Nat), va_P D vwCl (va_pl L (g_gf f)) H → va_D A (va_pl L (g_gf f)) → (va_pl L (g_gf f))[k]? = some (a, e0) → (∀ (H1 : Heap) (locs1 : List Loc), va_P D vwCl ((va_pl L (g_gf f)).set k (a, e1)) H1 → va_D A ((va_pl L (g_gf f)).set k (a, e1)) → va_S A s.heap H1 locs1 → gI D cy de A s (va_up f a (some e1)) H1 locs1) → Q s) : Q s := by
  obtain ⟨L, hL, hP, hD⟩ := gC_pl hI.2.2.2.2
  have hm : a ∈ L := (hL a).mpr (by rw [hf]; exact Option.some_ne_none e0)
  obtain ⟨k0, hk0⟩ := va_pl_get (X := []) (f := g_gf f) hm
  have hg : g_gf f a = e0 := by simp [g_gf, hf]
  have hk1 : (va_pl L (g_gf f))[k0]? = some (a, e0) := by rw [← hg]; exact hk0
  refine kk L k0 hP hD hk1 (fun H1 locs1 hP1 hD1 hS1 => ?_)
  have es : (va_pl L (g_gf f)).set k0 (a, e1) = va_pl L (va_up (g_gf f) a e1) := va_pl_set (X := []) hD hm hk0
  rw [es] at hP1 hD1
  exact ⟨hI.1, hS1, hI.2.2.1, hI.2.2.2.1, gC_set hL hf hP1 hD1⟩
theorem g_put (hexec : p.tables.exec = Jvm.exec) (hb : c.code = cc) {own ref C : String} {T : u_T} {N ci index : Nat} {Ts : List Cond} (hts : ∀ w ∈ Ts, w.before args s = true) (hin : ∀ w ∈ u_ws C T N, w ∈ Ts) (ty0 : Nat → FieldType) (hty : ∀ k, k < N → parseFieldDescriptor (T k).2.2.1 = some (ty0 k)) (hnm : ∀ a, a < N → ∀ b, b < N → a ≠ b → (T a).2.1 ≠ (T b).2.1) (hown : s.vm.findClass own = some m.cls) (hI : gI D cy de A s f H locs) {fs : List Value} (hf : f a = some (.inr (ci, fs))) (hc : vwCl[ci]? = some (C, T, N)) (k : Nat) (hk : k < N) (hlink : (Cond.fieldLink own index ref (T k).2.1 (T k).2.2.1).before args s = true) (hsame : ∀ x, s.fieldFound? (T k).1 (T k).2.1 (T k).2.2.1 = some x → s.fieldFound? ref (T k).2.1 (T k).2.2.1 = some x) (hfin : (T k).2.2.2 = false) {ty : FieldType} {v : Value} (hd : parseFieldDescriptor (T k).2.2.1 = some ty) (hn : narrow ty v = v) (hfit : fits ty v = true) (hl : k < fs.length) (hdg : decode cc pc = .ok (.putfield index, 3))
    (kk : ∀ (f1 : gFm) (H1 : Heap) (locs1 : List Loc), f1 = va_up f a (some (.inr (ci, fs.set k v))) → gI D cy de A s f1 H1 locs1 → W p l e R s m args below meth c H1 locs1 cells slots Q (F0 m (pc + 3) ls rest)) : W p l e R s m args below meth c H locs cells slots Q (F0 m pc ls (v :: .ref a :: rest)) :=
  g_set (Q := fun _ => W p l e R s m args below meth c H locs cells slots Q (F0 m pc ls (v :: .ref a :: rest))) hI hf (fun _ k0 hP hD hk1 k9 => va_put hexec hb hts hin ty0 hty hnm hown hI.1 hP hD hI.2.1 k0 hk1 hc k hk hlink hsame hfin hd hn hfit hl hdg (fun H1 locs1 hP1 hD1 hS1 => kk _ H1 locs1 rfl (k9 H1 locs1 hP1 hD1 hS1)))
theorem g_putN (hexec : p.tables.exec = Jvm.exec) (hb : c.code = cc) {own ref C host : String} {T : u_T} {N ci index : Nat} {Ts : List Cond} (hts : ∀ w ∈ Ts, w.before args s = true) (hin : ∀ w ∈ u_ws C T N, w ∈ Ts) (ty0 : Nat → FieldType) (hty : ∀ k, k < N → parseFieldDescriptor (T k).2.2.1 = some (ty0 k)) (hnm : ∀ a, a < N → ∀ b, b < N → a ≠ b → (T a).2.1 ≠ (T b).2.1) (hown : s.vm.findClass own = some m.cls) (hI : gI D cy de A s f H locs) {fs : List Value} (hf : f a = some (.inr (ci, fs))) (hc : vwCl[ci]? = some (C, T, N)) (k : Nat) (hk : k < N) (hlink : (Cond.fieldLinkNest own index ref (T k).2.1 (T k).2.2.1 host).before args s = true) (hsame : ∀ x, s.fieldFound? (T k).1 (T k).2.1 (T k).2.2.1 = some x → s.fieldFound? ref (T k).2.1 (T k).2.2.1 = some x) (hfin : (T k).2.2.2 = false) {ty : FieldType} {v : Value} (hd : parseFieldDescriptor (T k).2.2.1 = some ty) (hn : narrow ty v = v) (hfit : fits ty v = true) (hl : k < fs.length) (hdg : decode cc pc = .ok (.putfield index, 3))
    (kk : ∀ (f1 : gFm) (H1 : Heap) (locs1 : List Loc), f1 = va_up f a (some (.inr (ci, fs.set k v))) → gI D cy de A s f1 H1 locs1 → W p l e R s m args below meth c H1 locs1 cells slots Q (F0 m (pc + 3) ls rest)) : W p l e R s m args below meth c H locs cells slots Q (F0 m pc ls (v :: .ref a :: rest)) :=
  g_set (Q := fun _ => W p l e R s m args below meth c H locs cells slots Q (F0 m pc ls (v :: .ref a :: rest))) hI hf (fun _ k0 hP hD hk1 k9 => va_putN hexec hb hts hin ty0 hty hnm hown hI.1 hP hD hI.2.1 k0 hk1 hc k hk hlink hsame hfin hd hn hfit hl hdg (fun H1 locs1 hP1 hD1 hS1 => kk _ H1 locs1 rfl (k9 H1 locs1 hP1 hD1 hS1)))
theorem g_putF (hexec : p.tables.exec = Jvm.exec) (hb : c.code = cc) {own ref C : String} {T : u_T} {N ci index : Nat} {Ts : List Cond} (hts : ∀ w ∈ Ts, w.before args s = true) (hin : ∀ w ∈ u_ws C T N, w ∈ Ts) (ty0 : Nat → FieldType) (hty : ∀ k, k < N → parseFieldDescriptor (T k).2.2.1 = some (ty0 k)) (hnm : ∀ a, a < N → ∀ b, b < N → a ≠ b → (T a).2.1 ≠ (T b).2.1) (hown : s.vm.findClass own = some m.cls) (hI : gI D cy de A s f H locs) {fs : List Value} (hf : f a = some (.inr (ci, fs))) (hc : vwCl[ci]? = some (C, T, N)) (k : Nat) (hk : k < N) (hlink : (Cond.fieldLink own index ref (T k).2.1 (T k).2.2.1).before args s = true) (hsame : ∀ x, s.fieldFound? (T k).1 (T k).2.1 (T k).2.2.1 = some x → s.fieldFound? ref (T k).2.1 (T k).2.2.1 = some x) (hfin : (T k).2.2.2 = true) (hin2 : meth.name = "<init>") (hdecl : (T k).1 = own) {ty : FieldType} {v : Value} (hd : parseFieldDescriptor (T k).2.2.1 = some ty) (hn : narrow ty v = v) (hfit : fits ty v = true) (hl : k < fs.length) (hdg : decode cc pc = .ok (.putfield index, 3))
    (kk : ∀ (f1 : gFm) (H1 : Heap) (locs1 : List Loc), f1 = va_up f a (some (.inr (ci, fs.set k v))) → gI D cy de A s f1 H1 locs1 → W p l e R s m args below meth c H1 locs1 cells slots Q (F0 m (pc + 3) ls rest)) : W p l e R s m args below meth c H locs cells slots Q (F0 m pc ls (v :: .ref a :: rest)) :=
  g_set (Q := fun _ => W p l e R s m args below meth c H locs cells slots Q (F0 m pc ls (v :: .ref a :: rest))) hI hf (fun _ k0 hP hD hk1 k9 => va_putF hexec hb hts hin ty0 hty hnm hown hI.1 hP hD hI.2.1 k0 hk1 hc k hk hlink hsame hfin hin2 hdecl hd hn hfit hl hdg (fun H1 locs1 hP1 hD1 hS1 => kk _ H1 locs1 rfl (k9 H1 locs1 hP1 hD1 hS1)))
theorem g_iald (hexec : p.tables.exec = Jvm.exec) (hb : c.code = cc) (hI : gI D cy de A s f H locs) {n : Nat} {x : Nat → Int32} (hf : f a = some (.inl (cy 0, n, .inl x))) {i : Int32} (hin : vp_in i n) (hdg : decode cc pc = .ok (.iaload, 1))
    (kk : W p l e R s m args below meth c H locs cells slots Q (F0 m (pc + 1) ls (.int (x i.toNatClampNeg) :: rest))) : W p l e R s m args below meth c H locs cells slots Q (F0 m pc ls (.int i :: .ref a :: rest)) :=
  va_iald hexec hb hI.1 (gI_P1 hI hf) 0 0 rfl rfl hin hdg kk
theorem g_zald (hexec : p.tables.exec = Jvm.exec) (hb : c.code = cc) (hI : gI D cy de A s f H locs) {n : Nat} {x : Nat → Int32} (hf : f a = some (.inl (cy 1, n, .inl x))) {i : Int32} (hin : vp_in i n) (hdg : decode cc pc = .ok (.baload, 1))
    (kk : W p l e R s m args below meth c H locs cells slots Q (F0 m (pc + 1) ls (.int (x i.toNatClampNeg) :: rest))) : W p l e R s m args below meth c H locs cells slots Q (F0 m pc ls (.int i :: .ref a :: rest)) :=
  va_zald hexec hb hI.1 (gI_P1 hI hf) 0 1 rfl rfl hin hdg kk
theorem g_lald (hexec : p.tables.exec = Jvm.exec) (hb : c.code = cc) (hI : gI D cy de A s f H locs) {n : Nat} {x : Nat → Int64} (hf : f a = some (.inl (cy 2, n, .inr (.inl x)))) {i : Int32} (hin : vp_in i n) (hdg : decode cc pc = .ok (.laload, 1))
    (kk : W p l e R s m args below meth c H locs cells slots Q (F0 m (pc + 1) ls (.long (x i.toNatClampNeg) :: rest))) : W p l e R s m args below meth c H locs cells slots Q (F0 m pc ls (.int i :: .ref a :: rest)) :=
  va_lald hexec hb hI.1 (gI_P1 hI hf) 0 2 rfl rfl hin hdg kk
theorem g_aald (hexec : p.tables.exec = Jvm.exec) (hb : c.code = cc) (hI : gI D cy de A s f H locs) {cA : ClassId} {C : String} {n : Nat} {x : Nat → Option Nat} (hf : f a = some (.inl (cA, n, .inr (.inr (.inr (.inr x)))))) (t0 : Nat) (ht : (gT cy)[t0]? = some (cA, .object C)) {i : Int32} (hin : vp_in i n) (hdg : decode cc pc = .ok (.aaload, 1))
    (kk : W p l e R s m args below meth c H locs cells slots Q (F0 m (pc + 1) ls (va_rf (x i.toNatClampNeg) :: rest))) : W p l e R s m args below meth c H locs cells slots Q (F0 m pc ls (.int i :: .ref a :: rest)) :=
  va_aldq hexec hb hI.1 (gI_P1 hI hf) 0 t0 rfl ht hin hdg kk
theorem g_alen (hexec : p.tables.exec = Jvm.exec) (hb : c.code = cc) (hI : gI D cy de A s f H locs) {cA : ClassId} {x : vp_A} (hf : f a = some (.inl (cA, x))) (t0 : Nat) {ty : FieldType} (ht : (gT cy)[t0]? = some (cA, ty)) {v : Int32} (hv : Int32.ofNat x.1 = v) (hdg : decode cc pc = .ok (.arraylength, 1))
    (kk : W p l e R s m args below meth c H locs cells slots Q (F0 m (pc + 1) ls (.int v :: rest))) : W p l e R s m args below meth c H locs cells slots Q (F0 m pc ls (.ref a :: rest)) :=
  va_alen hexec hb hI.1 (gI_P1 hI hf) 0 t0 rfl ht hv hdg kk
theorem g_iast (hexec : p.tables.exec = Jvm.exec) (hb : c.code = cc) (hI : gI D cy de A s f H locs) {n : Nat} {x : Nat → Int32} (hf : f a = some (.inl (cy 0, n, .inl x))) {i v : Int32} (hin : vp_in i n) (hdg : decode cc pc = .ok (.iastore, 1))
    (kk : ∀ (f1 : gFm) (H1 : Heap) (locs1 : List Loc), f1 = va_up f a (some (.inl (cy 0, n, .inl (upd x i.toNatClampNeg v)))) → gI D cy de A s f1 H1 locs1 → W p l e R s m args below meth c H1 locs1 cells slots Q (F0 m (pc + 1) ls rest)) : W p l e R s m args below meth c H locs cells slots Q (F0 m pc ls (.int v :: .int i :: .ref a :: rest)) :=
  g_set (Q := fun _ => W p l e R s m args below meth c H locs cells slots Q (F0 m pc ls (.int v :: .int i :: .ref a :: rest))) hI hf (fun _ k0 hP hD hk1 k9 => va_iast hexec hb hI.1 hP hD hI.2.1 k0 0 hk1 rfl hin hdg (fun H1 locs1 hP1 hD1 hS1 => kk _ H1 locs1 rfl (k9 H1 locs1 hP1 hD1 hS1)))
theorem g_zast (hexec : p.tables.exec = Jvm.exec) (hb : c.code = cc) (hI : gI D cy de A s f H locs) {n : Nat} {x : Nat → Int32} (hf : f a = some (.inl (cy 1, n, .inl x))) {i v : Int32} (hin : vp_in i n) (hdg : decode cc pc = .ok (.bastore, 1))
    (kk : ∀ (f1 : gFm) (H1 : Heap) (locs1 : List Loc), f1 = va_up f a (some (.inl (cy 1, n, .inl (upd x i.toNatClampNeg (vp_nar .boolean v))))) → gI D cy de A s f1 H1 locs1 → W p l e R s m args below meth c H1 locs1 cells slots Q (F0 m (pc + 1) ls rest)) : W p l e R s m args below meth c H locs cells slots Q (F0 m pc ls (.int v :: .int i :: .ref a :: rest)) :=
  g_set (Q := fun _ => W p l e R s m args below meth c H locs cells slots Q (F0 m pc ls (.int v :: .int i :: .ref a :: rest))) hI hf (fun _ k0 hP hD hk1 k9 => va_zast hexec hb hI.1 hP hD hI.2.1 k0 1 hk1 rfl hin hdg (fun H1 locs1 hP1 hD1 hS1 => kk _ H1 locs1 rfl (k9 H1 locs1 hP1 hD1 hS1)))
theorem g_last (hexec : p.tables.exec = Jvm.exec) (hb : c.code = cc) (hI : gI D cy de A s f H locs) {n : Nat} {x : Nat → Int64} (hf : f a = some (.inl (cy 2, n, .inr (.inl x)))) {i : Int32} {v : Int64} (hin : vp_in i n) (hdg : decode cc pc = .ok (.lastore, 1))
    (kk : ∀ (f1 : gFm) (H1 : Heap) (locs1 : List Loc), f1 = va_up f a (some (.inl (cy 2, n, .inr (.inl (vp_updL x i.toNatClampNeg v))))) → gI D cy de A s f1 H1 locs1 → W p l e R s m args below meth c H1 locs1 cells slots Q (F0 m (pc + 1) ls rest)) : W p l e R s m args below meth c H locs cells slots Q (F0 m pc ls (.long v :: .int i :: .ref a :: rest)) :=
  g_set (Q := fun _ => W p l e R s m args below meth c H locs cells slots Q (F0 m pc ls (.long v :: .int i :: .ref a :: rest))) hI hf (fun _ k0 hP hD hk1 k9 => va_last hexec hb hI.1 hP hD hI.2.1 k0 2 hk1 rfl hin hdg (fun H1 locs1 hP1 hD1 hS1 => kk _ H1 locs1 rfl (k9 H1 locs1 hP1 hD1 hS1)))
/-- a store into an array of references: what is stored is an object of the world, of a class that may lie there -/
theorem g_aast (hexec : p.tables.exec = Jvm.exec) (hb : c.code = cc) (hI : gI D cy de A s f H locs) {cA : ClassId} {C : String} {n : Nat} {x : Nat → Option Nat} (hf : f a = some (.inl (cA, n, .inr (.inr (.inr (.inr x)))))) (t0 : Nat) (ht : (gT cy)[t0]? = some (cA, .object C)) {v : Nat} (hr : va_Any C s H v) {i : Int32} (hin : vp_in i n) (hdg : decode cc pc = .ok (.aastore, 1))
    (kk : ∀ (f1 : gFm) (H1 : Heap) (locs1 : List Loc), f1 = va_up f a (some (.inl (cA, n, .inr (.inr (.inr (.inr (va_up x i.toNatClampNeg (some v)))))))) → gI D cy de A s f1 H1 locs1 → W p l e R s m args below meth c H1 locs1 cells slots Q (F0 m (pc + 1) ls rest)) : W p l e R s m args below meth c H locs cells slots Q (F0 m pc ls (.ref v :: .int i :: .ref a :: rest)) :=
  g_set (Q := fun _ => W p l e R s m args below meth c H locs cells slots Q (F0 m pc ls (.ref v :: .int i :: .ref a :: rest))) hI hf (fun _ k0 hP hD hk1 k9 => va_astqM hexec hb hI.1 hP hD hI.2.1 k0 t0 hk1 ht hr hin hdg (fun H1 locs1 hP1 hD1 hS1 => kk _ H1 locs1 rfl (k9 H1 locs1 hP1 hD1 hS1)))
theorem g_anyS (hI : gI D cy de A s f H locs) {v ci : Nat} {vs : List Value} {r : vw_C} (hv : f v = some (.inr (ci, vs))) (hc : vwCl[ci]? = some r) : va_Any r.1 s H v :=
  va_rAny (q0 := 0) hI.1 (gI_P1 hI hv) rfl hc (fun comp c0 h1 h2 => vb_asgS comp c0 h1 h2)
theorem g_anyC (hI : gI D cy de A s f H locs) {v ci : Nat} {vs : List Value} {r : vw_C} {E : String} (hv : f v = some (.inr (ci, vs))) (hc : vwCl[ci]? = some r) (hca : va_Nw (.castable r.1 E) s) : va_Any E s H v :=
  va_rAny (q0 := 0) hI.1 (gI_P1 hI hv) rfl hc (fun comp c0 h1 h2 => vb_asgC hca comp c0 h1 h2)
theorem g_new {c0 : Code} (hexec : p.tables.exec = Jvm.exec) (hb : c0.code = cc) {own C : String} {T : u_T} {N ci index : Nat} {Ts : List Cond} (hts : ∀ w ∈ Ts, w.before args s = true) (hin : ∀ w ∈ u_ws C T N, w ∈ Ts) (ty : Nat → FieldType) (hty : ∀ k, k < N → parseFieldDescriptor (T k).2.2.1 = some (ty k)) (hown : s.vm.findClass own = some m.cls) (hcl : (Cond.classLink own index C).before args s = true) (hinst : (Cond.instantiable C N).before args s = true) (hini : (Cond.initialized C).before args s = true)
    (hI : gI D cy de A s f H locs) (hc : vwCl[ci]? = some (C, T, N)) {fs : List Value} (hfs : ∀ j, j < N → defaultValue (ty j) = vp_V fs j) (hcells : cells + 1 ≤ R.cells) (hslots : slots + N ≤ R.slots) (hdg : decode cc pc = .ok (.new index, 3))
    (kk : ∀ (q : Nat) (f1 : gFm) (H1 : Heap), f q = none → f1 = va_up f q (some (.inr (ci, fs))) → gI D cy de A s f1 H1 locs → W p l e R s m args below meth c0 H1 locs (cells + 1) (slots + N) Q (F0 m (pc + 3) ls (.ref q :: rest))) : W p l e R s m args below meth c0 H locs cells slots Q (F0 m pc ls rest) := by
  obtain ⟨L, hL, hP, hD⟩ := gC_pl hI.2.2.2.2
  refine va_new hexec hb hts hin ty hty hown hcl hinst hini hI.1 hP hD hI.2.1 hI.2.2.1 hc hfs hcells hslots hdg (fun q H1 hP1 hD1 hS1 => ?_)
  obtain ⟨h1, h2⟩ := gC_push hL hP1 hD1
  exact kk q _ H1 h1 rfl ⟨hI.1, hS1, hI.2.2.1, hI.2.2.2.1, h2⟩
theorem va_RA_inj {U : State} {c1 c2 : ClassId} {ty : FieldType} (h1 : va_RA U c1 ty) (h2 : va_RA U c2 ty) : c1 = c2 := by
  cases ty with
  | object C =>
    obtain ⟨k1, d1, -, -, -, e1⟩ := h1
    obtain ⟨k2, d2, -, -, -, e2⟩ := h2
    exact Option.some.inj (e1.symm.trans e2)
  | _ => exact Option.some.inj (h1.symm.trans h2)
theorem g_newK {cA : ClassId} {ty : FieldType} (hI : gI D cy de A s f H locs) (hK1 : va_K D vwCl (gT cy ++ [(cA, ty)]) s) (t0 : Nat) {c1 : ClassId} (ht : (gT cy)[t0]? = some (c1, ty)) : cA = c1 := by
  have h1 := (hI.1.2 t0 _ ht).2
  have h2 := (hK1.2 (gT cy).length (cA, ty) (by simp)).2
  exact va_RA_inj h2 h1
theorem g_newi (hexec : p.tables.exec = Jvm.exec) (hb : c.code = cc) (harr : (Cond.arrayClass .int).before args s = true) (hI : gI D cy de A s f H locs) {n : Int32} {N' : Nat} (hn : ¬ n < 0) (hN : n.toNatClampNeg = N') (hbytes : N' * 4 ≤ 536870912) (hcells : cells + 1 ≤ R.cells) (hslots : slots + N' ≤ R.slots) (hdg : decode cc pc = .ok (.newarray .int, 2))
    (kk : ∀ (q : Nat) (f1 : gFm) (H1 : Heap), f q = none → f1 = va_up f q (some (.inl (cy 0, N', .inl (fun _ => 0)))) → gI D cy de A s f1 H1 locs → W p l e R s m args below meth c H1 locs (cells + 1) (slots + N') Q (F0 m (pc + 2) ls (.ref q :: rest))) : W p l e R s m args below meth c H locs cells slots Q (F0 m pc ls (.int n :: rest)) := by
  obtain ⟨L, hL, hP, hD⟩ := gC_pl hI.2.2.2.2
  refine va_newa (atype := .int) (ty := .int) (a0 := (N', .inl (fun _ => 0))) hexec hb harr rfl hI.1 hP hD hI.2.1 hI.2.2.1 (fun _ => rfl) hn hN hbytes hcells hslots hdg (fun q cA H1 hK1 hP1 hD1 hS1 => ?_)
  have e := g_newK hI hK1 0 rfl
  subst e
  obtain ⟨h1, h2⟩ := gC_push hL hP1 hD1
  exact kk q _ H1 h1 rfl ⟨hI.1, hS1, hI.2.2.1, hI.2.2.2.1, h2⟩
theorem g_newz (hexec : p.tables.exec = Jvm.exec) (hb : c.code = cc) (harr : (Cond.arrayClass .boolean).before args s = true) (hI : gI D cy de A s f H locs) {n : Int32} {N' : Nat} (hn : ¬ n < 0) (hN : n.toNatClampNeg = N') (hbytes : N' * 1 ≤ 536870912) (hcells : cells + 1 ≤ R.cells) (hslots : slots + N' ≤ R.slots) (hdg : decode cc pc = .ok (.newarray .boolean, 2))
    (kk : ∀ (q : Nat) (f1 : gFm) (H1 : Heap), f q = none → f1 = va_up f q (some (.inl (cy 1, N', .inl (fun _ => 0)))) → gI D cy de A s f1 H1 locs → W p l e R s m args below meth c H1 locs (cells + 1) (slots + N') Q (F0 m (pc + 2) ls (.ref q :: rest))) : W p l e R s m args below meth c H locs cells slots Q (F0 m pc ls (.int n :: rest)) := by
  obtain ⟨L, hL, hP, hD⟩ := gC_pl hI.2.2.2.2
  refine va_newa (atype := .boolean) (ty := .boolean) (a0 := (N', .inl (fun _ => 0))) hexec hb harr rfl hI.1 hP hD hI.2.1 hI.2.2.1 (fun _ => rfl) hn hN hbytes hcells hslots hdg (fun q cA H1 hK1 hP1 hD1 hS1 => ?_)
  have e := g_newK hI hK1 1 rfl
  subst e
  obtain ⟨h1, h2⟩ := gC_push hL hP1 hD1
  exact kk q _ H1 h1 rfl ⟨hI.1, hS1, hI.2.2.1, hI.2.2.2.1, h2⟩
theorem g_newl (hexec : p.tables.exec = Jvm.exec) (hb : c.code = cc) (harr : (Cond.arrayClass .long).before args s = true) (hI : gI D cy de A s f H locs) {n : Int32} {N' : Nat} (hn : ¬ n < 0) (hN : n.toNatClampNeg = N') (hbytes : N' * 8 ≤ 536870912) (hcells : cells + 1 ≤ R.cells) (hslots : slots + N' ≤ R.slots) (hdg : decode cc pc = .ok (.newarray .long, 2))
    (kk : ∀ (q : Nat) (f1 : gFm) (H1 : Heap), f q = none → f1 = va_up f q (some (.inl (cy 2, N', .inr (.inl (fun _ => 0))))) → gI D cy de A s f1 H1 locs → W p l e R s m args below meth c H1 locs (cells + 1) (slots + N') Q (F0 m (pc + 2) ls (.ref q :: rest))) : W p l e R s m args below meth c H locs cells slots Q (F0 m pc ls (.int n :: rest)) := by
  obtain ⟨L, hL, hP, hD⟩ := gC_pl hI.2.2.2.2
  refine va_newa (atype := .long) (ty := .long) (a0 := (N', .inr (.inl (fun _ => 0)))) hexec hb harr rfl hI.1 hP hD hI.2.1 hI.2.2.1 (fun _ => rfl) hn hN hbytes hcells hslots hdg (fun q cA H1 hK1 hP1 hD1 hS1 => ?_)
  have e := g_newK hI hK1 2 rfl
  subst e
  obtain ⟨h1, h2⟩ := gC_push hL hP1 hD1
  exact kk q _ H1 h1 rfl ⟨hI.1, hS1, hI.2.2.1, hI.2.2.2.1, h2⟩
theorem g_newq (hexec : p.tables.exec = Jvm.exec) (hb : c.code = cc) {own C : String} {index : Nat} (hown : s.vm.findClass own = some m.cls) (hclink : (Cond.classLink own index C).before args s = true) (hover : va_AO C s) (hI : gI D cy de A s f H locs) (t0 : Nat) {c1 : ClassId} (ht : (gT cy)[t0]? = some (c1, .object C)) {n : Int32} {N' : Nat} (hn : ¬ n < 0) (hN : n.toNatClampNeg = N') (hbytes : N' * 4 ≤ 536870912) (hcells : cells + 1 ≤ R.cells) (hslots : slots + N' ≤ R.slots) (hdg : decode cc pc = .ok (.anewarray index, 3))
    (kk : ∀ (q : Nat) (f1 : gFm) (H1 : Heap), f q = none → f1 = va_up f q (some (.inl (c1, N', .inr (.inr (.inr (.inr (fun _ => none))))))) → gI D cy de A s f1 H1 locs → W p l e R s m args below meth c H1 locs (cells + 1) (slots + N') Q (F0 m (pc + 3) ls (.ref q :: rest))) : W p l e R s m args below meth c H locs cells slots Q (F0 m pc ls (.int n :: rest)) := by
  obtain ⟨L, hL, hP, hD⟩ := gC_pl hI.2.2.2.2
  refine va_newq hexec hb hown hclink hover hI.1 hP hD hI.2.1 hI.2.2.1 hn hN hbytes hcells hslots hdg (fun q cA H1 hK1 hP1 hD1 hS1 => ?_)
  have e := g_newK hI hK1 t0 ht
  subst e
  obtain ⟨h1, h2⟩ := gC_push hL hP1 hD1
  exact kk q _ H1 h1 rfl ⟨hI.1, hS1, hI.2.2.1, hI.2.2.2.1, h2⟩
end GST
end
section
section
variable {p : Program} {l : Launch} {e : Env} {R : Room} {s : State} {m : MethodId} {args : Array Value} {below : List Frame} {meth : Method} {c : Code} {H : Heap} {locs : List Loc} {cells slots : Nat} {Q : State → Prop}
variable {mc ms : Nat} {free : Addr → Prop} {A0 A1 : Nat → Prop} {H0 : Heap} {a : Array Value} {pc : Nat} {ls : Array Slot} {st0 rest : List Value}
theorem vx_callq {S SX : Type} {post : Option Nat → S → Prop} {px : SX → Prop} {B : S → State → Prop} {BX : String → SX → State → Prop} {AX : Nat → Prop} (hr : vx_Run p l e R s m args below meth c H locs cells slots mc ms (F0 m pc ls st0) rest (va_Qq post B A1 a) (vx_X px BX AX) free) (hS : va_S A0 H0 H locs) (hA : ∀ q, q < H.size → A1 q → A0 q) (hf : ∀ q, free q → A0 q) (hAX : ∀ q, q < H.size → AX q → A0 q)
    (kx : ∀ (E : String) (ce : Cell) (q9 : Addr) (u : SX) (t : State) (H1 : Heap) (locs1 : List Loc), t.heap = H1 → s.vm.Alike t.vm → px u → BX E u t → H.size ≤ H1.size → (∀ q : Nat, q < H.size → ¬ AX q → H1[q]? = H[q]?) → va_S A0 H0 H1 locs1 → H1[q9]? = some ce → ce.vm = .none → s.vm.findClass E = some ce.cls → vx_W p l e R s m args below meth c H1 locs1 (cells + mc) (slots + ms) Q (F0 m pc ls rest) q9)
    (kk : ∀ (r : Option Nat) (u : S) (t : State) (H1 : Heap) (locs1 : List Loc), t.heap = H1 → s.vm.Alike t.vm → post r u → B u t → H.size ≤ H1.size → (∀ q : Nat, q < H.size → ¬ A1 q → H1[q]? = H[q]?) → va_S A0 H0 H1 locs1 → W p l e R s m args below meth c H1 locs1 (cells + mc) (slots + ms) Q (F0 m (pc + 3) ls (va_rf r :: rest))) : W p l e R s m args below meth c H locs cells slots Q (F0 m pc ls st0) := by
  intro T hT X
  rcases hr T hT X with ⟨v, st₀, t, T', L, h0, X', hL, e1, e2, ⟨⟨r, u, hv, hp, hb⟩, hF⟩, st⟩ | ⟨q, st₀, t, T', L, E, ce, h0, X', hL, e1, e2, ⟨u, hp, hb, hF⟩, hce, hcv, hcl, st⟩
  · cases hv
    obtain ⟨k1, k2, k3⟩ := vx_keep h0 e1 hS hA hf hL hF
    obtain ⟨t2, a1, b1⟩ := kk r u t T'.heap (locs ++ L) e1.symm (by rw [← e2]; exact X'.warmed.alike) hp hb k1 k2 k3 T' rfl X'
    exact ⟨t2, st t2 a1, b1⟩
  · obtain ⟨k1, k2, k3⟩ := vx_keep h0 e1 hS hAX hf hL hF
    obtain ⟨t2, a1, b1⟩ := kx E ce q u t T'.heap (locs ++ L) e1.symm (by rw [← e2]; exact X'.warmed.alike) hp hb k1 k2 k3 (by rw [e1]; exact hce) hcv hcl T' rfl X'
    exact ⟨t2, st.trans a1, b1⟩
end
-- ===== calls and ends over the bundle =====
section GCA
variable {p : Program} {l : Launch} {e : Env} {R : Room} {s : State} {m : MethodId} {args : Array Value} {below : List Frame} {meth : Method} {c : Code} {H : Heap} {locs : List Loc} {cells slots : Nat} {Q : State → Prop}
variable {cc : ByteArray} {pc : Nat} {ls : Array Slot} {rest st0 : List Value} {D : va_G} {cy : Nat → ClassId} {de : Nat} {A : Nat → Prop} {f : gFm} {a : Array Value} {mc ms : Nat}
theorem g_calli {post : Int32 → gFm → Prop} (hI : gI D cy de A s f H locs) (hr : va_Run p l e R s m args below meth c H locs cells slots mc ms (F0 m pc ls st0) rest (va_Qi post (gB D (gA f H.size)) (gA f H.size) a) (gA f H.size))
    (kk : ∀ (r : Int32) (f1 : gFm) (H1 : Heap) (locs1 : List Loc), post r f1 → gI D cy de A s f1 H1 locs1 → W p l e R s m args below meth c H1 locs1 (cells + mc) (slots + ms) Q (F0 m (pc + 3) ls (.int r :: rest))) : W p l e R s m args below meth c H locs cells slots Q (F0 m pc ls st0) :=
  va_calli hr hI.2.1 (fun q _ h => gI_A hI q h) (gI_A hI) (fun r f1 t H1 locs1 ht _ hw hB _ _ hS => kk r f1 H1 locs1 hw (gI_back hI ht hS hB))
theorem g_callv {post : gFm → Prop} (hI : gI D cy de A s f H locs) (hr : va_Run p l e R s m args below meth c H locs cells slots mc ms (F0 m pc ls st0) rest (va_Qv post (gB D (gA f H.size)) (gA f H.size) a) (gA f H.size))
    (kk : ∀ (f1 : gFm) (H1 : Heap) (locs1 : List Loc), post f1 → gI D cy de A s f1 H1 locs1 → W p l e R s m args below meth c H1 locs1 (cells + mc) (slots + ms) Q (F0 m (pc + 3) ls rest)) : W p l e R s m args below meth c H locs cells slots Q (F0 m pc ls st0) :=
  va_callv hr hI.2.1 (fun q _ h => gI_A hI q h) (gI_A hI) (fun f1 t H1 locs1 ht _ hw hB _ _ hS => kk f1 H1 locs1 hw (gI_back hI ht hS hB))
theorem g_callq {post : Option Nat → gFm → Prop} (hI : gI D cy de A s f H locs) (hr : va_Run p l e R s m args below meth c H locs cells slots mc ms (F0 m pc ls st0) rest (va_Qq post (gB D (gA f H.size)) (gA f H.size) a) (gA f H.size))
    (kk : ∀ (r : Option Nat) (f1 : gFm) (H1 : Heap) (locs1 : List Loc), post r f1 → gI D cy de A s f1 H1 locs1 → W p l e R s m args below meth c H1 locs1 (cells + mc) (slots + ms) Q (F0 m (pc + 3) ls (va_rf r :: rest))) : W p l e R s m args below meth c H locs cells slots Q (F0 m pc ls st0) :=
  va_callq hr hI.2.1 (fun q _ h => gI_A hI q h) (gI_A hI) (fun r f1 t H1 locs1 ht _ hw hB _ _ hS => kk r f1 H1 locs1 hw (gI_back hI ht hS hB))
/-- what a caller shows of an object's method: the world is enough -/
theorem g_preV {ci : Nat} {fs : List Value} {q : vw_C} {b : Nat} {As : List Value} (hI : gI D cy de A s f H locs) (hf : f b = some (.inr (ci, fs))) (hc : vwCl[ci]? = some q) : PreV s H q.1 b (va_Pc (.ref b :: As) (gP D cy de H.size f)) As :=
  ⟨gP_blind, gI_recv hI hf hc, fun U hU hW => ⟨rfl, gI_P hI hU hW⟩⟩
theorem g_preS {As : List Value} (hI : gI D cy de A s f H locs) : PreS s H (va_Pc As (gP D cy de H.size f)) As :=
  ⟨gP_blind, fun U hU hW => ⟨rfl, gI_P hI hU hW⟩⟩
-- ends
theorem g_iret {post : Int32 → gFm → Prop} {v : Int32} (hexec : p.tables.exec = Jvm.exec) (hb : c.code = cc) (hr : meth.sig.returnType = some .int) (hlocks : meth.locks = false) (hI : gI D cy de A s f H locs) (hp : post v f) (hcm : cells ≤ mc) (hsm : slots ≤ ms) (hdg : decode cc pc = .ok (.ireturn, 1)) :
    W p l e R s m args below meth c H locs cells slots (MQ below (va_Qi post (gB D A) A) args s mc ms A) (F0 m pc ls [.int v]) :=
  W.widen hcm hsm (W.iret hexec hb hr (fun t ht _ => ⟨⟨v, f, rfl, hp, by unfold gB; rw [ht]; exact hI.2.2.2.2⟩, hI.2.1.F ht⟩) hI.2.1.2.2 hdg hlocks)
theorem g_zret {post : Int32 → gFm → Prop} {v : Int32} (hexec : p.tables.exec = Jvm.exec) (hb : c.code = cc) (hr : meth.sig.returnType = some .boolean) (hlocks : meth.locks = false) (hI : gI D cy de A s f H locs) (hn : narrow .boolean (.int v) = .int v) (hp : post v f) (hcm : cells ≤ mc) (hsm : slots ≤ ms) (hdg : decode cc pc = .ok (.ireturn, 1)) :
    W p l e R s m args below meth c H locs cells slots (MQ below (va_Qi post (gB D A) A) args s mc ms A) (F0 m pc ls [.int v]) :=
  W.widen hcm hsm (W.zret hexec hb hr hn (fun t ht _ => ⟨⟨v, f, rfl, hp, by unfold gB; rw [ht]; exact hI.2.2.2.2⟩, hI.2.1.F ht⟩) hI.2.1.2.2 hdg hlocks)
theorem g_vret {post : gFm → Prop} (hexec : p.tables.exec = Jvm.exec) (hb : c.code = cc) (hr : meth.sig.returnType = none) (hlocks : meth.locks = false) (hI : gI D cy de A s f H locs) (hp : post f) (hcm : cells ≤ mc) (hsm : slots ≤ ms) (hdg : decode cc pc = .ok (.return_, 1)) :
    W p l e R s m args below meth c H locs cells slots (MQ below (va_Qv post (gB D A) A) args s mc ms A) (F0 m pc ls []) :=
  W.widen hcm hsm (W.vret hexec hb hr (fun t ht _ => ⟨⟨f, rfl, hp, by unfold gB; rw [ht]; exact hI.2.2.2.2⟩, hI.2.1.F ht⟩) hI.2.1.2.2 hdg hlocks)
theorem g_aret {post : Option Nat → gFm → Prop} {v : Nat} {rt : FieldType} (hexec : p.tables.exec = Jvm.exec) (hb : c.code = cc) (hr : meth.sig.returnType = some rt) (hrt : (∃ n, rt = .object n) ∨ ∃ t, rt = .array t) (hlocks : meth.locks = false) (hI : gI D cy de A s f H locs) (hp : post (some v) f) (hcm : cells ≤ mc) (hsm : slots ≤ ms) (hdg : decode cc pc = .ok (.areturn, 1)) :
    W p l e R s m args below meth c H locs cells slots (MQ below (va_Qq post (gB D A) A) args s mc ms A) (F0 m pc ls [.ref v]) :=
  W.widen hcm hsm (W.aret hexec hb hr hrt (Or.inr ⟨v, rfl⟩) (fun t ht _ => ⟨⟨some v, f, rfl, hp, by unfold gB; rw [ht]; exact hI.2.2.2.2⟩, hI.2.1.F ht⟩) hI.2.1.2.2 hdg hlocks)
-- ends of methods that may throw
variable {XC : String → State → State → Prop}
theorem gx_iret {post : Int32 → gFm → Prop} {v : Int32} (hexec : p.tables.exec = Jvm.exec) (hb : c.code = cc) (hr : meth.sig.returnType = some .int) (hlocks : meth.locks = false) (hI : gI D cy de A s f H locs) (hp : post v f) (hcm : cells ≤ mc) (hsm : slots ≤ ms) (hdg : decode cc pc = .ok (.ireturn, 1)) :
    W p l e R s m args below meth c H locs cells slots (vx_MQ below (va_Qi post (gB D A) A) XC args s mc ms A) (F0 m pc ls [.int v]) := vx_ret (g_iret hexec hb hr hlocks hI hp hcm hsm hdg)
theorem gx_zret {post : Int32 → gFm → Prop} {v : Int32} (hexec : p.tables.exec = Jvm.exec) (hb : c.code = cc) (hr : meth.sig.returnType = some .boolean) (hlocks : meth.locks = false) (hI : gI D cy de A s f H locs) (hn : narrow .boolean (.int v) = .int v) (hp : post v f) (hcm : cells ≤ mc) (hsm : slots ≤ ms) (hdg : decode cc pc = .ok (.ireturn, 1)) :
    W p l e R s m args below meth c H locs cells slots (vx_MQ below (va_Qi post (gB D A) A) XC args s mc ms A) (F0 m pc ls [.int v]) := vx_ret (g_zret hexec hb hr hlocks hI hn hp hcm hsm hdg)
theorem gx_vret {post : gFm → Prop} (hexec : p.tables.exec = Jvm.exec) (hb : c.code = cc) (hr : meth.sig.returnType = none) (hlocks : meth.locks = false) (hI : gI D cy de A s f H locs) (hp : post f) (hcm : cells ≤ mc) (hsm : slots ≤ ms) (hdg : decode cc pc = .ok (.return_, 1)) :
    W p l e R s m args below meth c H locs cells slots (vx_MQ below (va_Qv post (gB D A) A) XC args s mc ms A) (F0 m pc ls []) := vx_ret (g_vret hexec hb hr hlocks hI hp hcm hsm hdg)
theorem gx_aret {post : Option Nat → gFm → Prop} {v : Nat} {rt : FieldType} (hexec : p.tables.exec = Jvm.exec) (hb : c.code = cc) (hr : meth.sig.returnType = some rt) (hrt : (∃ n, rt = .object n) ∨ ∃ t, rt = .array t) (hlocks : meth.locks = false) (hI : gI D cy de A s f H locs) (hp : post (some v) f) (hcm : cells ≤ mc) (hsm : slots ≤ ms) (hdg : decode cc pc = .ok (.areturn, 1)) :
    W p l e R s m args below meth c H locs cells slots (vx_MQ below (va_Qq post (gB D A) A) XC args s mc ms A) (F0 m pc ls [.ref v]) := vx_ret (g_aret hexec hb hr hrt hlocks hI hp hcm hsm hdg)
/-- new E("text") and its throw, out of a method whose world is as it was at its start -/
theorem gx_throw {Qc : Array Value → State → Outcome → State → Prop} {px : String → Prop} {cls text : String} {ik is ic : Nat} (hexec : p.tables.exec = Jvm.exec) (hb : c.code = cc) (hl : l.stackTraces = false)
    (hown : s.vm.findClass RX4 = some m.cls) (hcls : Bundle.fit cls = true) (hk : (Cond.classLink RX4 ik cls).before args s = true) (hini : (Cond.initialized cls).before args s = true) (hstr : ∃ sa, vk_R RX4 is text sa s) (hat : ∀ w ∈ vx_atS RX4 ic cls ["java/lang/RuntimeException", "java/lang/Exception"], w.before args s = true)
    (hgood : ∀ w ∈ Cond.classLink RX4 ik cls :: Cond.initialized cls :: vx_atS RX4 ic cls ["java/lang/RuntimeException", "java/lang/Exception"], vx_ot w = true)
    (hI : gI D cy de A s f H locs) (hsize : ls.size = c.maxLocals)
    (d0 : decode cc pc = .ok (.new ik, 3)) (d3 : decode cc (pc + 3) = .ok (.dup, 1)) (d4 : decode cc (pc + 4) = .ok (.ldc is, 2)) (d6 : decode cc (pc + 6) = .ok (.invokespecial ic, 3)) (d9 : decode cc (pc + 9) = .ok (.athrow, 1))
    (hout : ∀ x ∈ c.exceptionTable.toList, False)
    (hRframes : 5 < R.frames) (hRlocals : (rest.map fun v => v.category).sum + 82 ≤ R.locals) (hRcells : cells + 1 ≤ R.cells) (hRslots : slots + 6 ≤ R.slots) (hlocks : meth.locks = false) (hp : px cls) (hc : cells + 1 ≤ mc) (hs : slots + 6 ≤ ms) :
    W p l e R s m args below meth c H locs cells slots (vx_MQ below Qc (gXX D A f px) args s mc ms A) (F0 m pc ls rest) := by
  obtain ⟨sa, hstr⟩ := hstr
  refine vx_throwS (A := A) hexec hb hl hown hcls (by decide) hk hini hstr hat hgood hI.2.2.2.1.2.2.2.2.2.2.2.2.1 hI.2.2.2.1.2.2.2.2.2.2.2.2.2.1 hI.2.1 hsize d0 d3 d4 d6 d9 (fun x hx => (hout x hx).elim) hRframes hRlocals hRcells hRslots hlocks (fun t ha h1 h2 => ?_) hI.2.1.2.2 hc hs
  refine ⟨(), trivial, ⟨hp, ⟨fun a e ha => ?_, hI.2.2.2.2.2⟩⟩, Nat.le_trans hI.2.1.1 h1, fun q hq hA => ?_⟩
  · obtain ⟨k1, k2⟩ := hI.2.2.2.2.1 a e ha
    exact ⟨k1.kept (h2 a k1.lt), k2⟩
  · rw [h2 q (Nat.lt_of_lt_of_le hq hI.2.1.1)]
    exact hI.2.1.2.1 q hq hA
/-- a call of a method that may throw: what it throws goes on out of this one, whose world is as at its start -/
theorem gx_go {Qc : Array Value → State → Outcome → State → Prop} {px px1 : String → Prop} {E : String} {ce : Cell} {q9 : Addr} {t : State} {u : Unit} {H1 : Heap} {locs1 : List Loc} (hI : gI D cy de A s f H locs) (hout : ∀ x ∈ c.exceptionTable.toList, False) (hlocks : meth.locks = false) (ht : t.heap = H1) (hB : px1 E ∧ gB D (gA f H.size) f t) (hpp : px1 E → px E) (hS : va_S A s.heap H1 locs1) (hce : H1[q9]? = some ce) (hv : ce.vm = .none) (hcl : s.vm.findClass E = some ce.cls) (hc : cells ≤ mc) (hs : slots ≤ ms) :
    vx_W p l e R s m args below meth c H1 locs1 cells slots (vx_MQ below Qc (gXX D A f px) args s mc ms A) (F0 m pc ls rest) q9 := by
  have hI1 := gI_back hI ht hS hB.2
  refine vx_out (fun x hx => (hout x hx).elim) hlocks hce hv hcl (fun t1 ht1 _ => ⟨(), trivial, ⟨hpp hB.1, ?_⟩, hS.F ht1⟩) hS.2.2 hc hs
  unfold gB
  rw [ht1]
  exact hI1.2.2.2.2
theorem gx_calli {Qc : Array Value → State → Outcome → State → Prop} {px px1 : String → Prop} {post : Int32 → gFm → Prop} {mc1 ms1 : Nat} (hI : gI D cy de A s f H locs) (hout : ∀ x ∈ c.exceptionTable.toList, False) (hlocks : meth.locks = false) (hpp : ∀ E, px1 E → px E) (hc : cells + mc1 ≤ mc) (hs : slots + ms1 ≤ ms)
    (hr : vx_Run p l e R s m args below meth c H locs cells slots mc1 ms1 (F0 m pc ls st0) rest (va_Qi post (gB D (gA f H.size)) (gA f H.size) a) (gXX D (gA f H.size) f px1) (gA f H.size))
    (kk : ∀ (r : Int32) (f1 : gFm) (H1 : Heap) (locs1 : List Loc), post r f1 → gI D cy de A s f1 H1 locs1 → W p l e R s m args below meth c H1 locs1 (cells + mc1) (slots + ms1) (vx_MQ below Qc (gXX D A f px) args s mc ms A) (F0 m (pc + 3) ls (.int r :: rest))) : W p l e R s m args below meth c H locs cells slots (vx_MQ below Qc (gXX D A f px) args s mc ms A) (F0 m pc ls st0) :=
  vx_calli hr hI.2.1 (fun q _ h => gI_A hI q h) (gI_A hI) (fun q _ h => gI_A hI q h) (fun E ce q9 u t H1 locs1 ht _ _ hB _ _ hS h1 h2 h3 => gx_go (u := u) hI hout hlocks ht hB (hpp E) hS h1 h2 h3 hc hs) (fun r f1 t H1 locs1 ht _ hw hB _ _ hS => kk r f1 H1 locs1 hw (gI_back hI ht hS hB))
theorem gx_callv {Qc : Array Value → State → Outcome → State → Prop} {px px1 : String → Prop} {post : gFm → Prop} {mc1 ms1 : Nat} (hI : gI D cy de A s f H locs) (hout : ∀ x ∈ c.exceptionTable.toList, False) (hlocks : meth.locks = false) (hpp : ∀ E, px1 E → px E) (hc : cells + mc1 ≤ mc) (hs : slots + ms1 ≤ ms)
    (hr : vx_Run p l e R s m args below meth c H locs cells slots mc1 ms1 (F0 m pc ls st0) rest (va_Qv post (gB D (gA f H.size)) (gA f H.size) a) (gXX D (gA f H.size) f px1) (gA f H.size))
    (kk : ∀ (f1 : gFm) (H1 : Heap) (locs1 : List Loc), post f1 → gI D cy de A s f1 H1 locs1 → W p l e R s m args below meth c H1 locs1 (cells + mc1) (slots + ms1) (vx_MQ below Qc (gXX D A f px) args s mc ms A) (F0 m (pc + 3) ls rest)) : W p l e R s m args below meth c H locs cells slots (vx_MQ below Qc (gXX D A f px) args s mc ms A) (F0 m pc ls st0) :=
  vx_callv hr hI.2.1 (fun q _ h => gI_A hI q h) (gI_A hI) (fun q _ h => gI_A hI q h) (fun E ce q9 u t H1 locs1 ht _ _ hB _ _ hS h1 h2 h3 => gx_go (u := u) hI hout hlocks ht hB (hpp E) hS h1 h2 h3 hc hs) (fun f1 t H1 locs1 ht _ hw hB _ _ hS => kk f1 H1 locs1 hw (gI_back hI ht hS hB))
theorem gx_callq {Qc : Array Value → State → Outcome → State → Prop} {px px1 : String → Prop} {post : Option Nat → gFm → Prop} {mc1 ms1 : Nat} (hI : gI D cy de A s f H locs) (hout : ∀ x ∈ c.exceptionTable.toList, False) (hlocks : meth.locks = false) (hpp : ∀ E, px1 E → px E) (hc : cells + mc1 ≤ mc) (hs : slots + ms1 ≤ ms)
    (hr : vx_Run p l e R s m args below meth c H locs cells slots mc1 ms1 (F0 m pc ls st0) rest (va_Qq post (gB D (gA f H.size)) (gA f H.size) a) (gXX D (gA f H.size) f px1) (gA f H.size))
    (kk : ∀ (r : Option Nat) (f1 : gFm) (H1 : Heap) (locs1 : List Loc), post r f1 → gI D cy de A s f1 H1 locs1 → W p l e R s m args below meth c H1 locs1 (cells + mc1) (slots + ms1) (vx_MQ below Qc (gXX D A f px) args s mc ms A) (F0 m (pc + 3) ls (va_rf r :: rest))) : W p l e R s m args below meth c H locs cells slots (vx_MQ below Qc (gXX D A f px) args s mc ms A) (F0 m pc ls st0) :=
  vx_callq hr hI.2.1 (fun q _ h => gI_A hI q h) (gI_A hI) (fun q _ h => gI_A hI q h) (fun E ce q9 u t H1 locs1 ht _ _ hB _ _ hS h1 h2 h3 => gx_go (u := u) hI hout hlocks ht hB (hpp E) hS h1 h2 h3 hc hs) (fun r f1 t H1 locs1 ht _ hw hB _ _ hS => kk r f1 H1 locs1 hw (gI_back hI ht hS hB))
end GCA
-- ===== truth values =====
def b2i (b : Bool) : Int32 := cond b 1 0
theorem b2i_nar (b : Bool) : narrow .boolean (.int (b2i b)) = .int (b2i b) := by cases b <;> rfl
theorem b2i_0 {b : Bool} : b2i b = 0 ↔ b = false := by cases b <;> simp [b2i]
section GBI
variable {p : Program} {l : Launch} {e : Env} {R : Room} {s : State} {m : MethodId} {args : Array Value} {below : List Frame} {meth : Method} {c : Code} {H : Heap} {locs : List Loc} {cells slots : Nat} {Q : State → Prop}
variable {cc : ByteArray} {pc : Nat} {ls : Array Slot} {rest : List Value}
theorem g_b2i_eq (hexec : p.tables.exec = Jvm.exec) (hb : c.code = cc) {x : Bool} {off : Int} {tgt : Nat} (hdg : decode cc pc = .ok (.ifCond .eq off, 3)) (ht : (pc : Int) + off = (tgt : Int))
    (kt : x = false → W p l e R s m args below meth c H locs cells slots Q (F0 m tgt ls rest)) (kf : x = true → W p l e R s m args below meth c H locs cells slots Q (F0 m (pc + 3) ls rest)) : W p l e R s m args below meth c H locs cells slots Q (F0 m pc ls (.int (b2i x) :: rest)) :=
  lv_if_eq hexec hb hdg ht (fun h => kt (b2i_0.mp h)) (fun h => kf (by cases x; exact absurd (b2i_0.mpr rfl) h; rfl))
theorem g_b2i_ne (hexec : p.tables.exec = Jvm.exec) (hb : c.code = cc) {x : Bool} {off : Int} {tgt : Nat} (hdg : decode cc pc = .ok (.ifCond .ne off, 3)) (ht : (pc : Int) + off = (tgt : Int))
    (kt : x = true → W p l e R s m args below meth c H locs cells slots Q (F0 m tgt ls rest)) (kf : x = false → W p l e R s m args below meth c H locs cells slots Q (F0 m (pc + 3) ls rest)) : W p l e R s m args below meth c H locs cells slots Q (F0 m pc ls (.int (b2i x) :: rest)) :=
  lv_if_ne hexec hb hdg ht (fun h => kt (by cases x; exact absurd (b2i_0.mpr rfl) h; rfl)) (fun h => kf (b2i_0.mp h))
end GBI
theorem g_ne {f : gFm} {a b i j : Nat} {x y : List Value} (ha : f a = some (.inr (i, x))) (hb : f b = some (.inr (j, y))) (h : i ≠ j) : b ≠ a := by
  intro e
  subst e
  rw [ha] at hb
  cases hb
  exact h rfl
abbrev ix (x : Int32) : Nat := x.toNatClampNeg
theorem g_nn {f : gFm} {a q : Nat} {x : va_E} (ha : f a = some x) (hq : f q = none) : a ≠ q := by
  intro e
  subst e
  rw [ha] at hq
  cases hq
end
section
set_option maxHeartbeats 4000000 in
set_option maxRecDepth 100000 in
theorem c_J3_checkIndex_8e157 (l : Launch) (D : va_G) (cy : Nat → ClassId) (de : Nat) (f : gFm) (i : Int32) (n : Int32) (h0 : ¬ i < 0) (h1 : i < n) : gMi l yJ3_checkIndex_8e157 wsJ3_checkIndex_8e157 { frames := 0, cells := 0, slots := 0, locals := 0 } D cy de [.int i, .int n, .null] f (fun r9 f9 => r9 = i ∧ f9 = f) 0 0 := by
  refine fun sz => Met.ofW (cc := cJ3_checkIndex_8e157) (maxL := 3) (ret := (some .int)) (by decide) rfl ?_
  intro p e s m args below meth c s₁ B hml hv
  obtain ⟨rfl, hv⟩ := hv
  obtain ⟨rfl, hI⟩ := gP_I hv
  have hx := B.exec
  have hb := B.bytes
  have hr := B.returns
  have hts := atoms_spec (ws := wsJ3_checkIndex_8e157) B.pre
  have hown : s.vm.findClass RJ3 = some m.cls := findClass_of_methodNamed B.named
  have hlocks := B.notSynchronized
  have hl := lv_entry ([.int i, .int n, .null]) (n := 3) (Nat.le_of_ble_eq_true rfl)
  rw [lg_entry_eq]
  generalize (lg_sl ([.int i, .int n, .null]) ++ List.replicate (3 - (lg_sl ([.int i, .int n, .null])).length) Slot.unset).toArray = ls at hl ⊢
  have hl : lv_has ls 3 [(0, .int i), (1, .int n), (2, .null)] := hl
  refine lv_iload_n hx hb dJ3_checkIndex_8e157_0 rfl (lv_at hl 0 rfl) ?_
  refine lv_if_lt (tgt := 9) hx hb dJ3_checkIndex_8e157_1 (by decide) (fun z => absurd z h0) (fun _ => ?_)
  refine lv_iload_n hx hb dJ3_checkIndex_8e157_4 rfl (lv_at hl 0 rfl) ?_
  refine lv_iload_n hx hb dJ3_checkIndex_8e157_5 rfl (lv_at hl 1 rfl) ?_
  refine lv_icmp_lt (tgt := 16) hx hb dJ3_checkIndex_8e157_6 (by decide) (fun _ => ?_) (fun z => absurd h1 z)
  refine lv_iload_n hx hb dJ3_checkIndex_8e157_16 rfl (lv_at hl 0 rfl) ?_
  exact g_iret hx hb hr hlocks hI ⟨rfl, rfl⟩ (Nat.le_of_ble_eq_true rfl) (Nat.le_of_ble_eq_true rfl) dJ3_checkIndex_8e157_17

set_option maxHeartbeats 4000000 in
set_option maxRecDepth 100000 in
theorem c_J15_checkIndex_7cf53 (l : Launch) (D : va_G) (cy : Nat → ClassId) (de : Nat) (f : gFm) (i : Int32) (n : Int32) (h0 : ¬ i < 0) (h1 : i < n) : gMi l yJ15_checkIndex_7cf53 wsJ15_checkIndex_7cf53 { frames := 1, cells := 0, slots := 0, locals := 22 } D cy de [.int i, .int n] f (fun r9 f9 => r9 = i ∧ f9 = f) 0 0 := by
  refine fun sz => Met.ofW (cc := cJ15_checkIndex_7cf53) (maxL := 2) (ret := (some .int)) (by decide) rfl ?_
  intro p e s m args below meth c s₁ B hml hv
  obtain ⟨rfl, hv⟩ := hv
  obtain ⟨rfl, hI⟩ := gP_I hv
  have hx := B.exec
  have hb := B.bytes
  have hr := B.returns
  have hts := atoms_spec (ws := wsJ15_checkIndex_7cf53) B.pre
  have hown : s.vm.findClass RJ15 = some m.cls := findClass_of_methodNamed B.named
  have hlocks := B.notSynchronized
  have hl := lv_entry ([.int i, .int n]) (n := 2) (Nat.le_of_ble_eq_true rfl)
  rw [lg_entry_eq]
  generalize (lg_sl ([.int i, .int n]) ++ List.replicate (2 - (lg_sl ([.int i, .int n])).length) Slot.unset).toArray = ls at hl ⊢
  have hl : lv_has ls 2 [(0, .int i), (1, .int n)] := hl
  refine lv_iload_n hx hb dJ15_checkIndex_7cf53_0 rfl (lv_at hl 0 rfl) ?_
  refine lv_iload_n hx hb dJ15_checkIndex_7cf53_1 rfl (lv_at hl 1 rfl) ?_
  refine lv_null hx hb dJ15_checkIndex_7cf53_2 ?_
  refine g_calli hI (va_runS (As := [.int i, .int n, .null]) (rest := []) ⟨hx, hb, hml, hown, hts⟩ (c_J3_checkIndex_8e157 l D cy de f i n h0 h1 s.heap.size) (va_cwS 3 hts gJ15_checkIndex_7cf53_J3_checkIndex_8e157 rfl rfl rfl (by decide +kernel) ⟨Nat.le_of_ble_eq_true rfl, Nat.le_of_ble_eq_true rfl⟩) (g_preS hI) rfl rfl hl.1 rfl (lv_room (Nat.le_of_ble_eq_true rfl)) dJ15_checkIndex_7cf53_3 ⟨Nat.le_of_ble_eq_true rfl, Nat.le_of_ble_eq_true rfl⟩) (fun r_1 f_2 H locs hw_3 hI => ?_)
  obtain ⟨e_4_r, e_4⟩ := hw_3
  rw [e_4_r]
  rw [e_4] at hI
  exact g_iret hx hb hr hlocks hI ⟨rfl, rfl⟩ (Nat.le_of_ble_eq_true rfl) (Nat.le_of_ble_eq_true rfl) dJ15_checkIndex_7cf53_6

set_option maxHeartbeats 4000000 in
set_option maxRecDepth 100000 in
theorem c_Jx4a65c_size_8abf5 (l : Launch) (D : va_G) (cy : Nat → ClassId) (de : Nat) (f : gFm) (a : Nat) (mc0 : Int32) (el : Nat) (sz : Int32) (ha : f a = some (.inr (0, [.int mc0, .ref el, .int sz]))) : gMi l yJx4a65c_size_8abf5 wsJx4a65c_size_8abf5 { frames := 0, cells := 0, slots := 0, locals := 0 } D cy de [.ref a] f (fun r9 f9 => r9 = sz ∧ f9 = f) 0 0 := by
  refine fun sz => Met.ofW (cc := cJx4a65c_size_8abf5) (maxL := 1) (ret := (some .int)) (by decide) rfl ?_
  intro p e s m args below meth c s₁ B hml hv
  obtain ⟨rfl, hv⟩ := hv
  obtain ⟨rfl, hI⟩ := gP_I hv
  have hx := B.exec
  have hb := B.bytes
  have hr := B.returns
  have hts := atoms_spec (ws := wsJx4a65c_size_8abf5) B.pre
  have hown : s.vm.findClass RJx4a65c = some m.cls := findClass_of_methodNamed B.named
  have hlocks := B.notSynchronized
  have hinJx4a65c : ∀ w ∈ wsJx4a65c0, w ∈ wsJx4a65c_size_8abf5 := by decide +kernel
  have hw0 := hts (.fieldLink RJx4a65c 48 "java/util/ArrayList" "size" "I") (by decide +kernel)
  have hl := lv_entry ([.ref a]) (n := 1) (Nat.le_of_ble_eq_true rfl)
  rw [lg_entry_eq]
  generalize (lg_sl ([.ref a]) ++ List.replicate (1 - (lg_sl ([.ref a])).length) Slot.unset).toArray = ls at hl ⊢
  have hl : lv_has ls 1 [(0, .ref a)] := hl
  refine lv_aload_n hx hb dJx4a65c_size_8abf5_0 rfl (lv_at hl 0 rfl) ?_
  refine g_get (ci := 0) (C := RJx4a65c) (T := TJx4a65c) (N := 3) hx hb hts hinJx4a65c hown hI ha rfl 2 (by decide) hw0 (fun _ h9 => h9) rfl dJx4a65c_size_8abf5_1 ?_
  exact g_iret hx hb hr hlocks hI ⟨rfl, rfl⟩ (Nat.le_of_ble_eq_true rfl) (Nat.le_of_ble_eq_true rfl) dJx4a65c_size_8abf5_4

set_option maxHeartbeats 4000000 in
set_option maxRecDepth 100000 in
theorem c_Jx4a65c_elementData_915e3 (l : Launch) (D : va_G) (cy : Nat → ClassId) (de : Nat) (f : gFm) (a : Nat) (mc0 : Int32) (ek : Nat) (sz : Int32) (cap : Nat) (y : Nat → Option Nat) (i : Int32) (q : Nat) (ha : f a = some (.inr (0, [.int mc0, .ref ek, .int sz]))) (hek : f ek = some (.inl (cy 5, cap, .inr (.inr (.inr (.inr y)))))) (hin : vp_in i cap) (hy : y (ix i) = some q) : gMq l yJx4a65c_elementData_915e3 wsJx4a65c_elementData_915e3 { frames := 0, cells := 0, slots := 0, locals := 0 } D cy de [.ref a, .int i] f (fun r9 f9 => r9 = some q ∧ f9 = f) 0 0 := by
  refine fun sz => Met.ofW (cc := cJx4a65c_elementData_915e3) (maxL := 2) (ret := (some (.object "java/lang/Object"))) (by decide) rfl ?_
  intro p e s m args below meth c s₁ B hml hv
  obtain ⟨rfl, hv⟩ := hv
  obtain ⟨rfl, hI⟩ := gP_I hv
  have hx := B.exec
  have hb := B.bytes
  have hr := B.returns
  have hts := atoms_spec (ws := wsJx4a65c_elementData_915e3) B.pre
  have hown : s.vm.findClass RJx4a65c = some m.cls := findClass_of_methodNamed B.named
  have hlocks := B.notSynchronized
  have hinJx4a65c : ∀ w ∈ wsJx4a65c0, w ∈ wsJx4a65c_elementData_915e3 := by decide +kernel
  have hw0 := hts (.fieldLink RJx4a65c 9 "java/util/ArrayList" "elementData" "[Ljava/lang/Object;") (by decide +kernel)
  have hl := lv_entry ([.ref a, .int i]) (n := 2) (Nat.le_of_ble_eq_true rfl)
  rw [lg_entry_eq]
  generalize (lg_sl ([.ref a, .int i]) ++ List.replicate (2 - (lg_sl ([.ref a, .int i])).length) Slot.unset).toArray = ls at hl ⊢
  have hl : lv_has ls 2 [(0, .ref a), (1, .int i)] := hl
  refine lv_aload_n hx hb dJx4a65c_elementData_915e3_0 rfl (lv_at hl 0 rfl) ?_
  refine g_get (ci := 0) (C := RJx4a65c) (T := TJx4a65c) (N := 3) hx hb hts hinJx4a65c hown hI ha rfl 1 (by decide) hw0 (fun _ h9 => h9) rfl dJx4a65c_elementData_915e3_1 ?_
  refine lv_iload_n hx hb dJx4a65c_elementData_915e3_4 rfl (lv_at hl 1 rfl) ?_
  refine g_aald (C := "java/lang/Object") hx hb hI hek 5 rfl hin dJx4a65c_elementData_915e3_5 ?_
  rw [hy]
  exact g_aret hx hb hr (Or.inl ⟨_, rfl⟩) hlocks hI ⟨rfl, rfl⟩ (Nat.le_of_ble_eq_true rfl) (Nat.le_of_ble_eq_true rfl) dJx4a65c_elementData_915e3_6

set_option maxHeartbeats 4000000 in
set_option maxRecDepth 100000 in
theorem c_Jx4a65c_get_915e3 (l : Launch) (D : va_G) (cy : Nat → ClassId) (de : Nat) (f : gFm) (a : Nat) (mc0 : Int32) (ek : Nat) (sz : Int32) (cap : Nat) (y : Nat → Option Nat) (i : Int32) (q : Nat) (ha : f a = some (.inr (0, [.int mc0, .ref ek, .int sz]))) (hek : f ek = some (.inl (cy 5, cap, .inr (.inr (.inr (.inr y)))))) (h0 : ¬ i < 0) (h1 : i < sz) (hin : vp_in i cap) (hy : y (ix i) = some q) : gMq l yJx4a65c_get_915e3 wsJx4a65c_get_915e3 { frames := 2, cells := 0, slots := 0, locals := 43 } D cy de [.ref a, .int i] f (fun r9 f9 => r9 = some q ∧ f9 = f) 0 0 := by
  refine fun sz => Met.ofW (cc := cJx4a65c_get_915e3) (maxL := 2) (ret := (some (.object "java/lang/Object"))) (by decide) rfl ?_
  intro p e s m args below meth c s₁ B hml hv
  obtain ⟨rfl, hv⟩ := hv
  obtain ⟨rfl, hI⟩ := gP_I hv
  have hx := B.exec
  have hb := B.bytes
  have hr := B.returns
  have hts := atoms_spec (ws := wsJx4a65c_get_915e3) B.pre
  have hown : s.vm.findClass RJx4a65c = some m.cls := findClass_of_methodNamed B.named
  have hlocks := B.notSynchronized
  have hinJx4a65c : ∀ w ∈ wsJx4a65c0, w ∈ wsJx4a65c_get_915e3 := by decide +kernel
  have hw0 := hts (.fieldLink RJx4a65c 48 "java/util/ArrayList" "size" "I") (by decide +kernel)
  have hl := lv_entry ([.ref a, .int i]) (n := 2) (Nat.le_of_ble_eq_true rfl)
  rw [lg_entry_eq]
  generalize (lg_sl ([.ref a, .int i]) ++ List.replicate (2 - (lg_sl ([.ref a, .int i])).length) Slot.unset).toArray = ls at hl ⊢
  have hl : lv_has ls 2 [(0, .ref a), (1, .int i)] := hl
  refine lv_iload_n hx hb dJx4a65c_get_915e3_0 rfl (lv_at hl 1 rfl) ?_
  refine lv_aload_n hx hb dJx4a65c_get_915e3_1 rfl (lv_at hl 0 rfl) ?_
  refine g_get (ci := 0) (C := RJx4a65c) (T := TJx4a65c) (N := 3) hx hb hts hinJx4a65c hown hI ha rfl 2 (by decide) hw0 (fun _ h9 => h9) rfl dJx4a65c_get_915e3_2 ?_
  refine g_calli hI (va_runS (As := [.int i, .int sz]) (rest := []) ⟨hx, hb, hml, hown, hts⟩ (c_J15_checkIndex_7cf53 l D cy de f i sz h0 h1 s.heap.size) (va_cwS 2 hts gJx4a65c_get_915e3_J15_checkIndex_7cf53 rfl rfl rfl (by decide +kernel) ⟨Nat.le_of_ble_eq_true rfl, Nat.le_of_ble_eq_true rfl⟩) (g_preS hI) rfl rfl hl.1 rfl (lv_room (Nat.le_of_ble_eq_true rfl)) dJx4a65c_get_915e3_5 ⟨Nat.le_of_ble_eq_true rfl, Nat.le_of_ble_eq_true rfl⟩) (fun r_1 f_2 H locs hw_3 hI => ?_)
  obtain ⟨e_4_r, e_4⟩ := hw_3
  rw [e_4_r]
  rw [e_4] at hI
  refine lv_pop hx hb dJx4a65c_get_915e3_8 rfl ?_
  refine lv_aload_n hx hb dJx4a65c_get_915e3_9 rfl (lv_at hl 0 rfl) ?_
  refine lv_iload_n hx hb dJx4a65c_get_915e3_10 rfl (lv_at hl 1 rfl) ?_
  refine g_callq hI (va_runV (As := [.int i]) (rest := []) ⟨hx, hb, hml, hown, hts⟩ (c_Jx4a65c_elementData_915e3 l D cy de f a mc0 ek sz cap y i q ha hek hin hy H.size) (cwV 1 hts gJx4a65c_get_915e3_Jx4a65c_elementData_915e3 rfl rfl rfl (by decide +kernel) ⟨Nat.le_of_ble_eq_true rfl, Nat.le_of_ble_eq_true rfl⟩) (g_preV hI ha rfl) rfl rfl hl.1 rfl (lv_room (Nat.le_of_ble_eq_true rfl)) dJx4a65c_get_915e3_11 ⟨Nat.le_of_ble_eq_true rfl, Nat.le_of_ble_eq_true rfl⟩) (fun r_5 f_6 H locs hw_7 hI => ?_)
  obtain ⟨rfl, e_8⟩ := hw_7
  rw [e_8] at hI
  exact g_aret hx hb hr (Or.inl ⟨_, rfl⟩) hlocks hI ⟨rfl, rfl⟩ (Nat.le_of_ble_eq_true rfl) (Nat.le_of_ble_eq_true rfl) dJx4a65c_get_915e3_14

set_option maxHeartbeats 4000000 in
set_option maxRecDepth 100000 in
theorem c_J8_newLength_cabcc (l : Launch) (D : va_G) (cy : Nat → ClassId) (de : Nat) (f : gFm) (o : Int32) (g : Int32) (pf : Int32) (h0 : 0 < o + (if g < pf then pf else g)) (h1 : ¬ 2147483639 < o + (if g < pf then pf else g)) : gMi l yJ8_newLength_cabcc wsJ8_newLength_cabcc { frames := 1, cells := 0, slots := 0, locals := 21 } D cy de [.int o, .int g, .int pf] f (fun r9 f9 => r9 = o + (if g < pf then pf else g) ∧ f9 = f) 0 0 := by
  refine fun sz => Met.ofW (cc := cJ8_newLength_cabcc) (maxL := 4) (ret := (some .int)) (by decide) rfl ?_
  intro p e s m args below meth c s₁ B hml hv
  obtain ⟨rfl, hv⟩ := hv
  obtain ⟨rfl, hI⟩ := gP_I hv
  have hx := B.exec
  have hb := B.bytes
  have hr := B.returns
  have hts := atoms_spec (ws := wsJ8_newLength_cabcc) B.pre
  have hown : s.vm.findClass RJ8 = some m.cls := findClass_of_methodNamed B.named
  have hlocks := B.notSynchronized
  have hw0 := hts (.methodLink RJ8 194 Lib.Math.max.name) (by decide +kernel)
  have hw1 := hts (.static Lib.Math.max.name) (by decide +kernel)
  have hw2 := hts (.initialized "java/lang/Math") (by decide +kernel)
  have hw3 := hts (.code Lib.Math.max.name Lib.Math.max.code 2 (some .int)) (by decide +kernel)
  have hw4 := hts (.constant RJ8 200 (2147483639)) (by decide +kernel)
  have hl := lv_entry ([.int o, .int g, .int pf]) (n := 4) (Nat.le_of_ble_eq_true rfl)
  rw [lg_entry_eq]
  generalize (lg_sl ([.int o, .int g, .int pf]) ++ List.replicate (4 - (lg_sl ([.int o, .int g, .int pf])).length) Slot.unset).toArray = ls at hl ⊢
  have hl : lv_has ls 4 [(0, .int o), (1, .int g), (2, .int pf)] := hl
  refine lv_iload_n hx hb dJ8_newLength_cabcc_0 rfl (lv_at hl 0 rfl) ?_
  refine lv_iload_n hx hb dJ8_newLength_cabcc_1 rfl (lv_at hl 1 rfl) ?_
  refine lv_iload_n hx hb dJ8_newLength_cabcc_2 rfl (lv_at hl 2 rfl) ?_
  refine va_mmax hx hb (by rw [hml]; exact hl.1.symm) hown hw0 hw1 hw2 hw3 (Nat.le_of_ble_eq_true rfl) (Nat.le_of_ble_eq_true rfl) (Nat.le_of_ble_eq_true rfl) (Nat.le_of_ble_eq_true rfl) dJ8_newLength_cabcc_3 ?_
  refine lv_iadd hx hb dJ8_newLength_cabcc_6 ?_
  refine lv_istore_n (lv' := [(3, .int (o + (if g < pf then pf else g))), (0, .int o), (1, .int g), (2, .int pf)]) hx hb dJ8_newLength_cabcc_7 rfl hl (by decide) rfl (fun ls hl => ?_)
  refine lv_iconst (v := 0) hx hb dJ8_newLength_cabcc_8 (by decide) ?_
  refine lv_iload_n hx hb dJ8_newLength_cabcc_9 rfl (lv_at hl 0 rfl) ?_
  refine lv_icmp_ge (tgt := 21) hx hb dJ8_newLength_cabcc_10 (by decide) (fun z => absurd h0 (Int32.not_lt.mpr z)) (fun _ => ?_)
  refine lv_iload_n hx hb dJ8_newLength_cabcc_13 rfl (lv_at hl 0 rfl) ?_
  refine lv_ldc (v := 2147483639) hx hb hown hw4 dJ8_newLength_cabcc_14 ?_
  refine lv_icmp_gt (tgt := 21) hx hb dJ8_newLength_cabcc_16 (by decide) (fun z => absurd z h1) (fun _ => ?_)
  refine lv_iload_n hx hb dJ8_newLength_cabcc_19 rfl (lv_at hl 0 rfl) ?_
  exact g_iret hx hb hr hlocks hI ⟨rfl, rfl⟩ (Nat.le_of_ble_eq_true rfl) (Nat.le_of_ble_eq_true rfl) dJ8_newLength_cabcc_20

set_option maxHeartbeats 4000000 in
set_option maxRecDepth 100000 in
theorem c_Jxa1e45_init_da8c8 (l : Launch) (D : va_G) (cy : Nat → ClassId) (de : Nat) (f : gFm) (a : Nat) : gMv l yJxa1e45_init_da8c8 wsJxa1e45_init_da8c8 { frames := 1, cells := 0, slots := 0, locals := 12 } D cy de [.ref a] f (fun f9 => f9 = f) 0 0 := by
  refine fun sz => Met.ofW (cc := cJxa1e45_init_da8c8) (maxL := 1) (ret := none) (by decide) rfl ?_
  intro p e s m args below meth c s₁ B hml hv
  obtain ⟨rfl, hv⟩ := hv
  obtain ⟨rfl, hI⟩ := gP_I hv
  have hx := B.exec
  have hb := B.bytes
  have hr := B.returns
  have hts := atoms_spec (ws := wsJxa1e45_init_da8c8) B.pre
  have hown : s.vm.findClass RJxa1e45 = some m.cls := findClass_of_methodNamed B.named
  have hlocks := B.notSynchronized
  have hin : meth.name = "<init>" := (name_of_methodNamed B.named B.method).1
  have hw0 := hts (.methodLink RJxa1e45 1 objectInit) (by decide +kernel)
  have hw1 := hts (.instanceMethod objectInit) (by decide +kernel)
  have hw2 := hts (.code objectInit ⟨#[0xb1]⟩ 1 none) (by decide +kernel)
  have hl := lv_entry ([.ref a]) (n := 1) (Nat.le_of_ble_eq_true rfl)
  rw [lg_entry_eq]
  generalize (lg_sl ([.ref a]) ++ List.replicate (1 - (lg_sl ([.ref a])).length) Slot.unset).toArray = ls at hl ⊢
  have hl : lv_has ls 1 [(0, .ref a)] := hl
  refine lv_aload_n hx hb dJxa1e45_init_da8c8_0 rfl (lv_at hl 0 rfl) ?_
  refine W.objInit hx hb hown hw0 hw1 hw2 rfl (by rw [hml]; exact hl.1) rfl dJxa1e45_init_da8c8_1 (Nat.le_of_ble_eq_true rfl) (Nat.le_of_ble_eq_true rfl) ?_
  refine W.eq (g2 := F0 m 4 ls []) rfl ?_
  exact g_vret hx hb hr hlocks hI rfl (Nat.le_of_ble_eq_true rfl) (Nat.le_of_ble_eq_true rfl) dJxa1e45_init_da8c8_4

set_option maxHeartbeats 4000000 in
set_option maxRecDepth 100000 in
theorem c_Jxc12de_init_da8c8 (l : Launch) (D : va_G) (cy : Nat → ClassId) (de : Nat) (f : gFm) (a : Nat) (mc0 : Int32) (sz : Int32) (ha : f a = some (.inr (0, [.int mc0, .null, .int sz]))) : gMv l yJxc12de_init_da8c8 wsJxc12de_init_da8c8 { frames := 2, cells := 0, slots := 0, locals := 32 } D cy de [.ref a] f (fun f9 => f9 = va_up f a (some (.inr (0, [.int 0, .null, .int sz])))) 0 0 := by
  refine fun sz => Met.ofW (cc := cJxc12de_init_da8c8) (maxL := 1) (ret := none) (by decide) rfl ?_
  intro p e s m args below meth c s₁ B hml hv
  obtain ⟨rfl, hv⟩ := hv
  obtain ⟨rfl, hI⟩ := gP_I hv
  have hx := B.exec
  have hb := B.bytes
  have hr := B.returns
  have hts := atoms_spec (ws := wsJxc12de_init_da8c8) B.pre
  have hown : s.vm.findClass RJxc12de = some m.cls := findClass_of_methodNamed B.named
  have hlocks := B.notSynchronized
  have hin : meth.name = "<init>" := (name_of_methodNamed B.named B.method).1
  have hinJx4a65c : ∀ w ∈ wsJx4a65c0, w ∈ wsJxc12de_init_da8c8 := by decide +kernel
  have hw0 := hts (.initialized RJxa1e45) (by decide +kernel)
  have hw1 := hts (.methodLink RJxc12de 1 yJxa1e45_init_da8c8) (by decide +kernel)
  have hw2 := hts (.instanceMethod yJxa1e45_init_da8c8) (by decide +kernel)
  have hw3 := hts (.fieldLink RJxc12de 7 "java/util/AbstractList" "modCount" "I") (by decide +kernel)
  have hl := lv_entry ([.ref a]) (n := 1) (Nat.le_of_ble_eq_true rfl)
  rw [lg_entry_eq]
  generalize (lg_sl ([.ref a]) ++ List.replicate (1 - (lg_sl ([.ref a])).length) Slot.unset).toArray = ls at hl ⊢
  have hl : lv_has ls 1 [(0, .ref a)] := hl
  refine lv_aload_n hx hb dJxc12de_init_da8c8_0 rfl (lv_at hl 0 rfl) ?_
  refine g_callv hI (va_runI (As := []) (rest := []) ⟨hx, hb, hml, hown, hts⟩ (c_Jxa1e45_init_da8c8 l D cy de f a s.heap.size) (cwI 0 hts gJxc12de_init_da8c8_Jxa1e45_init_da8c8 rfl rfl rfl hw0 hw1 hw2 rfl (by decide +kernel) ⟨Nat.le_of_ble_eq_true rfl, Nat.le_of_ble_eq_true rfl⟩) (g_preS hI) rfl rfl hl.1 rfl (lv_room (Nat.le_of_ble_eq_true rfl)) dJxc12de_init_da8c8_1 ⟨Nat.le_of_ble_eq_true rfl, Nat.le_of_ble_eq_true rfl⟩) (fun f_2 H locs hw_3 hI => ?_)
  rw [hw_3] at hI
  refine lv_aload_n hx hb dJxc12de_init_da8c8_4 rfl (lv_at hl 0 rfl) ?_
  refine lv_iconst (v := 0) hx hb dJxc12de_init_da8c8_5 (by decide) ?_
  refine g_put (ci := 0) (v := .int 0) (ty := .int) (C := RJx4a65c) (T := TJx4a65c) (N := 3) hx hb hts hinJx4a65c tyJx4a65c tyJx4a65c_ok nmJx4a65c hown hI ha rfl 0 (by decide) hw3 (fun _ h9 => h9) rfl (by decide +kernel) rfl rfl (Nat.le_of_ble_eq_true rfl) dJxc12de_init_da8c8_6 (fun f_4 H locs e_5 hI => ?_)
  have e_5 : f_4 = va_up f a (some (.inr (0, [.int 0, .null, .int sz]))) := e_5
  have hf_6 : f_4 a = some (.inr (0, [.int 0, .null, .int sz])) := by rw [e_5]; exact va_up_self _ _ _
  exact g_vret hx hb hr hlocks hI (by rw [e_5]) (Nat.le_of_ble_eq_true rfl) (Nat.le_of_ble_eq_true rfl) dJxc12de_init_da8c8_9

set_option maxHeartbeats 4000000 in
set_option maxRecDepth 100000 in
theorem c_Jx4a65c_init_da8c8 (l : Launch) (D : va_G) (cy : Nat → ClassId) (de : Nat) (f : gFm) (a : Nat) (mc0 : Int32) (sz : Int32) (ha : f a = some (.inr (0, [.int mc0, .null, .int sz]))) : gMv l yJx4a65c_init_da8c8 wsJx4a65c_init_da8c8 { frames := 3, cells := 0, slots := 0, locals := 52 } D cy de [.ref a] f (fun f9 => f9 = va_up f a (some (.inr (0, [.int 0, .ref de, .int sz])))) 0 0 := by
  refine fun sz => Met.ofW (cc := cJx4a65c_init_da8c8) (maxL := 1) (ret := none) (by decide) rfl ?_
  intro p e s m args below meth c s₁ B hml hv
  obtain ⟨rfl, hv⟩ := hv
  obtain ⟨rfl, hI⟩ := gP_I hv
  have hx := B.exec
  have hb := B.bytes
  have hr := B.returns
  have hts := atoms_spec (ws := wsJx4a65c_init_da8c8) B.pre
  have hown : s.vm.findClass RJx4a65c = some m.cls := findClass_of_methodNamed B.named
  have hlocks := B.notSynchronized
  have hin : meth.name = "<init>" := (name_of_methodNamed B.named B.method).1
  have hinJx4a65c : ∀ w ∈ wsJx4a65c0, w ∈ wsJx4a65c_init_da8c8 := by decide +kernel
  have hw0 := hts (.initialized RJxc12de) (by decide +kernel)
  have hw1 := hts (.methodLink RJx4a65c 1 yJxc12de_init_da8c8) (by decide +kernel)
  have hw2 := hts (.instanceMethod yJxc12de_init_da8c8) (by decide +kernel)
  have hw3 := hts (.fieldLink RJx4a65c 39 "java/util/ArrayList" "DEFAULTCAPACITY_EMPTY_ELEMENTDATA" "[Ljava/lang/Object;") (by decide +kernel)
  have hw4 := hts (.fieldLink RJx4a65c 9 "java/util/ArrayList" "elementData" "[Ljava/lang/Object;") (by decide +kernel)
  have hl := lv_entry ([.ref a]) (n := 1) (Nat.le_of_ble_eq_true rfl)
  rw [lg_entry_eq]
  generalize (lg_sl ([.ref a]) ++ List.replicate (1 - (lg_sl ([.ref a])).length) Slot.unset).toArray = ls at hl ⊢
  have hl : lv_has ls 1 [(0, .ref a)] := hl
  refine lv_aload_n hx hb dJx4a65c_init_da8c8_0 rfl (lv_at hl 0 rfl) ?_
  refine g_callv hI (va_runI (As := []) (rest := []) ⟨hx, hb, hml, hown, hts⟩ (c_Jxc12de_init_da8c8 l D cy de f a mc0 sz ha s.heap.size) (cwI 0 hts gJx4a65c_init_da8c8_Jxc12de_init_da8c8 rfl rfl rfl hw0 hw1 hw2 rfl (by decide +kernel) ⟨Nat.le_of_ble_eq_true rfl, Nat.le_of_ble_eq_true rfl⟩) (g_preS hI) rfl rfl hl.1 rfl (lv_room (Nat.le_of_ble_eq_true rfl)) dJx4a65c_init_da8c8_1 ⟨Nat.le_of_ble_eq_true rfl, Nat.le_of_ble_eq_true rfl⟩) (fun f_2 H locs hw_3 hI => ?_)
  have e_4 := hw_3
  have e_4 : f_2 = va_up f a (some (.inr (0, [.int 0, .null, .int sz]))) := e_4
  have hf_5 : f_2 a = some (.inr (0, [.int 0, .null, .int sz])) := by rw [e_4]; exact va_up_self _ _ _
  refine lv_aload_n hx hb dJx4a65c_init_da8c8_4 rfl (lv_at hl 0 rfl) ?_
  refine va_gets hx hb (gE_Z hI.2.2.2.1) hI.2.1 hown hw3 (fun _ h9 => h9) dJx4a65c_init_da8c8_5 ?_
  refine g_put (ci := 0) (v := .ref de) (ty := (.array (.object "java/lang/Object"))) (C := RJx4a65c) (T := TJx4a65c) (N := 3) hx hb hts hinJx4a65c tyJx4a65c tyJx4a65c_ok nmJx4a65c hown hI hf_5 rfl 1 (by decide) hw4 (fun _ h9 => h9) rfl (by decide +kernel) rfl rfl (Nat.le_of_ble_eq_true rfl) dJx4a65c_init_da8c8_8 (fun f_6 H locs e_7 hI => ?_)
  have e_7 : f_6 = va_up f_2 a (some (.inr (0, [.int 0, .ref de, .int sz]))) := e_7
  have hf_8 : f_6 a = some (.inr (0, [.int 0, .ref de, .int sz])) := by rw [e_7]; exact va_up_self _ _ _
  exact g_vret hx hb hr hlocks hI (by rw [e_7, e_4]; simp only [g_uu]) (Nat.le_of_ble_eq_true rfl) (Nat.le_of_ble_eq_true rfl) dJx4a65c_init_da8c8_11
end
section
theorem gE_cast {de mi : Nat} {A : Nat → Prop} {s : State} {H : Heap} (h : gE de mi A s H) {q : String × String} (hq : q ∈ gCs) : va_Nw (.castable q.1 q.2) s := h.2.2.1 q hq
/-- what an array holds are objects of classes that an array of Objects may hold -/
def gEl (f : gFm) (n : Nat) (y : Nat → Option Nat) : Prop := ∀ j, j < n → ∀ q, y j = some q → ∃ (ci : Nat) (fs : List Value) (r : vw_C), f q = some (.inr (ci, fs)) ∧ vwCl[ci]? = some r ∧ (r.1, "java/lang/Object") ∈ gCs
theorem gEl_up {f : gFm} {n : Nat} {y : Nat → Option Nat} {a : Nat} {x : Option va_E} (h : gEl f n y) (ha : f a = none) : gEl (va_up f a x) n y := fun j hj q hq => by
  obtain ⟨ci, fs, r, h1, h2, h3⟩ := h j hj q hq
  refine ⟨ci, fs, r, ?_, h2, h3⟩
  rw [va_up_ne _ _ (fun e => by rw [e, ha] at h1; cases h1)]
  exact h1
theorem g_gf_of {f : gFm} {a : Nat} {e : va_E} (h : f a = some e) : g_gf f a = e := by simp [g_gf, h]
section GCP
variable {p : Program} {l : Launch} {e : Env} {R : Room} {s : State} {m : MethodId} {args : Array Value} {below : List Frame} {meth : Method} {c : Code} {H : Heap} {locs : List Loc} {cells slots : Nat} {Q : State → Prop}
variable {cc : ByteArray} {pc : Nat} {ls : Array Slot} {rest : List Value} {D : va_G} {cy : Nat → ClassId} {de : Nat} {A : Nat → Prop} {f : gFm} {a a0 : Nat}
theorem g_copy (hexec : p.tables.exec = Jvm.exec) (hb : c.code = cc) (hml : c.maxLocals = ls.size) {own : String} {index : Nat} (hown : s.vm.findClass own = some m.cls) (hlink : (Cond.methodLink own index arraycopyName).before args s = true) (hnat : (Cond.native arraycopyName).before args s = true) (hstat : (Cond.static arraycopyName).before args s = true) (hini : (Cond.initialized "java/lang/System").before args s = true)
    (hI : gI D cy de A s f H locs) {n0 n1 : Nat} {y z : Nat → Option Nat} (h0 : f a0 = some (.inl (cy 5, n0, .inr (.inr (.inr (.inr y)))))) (h9 : f a = some (.inl (cy 5, n1, .inr (.inr (.inr (.inr z))))))
    {sp dp n : Int32} (h1 : ¬ sp < 0) (h2 : ¬ dp < 0) (h3 : ¬ n < 0) (h4 : sp.toNatClampNeg + n.toNatClampNeg ≤ n0) (h5 : dp.toNatClampNeg + n.toNatClampNeg ≤ n1) (hel : ∀ i : Nat, i < n.toNatClampNeg → ∀ q : Nat, y (sp.toNatClampNeg + i) = some q → va_Any "java/lang/Object" s H q)
    (hframes : 1 ≤ R.frames) (hlocals : (rest.map fun v => v.category).sum + (nativeFrameWords "java/lang/System" "arraycopy" 5 + 11) ≤ R.locals) (hdg : decode cc pc = .ok (.invokestatic index, 3))
    (kk : ∀ (f1 : gFm) (H1 : Heap) (locs1 : List Loc), f1 = va_up f a (some (.inl (cy 5, n1, .inr (.inr (.inr (.inr (va_cpy y z sp.toNatClampNeg dp.toNatClampNeg n.toNatClampNeg))))))) → gI D cy de A s f1 H1 locs1 → W p l e R s m args below meth c H1 locs1 cells slots Q (F0 m (pc + 3) ls rest)) : W p l e R s m args below meth c H locs cells slots Q (F0 m pc ls (.int n :: .int dp :: .ref a :: .int sp :: .ref a0 :: rest)) := by
  obtain ⟨L, hL, hP, hD⟩ := gC_pl hI.2.2.2.2
  have hm : a ∈ L := (hL a).mpr (by rw [h9]; exact Option.some_ne_none _)
  have hm0 : a0 ∈ L := (hL a0).mpr (by rw [h0]; exact Option.some_ne_none _)
  obtain ⟨k, hk⟩ := va_pl_get (X := []) (f := g_gf f) hm
  obtain ⟨k0, hk0⟩ := va_pl_get (X := []) (f := g_gf f) hm0
  have hk1 : (va_pl L (g_gf f))[k]? = some (a, .inl (cy 5, n1, .inr (.inr (.inr (.inr z))))) := by rw [g_gf_of h9] at hk; exact hk
  have hk01 : (va_pl L (g_gf f))[k0]? = some (a0, .inl (cy 5, n0, .inr (.inr (.inr (.inr y))))) := by rw [g_gf_of h0] at hk0; exact hk0
  refine va_copyM hexec hb hml hown hlink hnat hstat hini hI.1 hP hD hI.2.1 k0 k 5 5 hk01 hk1 rfl rfl h1 h2 h3 h4 h5 hel hframes hlocals hdg (fun H1 locs1 hP1 hD1 hS1 => kk _ H1 locs1 rfl ?_)
  have es : (va_pl L (g_gf f)).set k (a, .inl (cy 5, n1, .inr (.inr (.inr (.inr (va_cpy y z sp.toNatClampNeg dp.toNatClampNeg n.toNatClampNeg)))))) = va_pl L (va_up (g_gf f) a (.inl (cy 5, n1, .inr (.inr (.inr (.inr (va_cpy y z sp.toNatClampNeg dp.toNatClampNeg n.toNatClampNeg))))))) := va_pl_set (X := []) hD hm hk
  rw [es] at hP1 hD1
  exact ⟨hI.1, hS1, hI.2.2.1, hI.2.2.2.1, gC_set hL h9 hP1 hD1⟩
end GCP
theorem g_len1 {cap : Nat} (h2 : 2 ≤ cap) (hn : cap ≤ 4000) : nI cap + (if nI cap + 1 - nI cap < nI cap >>> ((1 : Int32) &&& 31) then nI cap >>> ((1 : Int32) &&& 31) else nI cap + 1 - nI cap) = nI (cap + cap / 2) := by
  have es : nI cap >>> ((1 : Int32) &&& 31) = nI (cap / 2) := by
    have k := pk_shrN (n := cap) (by omega) ((1 : Int32) &&& 31) 1 (by decide)
    rw [Nat.pow_one] at k
    exact k
  have ed : nI cap + 1 - nI cap = nI 1 := by
    rw [nI_1]
    have k := pk_sub (a := cap + 1) (b := cap) (by omega)
    rw [Nat.add_sub_cancel_left] at k
    exact k
  rw [es, ed]
  by_cases c : 1 < cap / 2
  · rw [if_pos (nI_lt c (by omega)), nI_add]
  · rw [if_neg (nI_nlt (by omega) (by decide)), nI_add]
    have : cap / 2 = 1 := by omega
    rw [this]

set_option maxHeartbeats 4000000 in
set_option maxRecDepth 100000 in
theorem c_J7_copyOf_6403c (l : Launch) (D : va_G) (cy : Nat → ClassId) (de : Nat) (f : gFm) (o : Nat) (cap : Nat) (y : Nat → Option Nat) (N1 : Nat) (ho : f o = some (.inl (cy 5, cap, .inr (.inr (.inr (.inr y)))))) (hc1 : cap ≤ N1) (hc2 : N1 ≤ 200) (hel : gEl f cap y) : gMq l yJ7_copyOf_6403c wsJ7_copyOf_6403c { frames := 1, cells := 1, slots := 200, locals := 80 } D cy de [.ref o, .int (nI N1), .ref (cy 9)] f (fun r9 f9 => ∃ q1, r9 = some q1 ∧ f q1 = none ∧ f9 = va_up f q1 (some (.inl (cy 5, N1, .inr (.inr (.inr (.inr (va_cpy y (fun _ => none) 0 0 cap)))))))) 1 200 := by
  refine fun sz => Met.ofW (cc := cJ7_copyOf_6403c) (maxL := 4) (ret := (some (.array (.object "java/lang/Object")))) (by decide) rfl ?_
  intro p e s m args below meth c s₁ B hml hv
  obtain ⟨rfl, hv⟩ := hv
  obtain ⟨rfl, hI⟩ := gP_I hv
  have hx := B.exec
  have hb := B.bytes
  have hr := B.returns
  have hts := atoms_spec (ws := wsJ7_copyOf_6403c) B.pre
  have hown : s.vm.findClass RJ7 = some m.cls := findClass_of_methodNamed B.named
  have hlocks := B.notSynchronized
  have hw0 := hts (.classLink RJ7 110 "[Ljava/lang/Object;") (by decide +kernel)
  have hw1 := hts (.classLink RJ7 2 "java/lang/Object") (by decide +kernel)
  have hw2 := hts (.methodLink RJ7 304 Lib.Math.min.name) (by decide +kernel)
  have hw3 := hts (.static Lib.Math.min.name) (by decide +kernel)
  have hw4 := hts (.initialized "java/lang/Math") (by decide +kernel)
  have hw5 := hts (.code Lib.Math.min.name Lib.Math.min.code 2 (some .int)) (by decide +kernel)
  have hw6 := hts (.methodLink RJ7 150 arraycopyName) (by decide +kernel)
  have hw7 := hts (.native arraycopyName) (by decide +kernel)
  have hw8 := hts (.static arraycopyName) (by decide +kernel)
  have hw9 := hts (.initialized "java/lang/System") (by decide +kernel)
  have hl := lv_entry ([.ref o, .int (nI N1), .ref (cy 9)]) (n := 4) (Nat.le_of_ble_eq_true rfl)
  rw [lg_entry_eq]
  generalize (lg_sl ([.ref o, .int (nI N1), .ref (cy 9)]) ++ List.replicate (4 - (lg_sl ([.ref o, .int (nI N1), .ref (cy 9)])).length) Slot.unset).toArray = ls at hl ⊢
  have hl : lv_has ls 4 [(0, .ref o), (1, .int (nI N1)), (2, .ref (cy 9))] := hl
  refine lv_aload_n hx hb dJ7_copyOf_6403c_0 rfl (lv_at hl 2 rfl) ?_
  refine va_ldcM hx hb hown hw0 (gE_M hI.2.2.2.1) dJ7_copyOf_6403c_1 ?_
  refine lv_acmp_ne (rx := some (cy 9)) (ry := some (cy 9)) (tgt := 13) hx hb dJ7_copyOf_6403c_3 (by decide) (fun z => absurd rfl z) (fun _ => ?_)
  refine lv_iload_n hx hb dJ7_copyOf_6403c_6 rfl (lv_at hl 1 rfl) ?_
  refine g_newq (N' := N1) hx hb hown hw1 (hI.2.2.2.1.2.2.2.2.1 "java/lang/Object" (List.mem_of_getElem? (i := 2) rfl)) hI 5 rfl (nI_pos (by omega)) (nI_clamp (by omega)) (by omega) (Nat.le_of_ble_eq_true rfl) (by show 0 + N1 ≤ 200; omega) dJ7_copyOf_6403c_7 (fun q_1 f_2 H hq_4 e_3 hI => ?_)
  have hn_5 : o ≠ q_1 := g_nn ho hq_4
  have e_3 : f_2 = va_up f q_1 (some (.inl (cy 5, N1, .inr (.inr (.inr (.inr (fun _ => none))))))) := e_3
  have hf_6 : f_2 q_1 = some (.inl (cy 5, N1, .inr (.inr (.inr (.inr (fun _ => none)))))) := by rw [e_3]; exact va_up_self _ _ _
  have hf_7 : f_2 o = some (.inl (cy 5, cap, .inr (.inr (.inr (.inr y))))) := by rw [e_3, va_up_ne _ _ (hn_5)]; exact ho
  refine lv_goto (tgt := 24) hx hb dJ7_copyOf_6403c_10 (by decide) ?_
  refine lv_astore_n (lv' := [(3, .ref q_1), (0, .ref o), (1, .int (nI N1)), (2, .ref (cy 9))]) hx hb dJ7_copyOf_6403c_24 rfl hl (by decide) rfl (fun ls hl => ?_)
  refine lv_aload_n hx hb dJ7_copyOf_6403c_25 rfl (lv_at hl 1 rfl) ?_
  refine lv_iconst (v := 0) hx hb dJ7_copyOf_6403c_26 (by decide) ?_
  refine lv_aload_n hx hb dJ7_copyOf_6403c_27 rfl (lv_at hl 0 rfl) ?_
  refine lv_iconst (v := 0) hx hb dJ7_copyOf_6403c_28 (by decide) ?_
  refine lv_aload_n hx hb dJ7_copyOf_6403c_29 rfl (lv_at hl 1 rfl) ?_
  refine g_alen (v := nI cap) hx hb hI hf_7 5 rfl rfl dJ7_copyOf_6403c_30 ?_
  refine lv_iload_n hx hb dJ7_copyOf_6403c_31 rfl (lv_at hl 2 rfl) ?_
  refine va_mmin hx hb (by rw [hml]; exact hl.1.symm) hown hw2 hw3 hw4 hw5 (Nat.le_of_ble_eq_true rfl) (Nat.le_of_ble_eq_true rfl) (Nat.le_of_ble_eq_true rfl) (by show 0 + N1 ≤ 200; omega) dJ7_copyOf_6403c_32 ?_
  have hmin : (if nI N1 < nI cap then nI N1 else nI cap) = nI cap := if_neg (nI_nlt hc1 (by omega))
  rw [hmin]
  have hcl : (nI cap).toNatClampNeg = cap := nI_clamp (by omega)
  refine g_copy hx hb (by rw [hml]; exact hl.1.symm) hown hw6 hw7 hw8 hw9 hI hf_7 hf_6 (by decide) (by decide) (nI_pos (by omega)) (by rw [hcl]; show 0 + cap ≤ cap; omega) (by rw [hcl]; show 0 + cap ≤ N1; omega) (fun i hi q hq => ?_) (Nat.le_of_ble_eq_true rfl) (Nat.le_of_ble_eq_true rfl) dJ7_copyOf_6403c_35 (fun f_8 H locs e_9 hI => ?_)
  · rw [hcl] at hi
    obtain ⟨ci, fs, r, k1, k2, k3⟩ := gEl_up (x := some (.inl (cy 5, N1, .inr (.inr (.inr (.inr (fun _ => none))))))) hel hq_4 i hi q (by rw [← hq]; congr 1; show i = 0 + i; omega)
    rw [← e_3] at k1
    exact g_anyC hI k1 k2 (gE_cast hI.2.2.2.1 k3)
  rw [hcl] at e_9
  have e_9 : f_8 = va_up f_2 q_1 (some (.inl (cy 5, N1, .inr (.inr (.inr (.inr (va_cpy y (fun _ => none) 0 0 cap))))))) := e_9
  have hf_10 : f_8 q_1 = some (.inl (cy 5, N1, .inr (.inr (.inr (.inr (va_cpy y (fun _ => none) 0 0 cap)))))) := by rw [e_9]; exact va_up_self _ _ _
  have hf_11 : f_8 o = some (.inl (cy 5, cap, .inr (.inr (.inr (.inr y))))) := by rw [e_9, va_up_ne _ _ (hn_5)]; exact hf_7
  refine lv_aload_n hx hb dJ7_copyOf_6403c_38 rfl (lv_at hl 0 rfl) ?_
  exact g_aret hx hb hr (Or.inr ⟨_, rfl⟩) hlocks hI ⟨q_1, rfl, hq_4, by rw [e_9, e_3, g_uu]⟩ (Nat.le_of_ble_eq_true rfl) (by show 0 + N1 ≤ 200; omega) dJ7_copyOf_6403c_39

set_option maxHeartbeats 4000000 in
set_option maxRecDepth 100000 in
theorem c_J7_copyOf_1904c (l : Launch) (D : va_G) (cy : Nat → ClassId) (de : Nat) (f : gFm) (o : Nat) (cap : Nat) (y : Nat → Option Nat) (N1 : Nat) (ho : f o = some (.inl (cy 5, cap, .inr (.inr (.inr (.inr y)))))) (hc1 : cap ≤ N1) (hc2 : N1 ≤ 200) (hel : gEl f cap y) : gMq l yJ7_copyOf_1904c wsJ7_copyOf_1904c { frames := 2, cells := 1, slots := 200, locals := 103 } D cy de [.ref o, .int (nI N1)] f (fun r9 f9 => ∃ q1, r9 = some q1 ∧ f q1 = none ∧ f9 = va_up f q1 (some (.inl (cy 5, N1, .inr (.inr (.inr (.inr (va_cpy y (fun _ => none) 0 0 cap)))))))) 1 200 := by
  refine fun sz => Met.ofW (cc := cJ7_copyOf_1904c) (maxL := 2) (ret := (some (.array (.object "java/lang/Object")))) (by decide) rfl ?_
  intro p e s m args below meth c s₁ B hml hv
  obtain ⟨rfl, hv⟩ := hv
  obtain ⟨rfl, hI⟩ := gP_I hv
  have hx := B.exec
  have hb := B.bytes
  have hr := B.returns
  have hts := atoms_spec (ws := wsJ7_copyOf_1904c) B.pre
  have hown : s.vm.findClass RJ7 = some m.cls := findClass_of_methodNamed B.named
  have hlocks := B.notSynchronized
  have hw0 := hts (.methodLink RJ7 86 ⟨"java/lang/Object", "getClass", "()Ljava/lang/Class;"⟩) (by decide +kernel)
  have hw1 := hts (.selects "[Ljava/lang/Object;" ⟨"java/lang/Object", "getClass", "()Ljava/lang/Class;"⟩ ⟨"java/lang/Object", "getClass", "()Ljava/lang/Class;"⟩) (by decide +kernel)
  have hw2 := hts (.instanceMethod ⟨"java/lang/Object", "getClass", "()Ljava/lang/Class;"⟩) (by decide +kernel)
  have hw3 := hts (.native ⟨"java/lang/Object", "getClass", "()Ljava/lang/Class;"⟩) (by decide +kernel)
  have hl := lv_entry ([.ref o, .int (nI N1)]) (n := 2) (Nat.le_of_ble_eq_true rfl)
  rw [lg_entry_eq]
  generalize (lg_sl ([.ref o, .int (nI N1)]) ++ List.replicate (2 - (lg_sl ([.ref o, .int (nI N1)])).length) Slot.unset).toArray = ls at hl ⊢
  have hl : lv_has ls 2 [(0, .ref o), (1, .int (nI N1))] := hl
  refine lv_aload_n hx hb dJ7_copyOf_1904c_0 rfl (lv_at hl 0 rfl) ?_
  refine lv_iload_n hx hb dJ7_copyOf_1904c_1 rfl (lv_at hl 1 rfl) ?_
  refine lv_aload_n hx hb dJ7_copyOf_1904c_2 rfl (lv_at hl 0 rfl) ?_
  refine va_getC hx hb (by rw [hml]; exact hl.1.symm) hown hw0 (va_Dc.use (gE_D hI.2.2.2.1)) hw1 hw2 hw3 (gE_M hI.2.2.2.1) ⟨_, (gI_P1 hI ho 0 _ rfl : va_at D vwCl _ _), rfl, va_nmO (C := "java/lang/Object") (hI.1.2 5 _ rfl).2 rfl⟩ (Nat.le_of_ble_eq_true rfl) (Nat.le_of_ble_eq_true rfl) dJ7_copyOf_1904c_3 ?_
  refine g_callq hI (va_runS (As := [.ref o, .int (nI N1), .ref (cy 9)]) (rest := []) ⟨hx, hb, hml, hown, hts⟩ (c_J7_copyOf_6403c l D cy de f o cap y N1 ho hc1 hc2 hel s.heap.size) (va_cwS 3 hts gJ7_copyOf_1904c_J7_copyOf_6403c rfl rfl rfl (by decide +kernel) ⟨Nat.le_of_ble_eq_true rfl, Nat.le_of_ble_eq_true rfl⟩) (g_preS hI) rfl rfl hl.1 rfl (lv_room (Nat.le_of_ble_eq_true rfl)) dJ7_copyOf_1904c_6 ⟨Nat.le_of_ble_eq_true rfl, Nat.le_of_ble_eq_true rfl⟩) (fun r_1 f_2 H locs hw_3 hI => ?_)
  obtain ⟨q_4, rfl, hq_5, e_6⟩ := hw_3
  have hn_7 : o ≠ q_4 := g_nn ho hq_5
  have e_6 : f_2 = va_up f q_4 (some (.inl (cy 5, N1, .inr (.inr (.inr (.inr (va_cpy y (fun _ => none) 0 0 cap))))))) := e_6
  have hf_8 : f_2 q_4 = some (.inl (cy 5, N1, .inr (.inr (.inr (.inr (va_cpy y (fun _ => none) 0 0 cap)))))) := by rw [e_6]; exact va_up_self _ _ _
  have hf_9 : f_2 o = some (.inl (cy 5, cap, .inr (.inr (.inr (.inr y))))) := by rw [e_6, va_up_ne _ _ (hn_7)]; exact ho
  exact g_aret hx hb hr (Or.inr ⟨_, rfl⟩) hlocks hI ⟨q_4, rfl, hq_5, by rw [e_6]⟩ (Nat.le_of_ble_eq_true rfl) (Nat.le_of_ble_eq_true rfl) dJ7_copyOf_1904c_9
end
section
theorem g_u3 {α : Type} (f : Nat → α) (a q : Nat) (x y z : α) : va_up (va_up (va_up f a x) q y) a z = va_up (va_up f q y) a z := by
  funext j
  by_cases h : j = a
  · subst h; rw [va_up_self, va_up_self]
  · rw [va_up_ne _ _ h, va_up_ne _ _ h]
    by_cases h2 : j = q
    · subst h2; rw [va_up_self, va_up_self]
    · rw [va_up_ne _ _ h2, va_up_ne _ _ h2, va_up_ne _ _ h]
theorem g_neA {f : gFm} {a b i : Nat} {x : List Value} {y : ClassId × vp_A} (ha : f a = some (.inr (i, x))) (hb : f b = some (.inl y)) : b ≠ a := by
  intro e
  subst e
  rw [ha] at hb
  cases hb
theorem g_frU {f f1 : gFm} {a q : Nat} {x : va_E} (e : f1 = va_up f a (some x)) (h : f1 q = none) : f q = none := by
  subst e
  by_cases c : q = a
  · subst c; rw [va_up_self] at h; cases h
  · rw [va_up_ne _ _ c] at h; exact h
theorem gMi_mono {l : Launch} {y : MethodName} {ws : List Cond} {rm : Room} {D : va_G} {cy : Nat → ClassId} {de : Nat} {av : List Value} {f : gFm} {post post' : Int32 → gFm → Prop} {mc ms : Nat} (h : gMi l y ws rm D cy de av f post mc ms) (hp : ∀ r f9, post r f9 → post' r f9) : gMi l y ws rm D cy de av f post' mc ms :=
  fun sz => MetFree.mono (h sz) (fun _ _ h => h) (fun _ _ _ _ _ h => h) (fun _ _ _ _ _ q => ⟨by
    obtain ⟨⟨⟨r, u, h1, h2, h3⟩, h4⟩, -⟩ := q
    exact ⟨⟨r, u, h1, hp r u h2, h3⟩, h4⟩, q.2⟩)

set_option maxHeartbeats 4000000 in
set_option maxRecDepth 100000 in
theorem c_growF (l : Launch) (D : va_G) (cy : Nat → ClassId) (de : Nat) (f : gFm) (a : Nat) (mc0 : Int32) (mn : Int32) (ha : f a = some (.inr (0, [.int mc0, .ref de, .int 0]))) (hm : mn = 1) : gMq l yJx4a65c_grow_92f84 wsJx4a65c_grow_92f84 { frames := 3, cells := 1, slots := 200, locals := 124 } D cy de [.ref a, .int mn] f (fun r9 f9 => ∃ q1, r9 = some q1 ∧ f q1 = none ∧ f9 = va_up (va_up f q1 (some (.inl (cy 5, 10, .inr (.inr (.inr (.inr (fun _ => none)))))))) a (some (.inr (0, [.int mc0, .ref q1, .int 0])))) 1 200 := by
  refine fun sz => Met.ofW (cc := cJx4a65c_grow_92f84) (maxL := 4) (ret := (some (.array (.object "java/lang/Object")))) (by decide) rfl ?_
  intro p e s m args below meth c s₁ B hml hv
  obtain ⟨rfl, hv⟩ := hv
  obtain ⟨rfl, hI⟩ := gP_I hv
  have hx := B.exec
  have hb := B.bytes
  have hr := B.returns
  have hts := atoms_spec (ws := wsJx4a65c_grow_92f84) B.pre
  have hown : s.vm.findClass RJx4a65c = some m.cls := findClass_of_methodNamed B.named
  have hlocks := B.notSynchronized
  have hinJx4a65c : ∀ w ∈ wsJx4a65c0, w ∈ wsJx4a65c_grow_92f84 := by decide +kernel
  have hw0 := hts (.fieldLink RJx4a65c 9 "java/util/ArrayList" "elementData" "[Ljava/lang/Object;") (by decide +kernel)
  have hw1 := hts (.fieldLink RJx4a65c 39 "java/util/ArrayList" "DEFAULTCAPACITY_EMPTY_ELEMENTDATA" "[Ljava/lang/Object;") (by decide +kernel)
  have hw2 := hts (.methodLink RJx4a65c 79 Lib.Math.max.name) (by decide +kernel)
  have hw3 := hts (.static Lib.Math.max.name) (by decide +kernel)
  have hw4 := hts (.initialized "java/lang/Math") (by decide +kernel)
  have hw5 := hts (.code Lib.Math.max.name Lib.Math.max.code 2 (some .int)) (by decide +kernel)
  have hw6 := hts (.classLink RJx4a65c 7 "java/lang/Object") (by decide +kernel)
  have hl := lv_entry ([.ref a, .int mn]) (n := 4) (Nat.le_of_ble_eq_true rfl)
  rw [lg_entry_eq]
  generalize (lg_sl ([.ref a, .int mn]) ++ List.replicate (4 - (lg_sl ([.ref a, .int mn])).length) Slot.unset).toArray = ls at hl ⊢
  have hl : lv_has ls 4 [(0, .ref a), (1, .int mn)] := hl
  refine lv_aload_n hx hb dJx4a65c_grow_92f84_0 rfl (lv_at hl 0 rfl) ?_
  refine g_get (ci := 0) (C := RJx4a65c) (T := TJx4a65c) (N := 3) hx hb hts hinJx4a65c hown hI ha rfl 1 (by decide) hw0 (fun _ h9 => h9) rfl dJx4a65c_grow_92f84_1 ?_
  refine va_tlen (v := 0) hx hb (gE_T hI.2.2.2.1) hI.2.1 rfl dJx4a65c_grow_92f84_4 ?_
  refine lv_istore_n (lv' := [(2, .int 0), (0, .ref a), (1, .int mn)]) hx hb dJx4a65c_grow_92f84_5 rfl hl (by decide) rfl (fun ls hl => ?_)
  refine lv_iload_n hx hb dJx4a65c_grow_92f84_6 rfl (lv_at hl 0 rfl) ?_
  refine lv_if_gt (tgt := 20) hx hb dJx4a65c_grow_92f84_7 (by decide) (fun z => absurd z (by decide)) (fun _ => ?_)
  refine lv_aload_n hx hb dJx4a65c_grow_92f84_10 rfl (lv_at hl 1 rfl) ?_
  refine g_get (ci := 0) (C := RJx4a65c) (T := TJx4a65c) (N := 3) hx hb hts hinJx4a65c hown hI ha rfl 1 (by decide) hw0 (fun _ h9 => h9) rfl dJx4a65c_grow_92f84_11 ?_
  refine va_gets hx hb (gE_Z hI.2.2.2.1) hI.2.1 hown hw1 (fun _ h9 => h9) dJx4a65c_grow_92f84_14 ?_
  refine lv_acmp_eq (rx := some de) (ry := some de) (tgt := 45) hx hb dJx4a65c_grow_92f84_17 (by decide) (fun _ => ?_) (fun z => absurd rfl z)
  refine lv_aload_n hx hb dJx4a65c_grow_92f84_45 rfl (lv_at hl 1 rfl) ?_
  refine lv_bipush (v := 10) hx hb dJx4a65c_grow_92f84_46 (by decide) ?_
  refine lv_iload_n hx hb dJx4a65c_grow_92f84_48 rfl (lv_at hl 2 rfl) ?_
  refine va_mmax hx hb (by rw [hml]; exact hl.1.symm) hown hw2 hw3 hw4 hw5 (Nat.le_of_ble_eq_true rfl) (Nat.le_of_ble_eq_true rfl) (Nat.le_of_ble_eq_true rfl) (Nat.le_of_ble_eq_true rfl) dJx4a65c_grow_92f84_49 ?_
  refine g_newq (N' := 10) hx hb hown hw6 (hI.2.2.2.1.2.2.2.2.1 "java/lang/Object" (List.mem_of_getElem? (i := 2) rfl)) hI 5 rfl (by rw [hm]; decide) (by rw [hm]; decide) (by decide) (Nat.le_of_ble_eq_true rfl) (Nat.le_of_ble_eq_true rfl) dJx4a65c_grow_92f84_52 (fun q_2 f_3 H hq_5 e_4 hI => ?_)
  have hn_6 : a ≠ q_2 := g_nn ha hq_5
  have e_4 : f_3 = va_up f q_2 (some (.inl (cy 5, 10, .inr (.inr (.inr (.inr (fun _ => none))))))) := e_4
  have hf_7 : f_3 q_2 = some (.inl (cy 5, 10, .inr (.inr (.inr (.inr (fun _ => none)))))) := by rw [e_4]; exact va_up_self _ _ _
  have hf_8 : f_3 a = some (.inr (0, [.int mc0, .ref de, .int 0])) := by rw [e_4, va_up_ne _ _ (hn_6)]; exact ha
  refine lv_dup_x1 hx hb dJx4a65c_grow_92f84_55 rfl rfl ?_
  refine g_put (ci := 0) (v := .ref q_2) (ty := (.array (.object "java/lang/Object"))) (C := RJx4a65c) (T := TJx4a65c) (N := 3) hx hb hts hinJx4a65c tyJx4a65c tyJx4a65c_ok nmJx4a65c hown hI hf_8 rfl 1 (by decide) hw0 (fun _ h9 => h9) rfl (by decide +kernel) rfl rfl (Nat.le_of_ble_eq_true rfl) dJx4a65c_grow_92f84_56 (fun f_9 H locs e_10 hI => ?_)
  have e_10 : f_9 = va_up f_3 a (some (.inr (0, [.int mc0, .ref q_2, .int 0]))) := e_10
  have hf_11 : f_9 a = some (.inr (0, [.int mc0, .ref q_2, .int 0])) := by rw [e_10]; exact va_up_self _ _ _
  have hf_12 : f_9 q_2 = some (.inl (cy 5, 10, .inr (.inr (.inr (.inr (fun _ => none)))))) := by rw [e_10, va_up_ne _ _ ((Ne.symm hn_6))]; exact hf_7
  exact g_aret hx hb hr (Or.inr ⟨_, rfl⟩) hlocks hI ⟨q_2, rfl, hq_5, (by rw [e_10, e_4])⟩ (Nat.le_of_ble_eq_true rfl) (Nat.le_of_ble_eq_true rfl) dJx4a65c_grow_92f84_59

set_option maxHeartbeats 4000000 in
set_option maxRecDepth 100000 in
theorem c_growG (l : Launch) (D : va_G) (cy : Nat → ClassId) (de : Nat) (f : gFm) (a : Nat) (mc0 : Int32) (ek : Nat) (cap : Nat) (y : Nat → Option Nat) (ha : f a = some (.inr (0, [.int mc0, .ref ek, .int (nI cap)]))) (hek : f ek = some (.inl (cy 5, cap, .inr (.inr (.inr (.inr y)))))) (hb1 : 10 ≤ cap) (hb2 : cap ≤ 130) (hel : gEl f cap y) : gMq l yJx4a65c_grow_92f84 wsJx4a65c_grow_92f84 { frames := 3, cells := 1, slots := 200, locals := 124 } D cy de [.ref a, .int (nI cap + 1)] f (fun r9 f9 => ∃ q1, r9 = some q1 ∧ f q1 = none ∧ f9 = va_up (va_up f q1 (some (.inl (cy 5, (cap + cap / 2), .inr (.inr (.inr (.inr (va_cpy y (fun _ => none) 0 0 cap)))))))) a (some (.inr (0, [.int mc0, .ref q1, .int (nI cap)])))) 1 200 := by
  refine fun sz => Met.ofW (cc := cJx4a65c_grow_92f84) (maxL := 4) (ret := (some (.array (.object "java/lang/Object")))) (by decide) rfl ?_
  intro p e s m args below meth c s₁ B hml hv
  obtain ⟨rfl, hv⟩ := hv
  obtain ⟨rfl, hI⟩ := gP_I hv
  have hx := B.exec
  have hb := B.bytes
  have hr := B.returns
  have hts := atoms_spec (ws := wsJx4a65c_grow_92f84) B.pre
  have hown : s.vm.findClass RJx4a65c = some m.cls := findClass_of_methodNamed B.named
  have hlocks := B.notSynchronized
  have hinJx4a65c : ∀ w ∈ wsJx4a65c0, w ∈ wsJx4a65c_grow_92f84 := by decide +kernel
  have hw0 := hts (.fieldLink RJx4a65c 9 "java/util/ArrayList" "elementData" "[Ljava/lang/Object;") (by decide +kernel)
  have hl := lv_entry ([.ref a, .int (nI cap + 1)]) (n := 4) (Nat.le_of_ble_eq_true rfl)
  rw [lg_entry_eq]
  generalize (lg_sl ([.ref a, .int (nI cap + 1)]) ++ List.replicate (4 - (lg_sl ([.ref a, .int (nI cap + 1)])).length) Slot.unset).toArray = ls at hl ⊢
  have hl : lv_has ls 4 [(0, .ref a), (1, .int (nI cap + 1))] := hl
  have hea : ek ≠ a := g_neA ha hek
  have h0c : (0 : Int32) < nI cap := (by rw [← nI_0]; exact nI_lt (by omega) (by omega))
  have hT := g_len1 (cap := cap) (by omega) (by omega)
  have hl0 : 0 < nI cap + (if nI cap + 1 - nI cap < nI cap >>> ((1 : Int32) &&& 31) then nI cap >>> ((1 : Int32) &&& 31) else nI cap + 1 - nI cap) := (by rw [hT, ← nI_0]; exact nI_lt (by omega) (by omega))
  have hl1 : ¬ 2147483639 < nI cap + (if nI cap + 1 - nI cap < nI cap >>> ((1 : Int32) &&& 31) then nI cap >>> ((1 : Int32) &&& 31) else nI cap + 1 - nI cap) := (by rw [hT]; exact (show ¬ nI 2147483639 < nI (cap + cap / 2) from nI_nlt (by omega) (by decide)))
  refine lv_aload_n hx hb dJx4a65c_grow_92f84_0 rfl (lv_at hl 0 rfl) ?_
  refine g_get (ci := 0) (C := RJx4a65c) (T := TJx4a65c) (N := 3) hx hb hts hinJx4a65c hown hI ha rfl 1 (by decide) hw0 (fun _ h9 => h9) rfl dJx4a65c_grow_92f84_1 ?_
  refine g_alen (v := nI cap) hx hb hI hek 5 rfl rfl dJx4a65c_grow_92f84_4 ?_
  refine lv_istore_n (lv' := [(2, .int (nI cap)), (0, .ref a), (1, .int (nI cap + 1))]) hx hb dJx4a65c_grow_92f84_5 rfl hl (by decide) rfl (fun ls hl => ?_)
  refine lv_iload_n hx hb dJx4a65c_grow_92f84_6 rfl (lv_at hl 0 rfl) ?_
  refine lv_if_gt (tgt := 20) hx hb dJx4a65c_grow_92f84_7 (by decide) (fun _ => ?_) (fun z => absurd h0c z)
  refine lv_iload_n hx hb dJx4a65c_grow_92f84_20 rfl (lv_at hl 0 rfl) ?_
  refine lv_iload_n hx hb dJx4a65c_grow_92f84_21 rfl (lv_at hl 2 rfl) ?_
  refine lv_iload_n hx hb dJx4a65c_grow_92f84_22 rfl (lv_at hl 0 rfl) ?_
  refine lv_isub hx hb dJx4a65c_grow_92f84_23 ?_
  refine lv_iload_n hx hb dJx4a65c_grow_92f84_24 rfl (lv_at hl 0 rfl) ?_
  refine lv_iconst (v := 1) hx hb dJx4a65c_grow_92f84_25 (by decide) ?_
  refine lv_ishr hx hb dJx4a65c_grow_92f84_26 ?_
  refine g_calli hI (va_runS (As := [.int (nI cap), .int ((nI cap + 1) - (nI cap)), .int ((nI cap) >>> (1 &&& 31))]) (rest := []) ⟨hx, hb, hml, hown, hts⟩ (c_J8_newLength_cabcc l D cy de f (nI cap) ((nI cap + 1) - (nI cap)) ((nI cap) >>> (1 &&& 31)) hl0 hl1 s.heap.size) (va_cwS 3 hts gJx4a65c_grow_92f84_J8_newLength_cabcc rfl rfl rfl (by decide +kernel) ⟨Nat.le_of_ble_eq_true rfl, Nat.le_of_ble_eq_true rfl⟩) (g_preS hI) rfl rfl hl.1 rfl (lv_room (Nat.le_of_ble_eq_true rfl)) dJx4a65c_grow_92f84_27 ⟨Nat.le_of_ble_eq_true rfl, Nat.le_of_ble_eq_true rfl⟩) (fun r_2 f_3 H locs hw_4 hI => ?_)
  obtain ⟨e_5_r, e_5⟩ := hw_4
  rw [e_5_r, hT]
  rw [e_5] at hI
  refine lv_istore_n (lv' := [(3, .int (nI (cap + cap / 2))), (2, .int (nI cap)), (0, .ref a), (1, .int (nI cap + 1))]) hx hb dJx4a65c_grow_92f84_30 rfl hl (by decide) rfl (fun ls hl => ?_)
  refine lv_aload_n hx hb dJx4a65c_grow_92f84_31 rfl (lv_at hl 2 rfl) ?_
  refine lv_aload_n hx hb dJx4a65c_grow_92f84_32 rfl (lv_at hl 2 rfl) ?_
  refine g_get (ci := 0) (C := RJx4a65c) (T := TJx4a65c) (N := 3) hx hb hts hinJx4a65c hown hI ha rfl 1 (by decide) hw0 (fun _ h9 => h9) rfl dJx4a65c_grow_92f84_33 ?_
  refine lv_iload_n hx hb dJx4a65c_grow_92f84_36 rfl (lv_at hl 0 rfl) ?_
  refine g_callq hI (va_runS (As := [.ref ek, .int (nI (cap + cap / 2))]) (rest := [.ref a]) ⟨hx, hb, hml, hown, hts⟩ (c_J7_copyOf_1904c l D cy de f ek cap y (cap + cap / 2) hek (by omega) (by omega) hel H.size) (va_cwS 2 hts gJx4a65c_grow_92f84_J7_copyOf_1904c rfl rfl rfl (by decide +kernel) ⟨Nat.le_of_ble_eq_true rfl, Nat.le_of_ble_eq_true rfl⟩) (g_preS hI) rfl rfl hl.1 rfl (lv_room (Nat.le_of_ble_eq_true rfl)) dJx4a65c_grow_92f84_37 ⟨Nat.le_of_ble_eq_true rfl, Nat.le_of_ble_eq_true rfl⟩) (fun r_6 f_7 H locs hw_8 hI => ?_)
  obtain ⟨q_9, rfl, hq_10, e_11⟩ := hw_8
  have hn_12 : a ≠ q_9 := g_nn ha hq_10
  have hn_13 : ek ≠ q_9 := g_nn hek hq_10
  have e_11 : f_7 = va_up f q_9 (some (.inl (cy 5, (cap + cap / 2), .inr (.inr (.inr (.inr (va_cpy y (fun _ => none) 0 0 cap))))))) := e_11
  have hf_14 : f_7 q_9 = some (.inl (cy 5, (cap + cap / 2), .inr (.inr (.inr (.inr (va_cpy y (fun _ => none) 0 0 cap)))))) := by rw [e_11]; exact va_up_self _ _ _
  have hf_15 : f_7 a = some (.inr (0, [.int mc0, .ref ek, .int (nI cap)])) := by rw [e_11, va_up_ne _ _ (hn_12)]; exact ha
  have hf_16 : f_7 ek = some (.inl (cy 5, cap, .inr (.inr (.inr (.inr y))))) := by rw [e_11, va_up_ne _ _ (hn_13)]; exact hek
  refine lv_dup_x1 hx hb dJx4a65c_grow_92f84_40 rfl rfl ?_
  refine g_put (ci := 0) (v := .ref q_9) (ty := (.array (.object "java/lang/Object"))) (C := RJx4a65c) (T := TJx4a65c) (N := 3) hx hb hts hinJx4a65c tyJx4a65c tyJx4a65c_ok nmJx4a65c hown hI hf_15 rfl 1 (by decide) hw0 (fun _ h9 => h9) rfl (by decide +kernel) rfl rfl (Nat.le_of_ble_eq_true rfl) dJx4a65c_grow_92f84_41 (fun f_17 H locs e_18 hI => ?_)
  have e_18 : f_17 = va_up f_7 a (some (.inr (0, [.int mc0, .ref q_9, .int (nI cap)]))) := e_18
  have hf_19 : f_17 a = some (.inr (0, [.int mc0, .ref q_9, .int (nI cap)])) := by rw [e_18]; exact va_up_self _ _ _
  have hf_20 : f_17 ek = some (.inl (cy 5, cap, .inr (.inr (.inr (.inr y))))) := by rw [e_18, va_up_ne _ _ (hea)]; exact hf_16
  have hf_21 : f_17 q_9 = some (.inl (cy 5, (cap + cap / 2), .inr (.inr (.inr (.inr (va_cpy y (fun _ => none) 0 0 cap)))))) := by rw [e_18, va_up_ne _ _ ((Ne.symm hn_12))]; exact hf_14
  exact g_aret hx hb hr (Or.inr ⟨_, rfl⟩) hlocks hI ⟨q_9, rfl, hq_10, (by rw [e_18, e_11])⟩ (Nat.le_of_ble_eq_true rfl) (Nat.le_of_ble_eq_true rfl) dJx4a65c_grow_92f84_44

set_option maxHeartbeats 4000000 in
set_option maxRecDepth 100000 in
theorem c_grow0F (l : Launch) (D : va_G) (cy : Nat → ClassId) (de : Nat) (f : gFm) (a : Nat) (mc0 : Int32) (ha : f a = some (.inr (0, [.int mc0, .ref de, .int 0]))) : gMq l yJx4a65c_grow_d5877 wsJx4a65c_grow_d5877 { frames := 4, cells := 1, slots := 200, locals := 147 } D cy de [.ref a] f (fun r9 f9 => ∃ q1, r9 = some q1 ∧ f q1 = none ∧ f9 = va_up (va_up f q1 (some (.inl (cy 5, 10, .inr (.inr (.inr (.inr (fun _ => none)))))))) a (some (.inr (0, [.int mc0, .ref q1, .int 0])))) 1 200 := by
  refine fun sz => Met.ofW (cc := cJx4a65c_grow_d5877) (maxL := 1) (ret := (some (.array (.object "java/lang/Object")))) (by decide) rfl ?_
  intro p e s m args below meth c s₁ B hml hv
  obtain ⟨rfl, hv⟩ := hv
  obtain ⟨rfl, hI⟩ := gP_I hv
  have hx := B.exec
  have hb := B.bytes
  have hr := B.returns
  have hts := atoms_spec (ws := wsJx4a65c_grow_d5877) B.pre
  have hown : s.vm.findClass RJx4a65c = some m.cls := findClass_of_methodNamed B.named
  have hlocks := B.notSynchronized
  have hinJx4a65c : ∀ w ∈ wsJx4a65c0, w ∈ wsJx4a65c_grow_d5877 := by decide +kernel
  have hw0 := hts (.fieldLink RJx4a65c 48 "java/util/ArrayList" "size" "I") (by decide +kernel)
  have hl := lv_entry ([.ref a]) (n := 1) (Nat.le_of_ble_eq_true rfl)
  rw [lg_entry_eq]
  generalize (lg_sl ([.ref a]) ++ List.replicate (1 - (lg_sl ([.ref a])).length) Slot.unset).toArray = ls at hl ⊢
  have hl : lv_has ls 1 [(0, .ref a)] := hl
  refine lv_aload_n hx hb dJx4a65c_grow_d5877_0 rfl (lv_at hl 0 rfl) ?_
  refine lv_aload_n hx hb dJx4a65c_grow_d5877_1 rfl (lv_at hl 0 rfl) ?_
  refine g_get (ci := 0) (C := RJx4a65c) (T := TJx4a65c) (N := 3) hx hb hts hinJx4a65c hown hI ha rfl 2 (by decide) hw0 (fun _ h9 => h9) rfl dJx4a65c_grow_d5877_2 ?_
  refine lv_iconst (v := 1) hx hb dJx4a65c_grow_d5877_5 (by decide) ?_
  refine lv_iadd hx hb dJx4a65c_grow_d5877_6 ?_
  refine g_callq hI (va_runV (As := [.int (0 + 1)]) (rest := []) ⟨hx, hb, hml, hown, hts⟩ (c_growF l D cy de f a mc0 (0 + 1) ha (by decide) s.heap.size) (cwV 1 hts gJx4a65c_grow_d5877_Jx4a65c_grow_92f84 rfl rfl rfl (by decide +kernel) ⟨Nat.le_of_ble_eq_true rfl, Nat.le_of_ble_eq_true rfl⟩) (g_preV hI ha rfl) rfl rfl hl.1 rfl (lv_room (Nat.le_of_ble_eq_true rfl)) dJx4a65c_grow_d5877_7 ⟨Nat.le_of_ble_eq_true rfl, Nat.le_of_ble_eq_true rfl⟩) (fun r_1 f_2 H locs hw_3 hI => ?_)
  obtain ⟨q_4, rfl, hq_5, e_6⟩ := hw_3
  have hn_9 : a ≠ q_4 := g_nn ha hq_5
  obtain ⟨f_7, e_8⟩ : ∃ z, z = va_up f q_4 (some (.inl (cy 5, 10, .inr (.inr (.inr (.inr (fun _ => none))))))) := ⟨_, rfl⟩
  rw [← e_8] at e_6
  have e_8 : f_7 = va_up f q_4 (some (.inl (cy 5, 10, .inr (.inr (.inr (.inr (fun _ => none))))))) := e_8
  have hf_10 : f_7 q_4 = some (.inl (cy 5, 10, .inr (.inr (.inr (.inr (fun _ => none)))))) := by rw [e_8]; exact va_up_self _ _ _
  have hf_11 : f_7 a = some (.inr (0, [.int mc0, .ref de, .int 0])) := by rw [e_8, va_up_ne _ _ (hn_9)]; exact ha
  have e_6 : f_2 = va_up f_7 a (some (.inr (0, [.int mc0, .ref q_4, .int 0]))) := e_6
  have hf_12 : f_2 a = some (.inr (0, [.int mc0, .ref q_4, .int 0])) := by rw [e_6]; exact va_up_self _ _ _
  have hf_13 : f_2 q_4 = some (.inl (cy 5, 10, .inr (.inr (.inr (.inr (fun _ => none)))))) := by rw [e_6, va_up_ne _ _ ((Ne.symm hn_9))]; exact hf_10
  exact g_aret hx hb hr (Or.inr ⟨_, rfl⟩) hlocks hI ⟨q_4, rfl, hq_5, (by rw [e_6, e_8])⟩ (Nat.le_of_ble_eq_true rfl) (Nat.le_of_ble_eq_true rfl) dJx4a65c_grow_d5877_10

set_option maxHeartbeats 4000000 in
set_option maxRecDepth 100000 in
theorem c_grow0G (l : Launch) (D : va_G) (cy : Nat → ClassId) (de : Nat) (f : gFm) (a : Nat) (mc0 : Int32) (ek : Nat) (cap : Nat) (y : Nat → Option Nat) (ha : f a = some (.inr (0, [.int mc0, .ref ek, .int (nI cap)]))) (hek : f ek = some (.inl (cy 5, cap, .inr (.inr (.inr (.inr y)))))) (hb1 : 10 ≤ cap) (hb2 : cap ≤ 130) (hel : gEl f cap y) : gMq l yJx4a65c_grow_d5877 wsJx4a65c_grow_d5877 { frames := 4, cells := 1, slots := 200, locals := 147 } D cy de [.ref a] f (fun r9 f9 => ∃ q1, r9 = some q1 ∧ f q1 = none ∧ f9 = va_up (va_up f q1 (some (.inl (cy 5, (cap + cap / 2), .inr (.inr (.inr (.inr (va_cpy y (fun _ => none) 0 0 cap)))))))) a (some (.inr (0, [.int mc0, .ref q1, .int (nI cap)])))) 1 200 := by
  refine fun sz => Met.ofW (cc := cJx4a65c_grow_d5877) (maxL := 1) (ret := (some (.array (.object "java/lang/Object")))) (by decide) rfl ?_
  intro p e s m args below meth c s₁ B hml hv
  obtain ⟨rfl, hv⟩ := hv
  obtain ⟨rfl, hI⟩ := gP_I hv
  have hx := B.exec
  have hb := B.bytes
  have hr := B.returns
  have hts := atoms_spec (ws := wsJx4a65c_grow_d5877) B.pre
  have hown : s.vm.findClass RJx4a65c = some m.cls := findClass_of_methodNamed B.named
  have hlocks := B.notSynchronized
  have hinJx4a65c : ∀ w ∈ wsJx4a65c0, w ∈ wsJx4a65c_grow_d5877 := by decide +kernel
  have hw0 := hts (.fieldLink RJx4a65c 48 "java/util/ArrayList" "size" "I") (by decide +kernel)
  have hl := lv_entry ([.ref a]) (n := 1) (Nat.le_of_ble_eq_true rfl)
  rw [lg_entry_eq]
  generalize (lg_sl ([.ref a]) ++ List.replicate (1 - (lg_sl ([.ref a])).length) Slot.unset).toArray = ls at hl ⊢
  have hl : lv_has ls 1 [(0, .ref a)] := hl
  have hea : ek ≠ a := g_neA ha hek
  refine lv_aload_n hx hb dJx4a65c_grow_d5877_0 rfl (lv_at hl 0 rfl) ?_
  refine lv_aload_n hx hb dJx4a65c_grow_d5877_1 rfl (lv_at hl 0 rfl) ?_
  refine g_get (ci := 0) (C := RJx4a65c) (T := TJx4a65c) (N := 3) hx hb hts hinJx4a65c hown hI ha rfl 2 (by decide) hw0 (fun _ h9 => h9) rfl dJx4a65c_grow_d5877_2 ?_
  refine lv_iconst (v := 1) hx hb dJx4a65c_grow_d5877_5 (by decide) ?_
  refine lv_iadd hx hb dJx4a65c_grow_d5877_6 ?_
  refine g_callq hI (va_runV (As := [.int ((nI cap) + 1)]) (rest := []) ⟨hx, hb, hml, hown, hts⟩ (c_growG l D cy de f a mc0 ek cap y ha hek hb1 hb2 hel s.heap.size) (cwV 1 hts gJx4a65c_grow_d5877_Jx4a65c_grow_92f84 rfl rfl rfl (by decide +kernel) ⟨Nat.le_of_ble_eq_true rfl, Nat.le_of_ble_eq_true rfl⟩) (g_preV hI ha rfl) rfl rfl hl.1 rfl (lv_room (Nat.le_of_ble_eq_true rfl)) dJx4a65c_grow_d5877_7 ⟨Nat.le_of_ble_eq_true rfl, Nat.le_of_ble_eq_true rfl⟩) (fun r_1 f_2 H locs hw_3 hI => ?_)
  obtain ⟨q_4, rfl, hq_5, e_6⟩ := hw_3
  have hn_9 : a ≠ q_4 := g_nn ha hq_5
  have hn_10 : ek ≠ q_4 := g_nn hek hq_5
  obtain ⟨f_7, e_8⟩ : ∃ z, z = va_up f q_4 (some (.inl (cy 5, (cap + cap / 2), .inr (.inr (.inr (.inr (va_cpy y (fun _ => none) 0 0 cap))))))) := ⟨_, rfl⟩
  rw [← e_8] at e_6
  have e_8 : f_7 = va_up f q_4 (some (.inl (cy 5, (cap + cap / 2), .inr (.inr (.inr (.inr (va_cpy y (fun _ => none) 0 0 cap))))))) := e_8
  have hf_11 : f_7 q_4 = some (.inl (cy 5, (cap + cap / 2), .inr (.inr (.inr (.inr (va_cpy y (fun _ => none) 0 0 cap)))))) := by rw [e_8]; exact va_up_self _ _ _
  have hf_12 : f_7 a = some (.inr (0, [.int mc0, .ref ek, .int (nI cap)])) := by rw [e_8, va_up_ne _ _ (hn_9)]; exact ha
  have hf_13 : f_7 ek = some (.inl (cy 5, cap, .inr (.inr (.inr (.inr y))))) := by rw [e_8, va_up_ne _ _ (hn_10)]; exact hek
  have e_6 : f_2 = va_up f_7 a (some (.inr (0, [.int mc0, .ref q_4, .int (nI cap)]))) := e_6
  have hf_14 : f_2 a = some (.inr (0, [.int mc0, .ref q_4, .int (nI cap)])) := by rw [e_6]; exact va_up_self _ _ _
  have hf_15 : f_2 ek = some (.inl (cy 5, cap, .inr (.inr (.inr (.inr y))))) := by rw [e_6, va_up_ne _ _ (hea)]; exact hf_13
  have hf_16 : f_2 q_4 = some (.inl (cy 5, (cap + cap / 2), .inr (.inr (.inr (.inr (va_cpy y (fun _ => none) 0 0 cap)))))) := by rw [e_6, va_up_ne _ _ ((Ne.symm hn_9))]; exact hf_11
  exact g_aret hx hb hr (Or.inr ⟨_, rfl⟩) hlocks hI ⟨q_4, rfl, hq_5, (by rw [e_6, e_8])⟩ (Nat.le_of_ble_eq_true rfl) (Nat.le_of_ble_eq_true rfl) dJx4a65c_grow_d5877_10

set_option maxHeartbeats 4000000 in
set_option maxRecDepth 100000 in
theorem c_add3F (l : Launch) (D : va_G) (cy : Nat → ClassId) (de : Nat) (f : gFm) (a : Nat) (mc0 : Int32) (q : Nat) (ci : Nat) (qs : List Value) (rc : vw_C) (ha : f a = some (.inr (0, [.int mc0, .ref de, .int 0]))) (hq : f q = some (.inr (ci, qs))) (hrc : vwCl[ci]? = some rc) (hca : (rc.1, "java/lang/Object") ∈ gCs) (hqa : q ≠ a) : gMv l yJx4a65c_add_72be8 wsJx4a65c_add_72be8 { frames := 5, cells := 1, slots := 200, locals := 167 } D cy de [.ref a, .ref q, .ref de, .int 0] f (fun f9 => ∃ q1, f q1 = none ∧ f9 = va_up (va_up f q1 (some (.inl (cy 5, 10, .inr (.inr (.inr (.inr (va_up (fun _ => none) (ix 0) (some q))))))))) a (some (.inr (0, [.int mc0, .ref q1, .int (0 + 1)])))) 1 200 := by
  refine fun sz => Met.ofW (cc := cJx4a65c_add_72be8) (maxL := 4) (ret := none) (by decide) rfl ?_
  intro p e s m args below meth c s₁ B hml hv
  obtain ⟨rfl, hv⟩ := hv
  obtain ⟨rfl, hI⟩ := gP_I hv
  have hx := B.exec
  have hb := B.bytes
  have hr := B.returns
  have hts := atoms_spec (ws := wsJx4a65c_add_72be8) B.pre
  have hown : s.vm.findClass RJx4a65c = some m.cls := findClass_of_methodNamed B.named
  have hlocks := B.notSynchronized
  have hinJx4a65c : ∀ w ∈ wsJx4a65c0, w ∈ wsJx4a65c_add_72be8 := by decide +kernel
  have hw0 := hts (.fieldLink RJx4a65c 48 "java/util/ArrayList" "size" "I") (by decide +kernel)
  have hl := lv_entry ([.ref a, .ref q, .ref de, .int 0]) (n := 4) (Nat.le_of_ble_eq_true rfl)
  rw [lg_entry_eq]
  generalize (lg_sl ([.ref a, .ref q, .ref de, .int 0]) ++ List.replicate (4 - (lg_sl ([.ref a, .ref q, .ref de, .int 0])).length) Slot.unset).toArray = ls at hl ⊢
  have hl : lv_has ls 4 [(0, .ref a), (1, .ref q), (2, .ref de), (3, .int 0)] := hl
  refine lv_iload_n hx hb dJx4a65c_add_72be8_0 rfl (lv_at hl 3 rfl) ?_
  refine lv_aload_n hx hb dJx4a65c_add_72be8_1 rfl (lv_at hl 2 rfl) ?_
  refine va_tlen (v := 0) hx hb (gE_T hI.2.2.2.1) hI.2.1 rfl dJx4a65c_add_72be8_2 ?_
  refine lv_icmp_ne (tgt := 11) hx hb dJx4a65c_add_72be8_3 (by decide) (fun z => absurd z (by decide)) (fun _ => ?_)
  refine lv_aload_n hx hb dJx4a65c_add_72be8_6 rfl (lv_at hl 0 rfl) ?_
  refine g_callq hI (va_runV (As := []) (rest := []) ⟨hx, hb, hml, hown, hts⟩ (c_grow0F l D cy de f a mc0 ha s.heap.size) (cwV 0 hts gJx4a65c_add_72be8_Jx4a65c_grow_d5877 rfl rfl rfl (by decide +kernel) ⟨Nat.le_of_ble_eq_true rfl, Nat.le_of_ble_eq_true rfl⟩) (g_preV hI ha rfl) rfl rfl hl.1 rfl (lv_room (Nat.le_of_ble_eq_true rfl)) dJx4a65c_add_72be8_7 ⟨Nat.le_of_ble_eq_true rfl, Nat.le_of_ble_eq_true rfl⟩) (fun r_2 f_3 H locs hw_4 hI => ?_)
  obtain ⟨q_5, rfl, hq_6, e_7⟩ := hw_4
  have hn_10 : a ≠ q_5 := g_nn ha hq_6
  have hn_11 : q ≠ q_5 := g_nn hq hq_6
  obtain ⟨f_8, e_9⟩ : ∃ z, z = va_up f q_5 (some (.inl (cy 5, 10, .inr (.inr (.inr (.inr (fun _ => none))))))) := ⟨_, rfl⟩
  rw [← e_9] at e_7
  have e_9 : f_8 = va_up f q_5 (some (.inl (cy 5, 10, .inr (.inr (.inr (.inr (fun _ => none))))))) := e_9
  have hf_12 : f_8 q_5 = some (.inl (cy 5, 10, .inr (.inr (.inr (.inr (fun _ => none)))))) := by rw [e_9]; exact va_up_self _ _ _
  have hf_13 : f_8 a = some (.inr (0, [.int mc0, .ref de, .int 0])) := by rw [e_9, va_up_ne _ _ (hn_10)]; exact ha
  have hf_14 : f_8 q = some (.inr (ci, qs)) := by rw [e_9, va_up_ne _ _ (hn_11)]; exact hq
  have e_7 : f_3 = va_up f_8 a (some (.inr (0, [.int mc0, .ref q_5, .int 0]))) := e_7
  have hf_15 : f_3 a = some (.inr (0, [.int mc0, .ref q_5, .int 0])) := by rw [e_7]; exact va_up_self _ _ _
  have hf_16 : f_3 q = some (.inr (ci, qs)) := by rw [e_7, va_up_ne _ _ (hqa)]; exact hf_14
  have hf_17 : f_3 q_5 = some (.inl (cy 5, 10, .inr (.inr (.inr (.inr (fun _ => none)))))) := by rw [e_7, va_up_ne _ _ ((Ne.symm hn_10))]; exact hf_12
  refine lv_astore_n (lv' := [(2, .ref q_5), (0, .ref a), (1, .ref q), (3, .int 0)]) hx hb dJx4a65c_add_72be8_10 rfl hl (by decide) rfl (fun ls hl => ?_)
  refine lv_aload_n hx hb dJx4a65c_add_72be8_11 rfl (lv_at hl 0 rfl) ?_
  refine lv_iload_n hx hb dJx4a65c_add_72be8_12 rfl (lv_at hl 3 rfl) ?_
  refine lv_aload_n hx hb dJx4a65c_add_72be8_13 rfl (lv_at hl 2 rfl) ?_
  refine g_aast (C := "java/lang/Object") hx hb hI hf_17 5 rfl (g_anyC hI hf_16 hrc (hI.2.2.2.1.2.2.1 _ hca)) (by unfold vp_in; decide) dJx4a65c_add_72be8_14 (fun f_18 H locs e_19 hI => ?_)
  have e_19 : f_18 = va_up f_3 q_5 (some (.inl (cy 5, 10, .inr (.inr (.inr (.inr (va_up (fun _ => none) (ix 0) (some q)))))))) := e_19
  have hf_20 : f_18 q_5 = some (.inl (cy 5, 10, .inr (.inr (.inr (.inr (va_up (fun _ => none) (ix 0) (some q))))))) := by rw [e_19]; exact va_up_self _ _ _
  have hf_21 : f_18 a = some (.inr (0, [.int mc0, .ref q_5, .int 0])) := by rw [e_19, va_up_ne _ _ (hn_10)]; exact hf_15
  have hf_22 : f_18 q = some (.inr (ci, qs)) := by rw [e_19, va_up_ne _ _ (hn_11)]; exact hf_16
  refine lv_aload_n hx hb dJx4a65c_add_72be8_15 rfl (lv_at hl 1 rfl) ?_
  refine lv_iload_n hx hb dJx4a65c_add_72be8_16 rfl (lv_at hl 3 rfl) ?_
  refine lv_iconst (v := 1) hx hb dJx4a65c_add_72be8_17 (by decide) ?_
  refine lv_iadd hx hb dJx4a65c_add_72be8_18 ?_
  refine g_put (ci := 0) (v := .int (0 + 1)) (ty := .int) (C := RJx4a65c) (T := TJx4a65c) (N := 3) hx hb hts hinJx4a65c tyJx4a65c tyJx4a65c_ok nmJx4a65c hown hI hf_21 rfl 2 (by decide) hw0 (fun _ h9 => h9) rfl (by decide +kernel) rfl rfl (Nat.le_of_ble_eq_true rfl) dJx4a65c_add_72be8_19 (fun f_23 H locs e_24 hI => ?_)
  have e_24 : f_23 = va_up f_18 a (some (.inr (0, [.int mc0, .ref q_5, .int (0 + 1)]))) := e_24
  have hf_25 : f_23 a = some (.inr (0, [.int mc0, .ref q_5, .int (0 + 1)])) := by rw [e_24]; exact va_up_self _ _ _
  have hf_26 : f_23 q = some (.inr (ci, qs)) := by rw [e_24, va_up_ne _ _ (hqa)]; exact hf_22
  have hf_27 : f_23 q_5 = some (.inl (cy 5, 10, .inr (.inr (.inr (.inr (va_up (fun _ => none) (ix 0) (some q))))))) := by rw [e_24, va_up_ne _ _ ((Ne.symm hn_10))]; exact hf_20
  exact g_vret hx hb hr hlocks hI ⟨q_5, hq_6, (by rw [e_24, e_19, e_7, e_9] <;> simp only [g_u3, g_uu])⟩ (Nat.le_of_ble_eq_true rfl) (Nat.le_of_ble_eq_true rfl) dJx4a65c_add_72be8_22

set_option maxHeartbeats 4000000 in
set_option maxRecDepth 100000 in
theorem c_add3R (l : Launch) (D : va_G) (cy : Nat → ClassId) (de : Nat) (f : gFm) (a : Nat) (mc0 : Int32) (ek : Nat) (cap : Nat) (y : Nat → Option Nat) (n : Nat) (q : Nat) (ci : Nat) (qs : List Value) (rc : vw_C) (ha : f a = some (.inr (0, [.int mc0, .ref ek, .int (nI n)]))) (hek : f ek = some (.inl (cy 5, cap, .inr (.inr (.inr (.inr y)))))) (hq : f q = some (.inr (ci, qs))) (hrc : vwCl[ci]? = some rc) (hca : (rc.1, "java/lang/Object") ∈ gCs) (hqa : q ≠ a) (hn1 : n < cap) (hn2 : cap ≤ 1000) (hqe : q ≠ ek) : gMv l yJx4a65c_add_72be8 wsJx4a65c_add_72be8 { frames := 5, cells := 1, slots := 200, locals := 167 } D cy de [.ref a, .ref q, .ref ek, .int (nI n)] f (fun f9 => f9 = va_up (va_up f ek (some (.inl (cy 5, cap, .inr (.inr (.inr (.inr (va_up y (ix (nI n)) (some q))))))))) a (some (.inr (0, [.int mc0, .ref ek, .int (nI n + 1)])))) 1 200 := by
  refine fun sz => Met.ofW (cc := cJx4a65c_add_72be8) (maxL := 4) (ret := none) (by decide) rfl ?_
  intro p e s m args below meth c s₁ B hml hv
  obtain ⟨rfl, hv⟩ := hv
  obtain ⟨rfl, hI⟩ := gP_I hv
  have hx := B.exec
  have hb := B.bytes
  have hr := B.returns
  have hts := atoms_spec (ws := wsJx4a65c_add_72be8) B.pre
  have hown : s.vm.findClass RJx4a65c = some m.cls := findClass_of_methodNamed B.named
  have hlocks := B.notSynchronized
  have hinJx4a65c : ∀ w ∈ wsJx4a65c0, w ∈ wsJx4a65c_add_72be8 := by decide +kernel
  have hw0 := hts (.fieldLink RJx4a65c 48 "java/util/ArrayList" "size" "I") (by decide +kernel)
  have hl := lv_entry ([.ref a, .ref q, .ref ek, .int (nI n)]) (n := 4) (Nat.le_of_ble_eq_true rfl)
  rw [lg_entry_eq]
  generalize (lg_sl ([.ref a, .ref q, .ref ek, .int (nI n)]) ++ List.replicate (4 - (lg_sl ([.ref a, .ref q, .ref ek, .int (nI n)])).length) Slot.unset).toArray = ls at hl ⊢
  have hl : lv_has ls 4 [(0, .ref a), (1, .ref q), (2, .ref ek), (3, .int (nI n))] := hl
  have hea : ek ≠ a := g_neA ha hek
  have hne : ¬ nI n = nI cap := fun e => absurd ((nI_eq (by omega) (by omega)).mp e) (by omega)
  refine lv_iload_n hx hb dJx4a65c_add_72be8_0 rfl (lv_at hl 3 rfl) ?_
  refine lv_aload_n hx hb dJx4a65c_add_72be8_1 rfl (lv_at hl 2 rfl) ?_
  refine g_alen (v := nI cap) hx hb hI hek 5 rfl rfl dJx4a65c_add_72be8_2 ?_
  refine lv_icmp_ne (tgt := 11) hx hb dJx4a65c_add_72be8_3 (by decide) (fun _ => ?_) (fun z => absurd z hne)
  refine lv_aload_n hx hb dJx4a65c_add_72be8_11 rfl (lv_at hl 2 rfl) ?_
  refine lv_iload_n hx hb dJx4a65c_add_72be8_12 rfl (lv_at hl 3 rfl) ?_
  refine lv_aload_n hx hb dJx4a65c_add_72be8_13 rfl (lv_at hl 1 rfl) ?_
  refine g_aast (C := "java/lang/Object") hx hb hI hek 5 rfl (g_anyC hI hq hrc (hI.2.2.2.1.2.2.1 _ hca)) (vp_in_nI hn1 (by omega)) dJx4a65c_add_72be8_14 (fun f_2 H locs e_3 hI => ?_)
  have e_3 : f_2 = va_up f ek (some (.inl (cy 5, cap, .inr (.inr (.inr (.inr (va_up y (ix (nI n)) (some q)))))))) := e_3
  have hf_4 : f_2 ek = some (.inl (cy 5, cap, .inr (.inr (.inr (.inr (va_up y (ix (nI n)) (some q))))))) := by rw [e_3]; exact va_up_self _ _ _
  have hf_5 : f_2 a = some (.inr (0, [.int mc0, .ref ek, .int (nI n)])) := by rw [e_3, va_up_ne _ _ ((Ne.symm hea))]; exact ha
  have hf_6 : f_2 q = some (.inr (ci, qs)) := by rw [e_3, va_up_ne _ _ (hqe)]; exact hq
  refine lv_aload_n hx hb dJx4a65c_add_72be8_15 rfl (lv_at hl 0 rfl) ?_
  refine lv_iload_n hx hb dJx4a65c_add_72be8_16 rfl (lv_at hl 3 rfl) ?_
  refine lv_iconst (v := 1) hx hb dJx4a65c_add_72be8_17 (by decide) ?_
  refine lv_iadd hx hb dJx4a65c_add_72be8_18 ?_
  refine g_put (ci := 0) (v := .int ((nI n) + 1)) (ty := .int) (C := RJx4a65c) (T := TJx4a65c) (N := 3) hx hb hts hinJx4a65c tyJx4a65c tyJx4a65c_ok nmJx4a65c hown hI hf_5 rfl 2 (by decide) hw0 (fun _ h9 => h9) rfl (by decide +kernel) rfl rfl (Nat.le_of_ble_eq_true rfl) dJx4a65c_add_72be8_19 (fun f_7 H locs e_8 hI => ?_)
  have e_8 : f_7 = va_up f_2 a (some (.inr (0, [.int mc0, .ref ek, .int ((nI n) + 1)]))) := e_8
  have hf_9 : f_7 a = some (.inr (0, [.int mc0, .ref ek, .int ((nI n) + 1)])) := by rw [e_8]; exact va_up_self _ _ _
  have hf_10 : f_7 ek = some (.inl (cy 5, cap, .inr (.inr (.inr (.inr (va_up y (ix (nI n)) (some q))))))) := by rw [e_8, va_up_ne _ _ (hea)]; exact hf_4
  have hf_11 : f_7 q = some (.inr (ci, qs)) := by rw [e_8, va_up_ne _ _ (hqa)]; exact hf_6
  exact g_vret hx hb hr hlocks hI (by rw [e_8, e_3] <;> simp only [g_u3, g_uu]) (Nat.le_of_ble_eq_true rfl) (Nat.le_of_ble_eq_true rfl) dJx4a65c_add_72be8_22

set_option maxHeartbeats 4000000 in
set_option maxRecDepth 100000 in
theorem c_add3G (l : Launch) (D : va_G) (cy : Nat → ClassId) (de : Nat) (f : gFm) (a : Nat) (mc0 : Int32) (ek : Nat) (cap : Nat) (y : Nat → Option Nat) (q : Nat) (ci : Nat) (qs : List Value) (rc : vw_C) (ha : f a = some (.inr (0, [.int mc0, .ref ek, .int (nI cap)]))) (hek : f ek = some (.inl (cy 5, cap, .inr (.inr (.inr (.inr y)))))) (hq : f q = some (.inr (ci, qs))) (hrc : vwCl[ci]? = some rc) (hca : (rc.1, "java/lang/Object") ∈ gCs) (hqa : q ≠ a) (hb1 : 10 ≤ cap) (hb2 : cap ≤ 130) (hel : gEl f cap y) (hqe : q ≠ ek) : gMv l yJx4a65c_add_72be8 wsJx4a65c_add_72be8 { frames := 5, cells := 1, slots := 200, locals := 167 } D cy de [.ref a, .ref q, .ref ek, .int (nI cap)] f (fun f9 => ∃ q1, f q1 = none ∧ f9 = va_up (va_up f q1 (some (.inl (cy 5, (cap + cap / 2), .inr (.inr (.inr (.inr (va_up (va_cpy y (fun _ => none) 0 0 cap) (ix (nI cap)) (some q))))))))) a (some (.inr (0, [.int mc0, .ref q1, .int (nI cap + 1)])))) 1 200 := by
  refine fun sz => Met.ofW (cc := cJx4a65c_add_72be8) (maxL := 4) (ret := none) (by decide) rfl ?_
  intro p e s m args below meth c s₁ B hml hv
  obtain ⟨rfl, hv⟩ := hv
  obtain ⟨rfl, hI⟩ := gP_I hv
  have hx := B.exec
  have hb := B.bytes
  have hr := B.returns
  have hts := atoms_spec (ws := wsJx4a65c_add_72be8) B.pre
  have hown : s.vm.findClass RJx4a65c = some m.cls := findClass_of_methodNamed B.named
  have hlocks := B.notSynchronized
  have hinJx4a65c : ∀ w ∈ wsJx4a65c0, w ∈ wsJx4a65c_add_72be8 := by decide +kernel
  have hw0 := hts (.fieldLink RJx4a65c 48 "java/util/ArrayList" "size" "I") (by decide +kernel)
  have hl := lv_entry ([.ref a, .ref q, .ref ek, .int (nI cap)]) (n := 4) (Nat.le_of_ble_eq_true rfl)
  rw [lg_entry_eq]
  generalize (lg_sl ([.ref a, .ref q, .ref ek, .int (nI cap)]) ++ List.replicate (4 - (lg_sl ([.ref a, .ref q, .ref ek, .int (nI cap)])).length) Slot.unset).toArray = ls at hl ⊢
  have hl : lv_has ls 4 [(0, .ref a), (1, .ref q), (2, .ref ek), (3, .int (nI cap))] := hl
  have hea : ek ≠ a := g_neA ha hek
  have hrf : nI cap = nI cap := rfl
  refine lv_iload_n hx hb dJx4a65c_add_72be8_0 rfl (lv_at hl 3 rfl) ?_
  refine lv_aload_n hx hb dJx4a65c_add_72be8_1 rfl (lv_at hl 2 rfl) ?_
  refine g_alen (v := nI cap) hx hb hI hek 5 rfl rfl dJx4a65c_add_72be8_2 ?_
  refine lv_icmp_ne (tgt := 11) hx hb dJx4a65c_add_72be8_3 (by decide) (fun z => absurd hrf z) (fun _ => ?_)
  refine lv_aload_n hx hb dJx4a65c_add_72be8_6 rfl (lv_at hl 0 rfl) ?_
  refine g_callq hI (va_runV (As := []) (rest := []) ⟨hx, hb, hml, hown, hts⟩ (c_grow0G l D cy de f a mc0 ek cap y ha hek hb1 hb2 hel s.heap.size) (cwV 0 hts gJx4a65c_add_72be8_Jx4a65c_grow_d5877 rfl rfl rfl (by decide +kernel) ⟨Nat.le_of_ble_eq_true rfl, Nat.le_of_ble_eq_true rfl⟩) (g_preV hI ha rfl) rfl rfl hl.1 rfl (lv_room (Nat.le_of_ble_eq_true rfl)) dJx4a65c_add_72be8_7 ⟨Nat.le_of_ble_eq_true rfl, Nat.le_of_ble_eq_true rfl⟩) (fun r_2 f_3 H locs hw_4 hI => ?_)
  obtain ⟨q_5, rfl, hq_6, e_7⟩ := hw_4
  have hn_10 : a ≠ q_5 := g_nn ha hq_6
  have hn_11 : ek ≠ q_5 := g_nn hek hq_6
  have hn_12 : q ≠ q_5 := g_nn hq hq_6
  obtain ⟨f_8, e_9⟩ : ∃ z, z = va_up f q_5 (some (.inl (cy 5, (cap + cap / 2), .inr (.inr (.inr (.inr (va_cpy y (fun _ => none) 0 0 cap))))))) := ⟨_, rfl⟩
  rw [← e_9] at e_7
  have e_9 : f_8 = va_up f q_5 (some (.inl (cy 5, (cap + cap / 2), .inr (.inr (.inr (.inr (va_cpy y (fun _ => none) 0 0 cap))))))) := e_9
  have hf_13 : f_8 q_5 = some (.inl (cy 5, (cap + cap / 2), .inr (.inr (.inr (.inr (va_cpy y (fun _ => none) 0 0 cap)))))) := by rw [e_9]; exact va_up_self _ _ _
  have hf_14 : f_8 a = some (.inr (0, [.int mc0, .ref ek, .int (nI cap)])) := by rw [e_9, va_up_ne _ _ (hn_10)]; exact ha
  have hf_15 : f_8 ek = some (.inl (cy 5, cap, .inr (.inr (.inr (.inr y))))) := by rw [e_9, va_up_ne _ _ (hn_11)]; exact hek
  have hf_16 : f_8 q = some (.inr (ci, qs)) := by rw [e_9, va_up_ne _ _ (hn_12)]; exact hq
  have e_7 : f_3 = va_up f_8 a (some (.inr (0, [.int mc0, .ref q_5, .int (nI cap)]))) := e_7
  have hf_17 : f_3 a = some (.inr (0, [.int mc0, .ref q_5, .int (nI cap)])) := by rw [e_7]; exact va_up_self _ _ _
  have hf_18 : f_3 ek = some (.inl (cy 5, cap, .inr (.inr (.inr (.inr y))))) := by rw [e_7, va_up_ne _ _ (hea)]; exact hf_15
  have hf_19 : f_3 q = some (.inr (ci, qs)) := by rw [e_7, va_up_ne _ _ (hqa)]; exact hf_16
  have hf_20 : f_3 q_5 = some (.inl (cy 5, (cap + cap / 2), .inr (.inr (.inr (.inr (va_cpy y (fun _ => none) 0 0 cap)))))) := by rw [e_7, va_up_ne _ _ ((Ne.symm hn_10))]; exact hf_13
  refine lv_astore_n (lv' := [(2, .ref q_5), (0, .ref a), (1, .ref q), (3, .int (nI cap))]) hx hb dJx4a65c_add_72be8_10 rfl hl (by decide) rfl (fun ls hl => ?_)
  refine lv_aload_n hx hb dJx4a65c_add_72be8_11 rfl (lv_at hl 0 rfl) ?_
  refine lv_iload_n hx hb dJx4a65c_add_72be8_12 rfl (lv_at hl 3 rfl) ?_
  refine lv_aload_n hx hb dJx4a65c_add_72be8_13 rfl (lv_at hl 2 rfl) ?_
  refine g_aast (C := "java/lang/Object") hx hb hI hf_20 5 rfl (g_anyC hI hf_19 hrc (hI.2.2.2.1.2.2.1 _ hca)) (vp_in_nI (by omega) (by omega)) dJx4a65c_add_72be8_14 (fun f_21 H locs e_22 hI => ?_)
  have e_22 : f_21 = va_up f_3 q_5 (some (.inl (cy 5, (cap + cap / 2), .inr (.inr (.inr (.inr (va_up (va_cpy y (fun _ => none) 0 0 cap) (ix (nI cap)) (some q)))))))) := e_22
  have hf_23 : f_21 q_5 = some (.inl (cy 5, (cap + cap / 2), .inr (.inr (.inr (.inr (va_up (va_cpy y (fun _ => none) 0 0 cap) (ix (nI cap)) (some q))))))) := by rw [e_22]; exact va_up_self _ _ _
  have hf_24 : f_21 a = some (.inr (0, [.int mc0, .ref q_5, .int (nI cap)])) := by rw [e_22, va_up_ne _ _ (hn_10)]; exact hf_17
  have hf_25 : f_21 ek = some (.inl (cy 5, cap, .inr (.inr (.inr (.inr y))))) := by rw [e_22, va_up_ne _ _ (hn_11)]; exact hf_18
  have hf_26 : f_21 q = some (.inr (ci, qs)) := by rw [e_22, va_up_ne _ _ (hn_12)]; exact hf_19
  refine lv_aload_n hx hb dJx4a65c_add_72be8_15 rfl (lv_at hl 1 rfl) ?_
  refine lv_iload_n hx hb dJx4a65c_add_72be8_16 rfl (lv_at hl 3 rfl) ?_
  refine lv_iconst (v := 1) hx hb dJx4a65c_add_72be8_17 (by decide) ?_
  refine lv_iadd hx hb dJx4a65c_add_72be8_18 ?_
  refine g_put (ci := 0) (v := .int ((nI cap) + 1)) (ty := .int) (C := RJx4a65c) (T := TJx4a65c) (N := 3) hx hb hts hinJx4a65c tyJx4a65c tyJx4a65c_ok nmJx4a65c hown hI hf_24 rfl 2 (by decide) hw0 (fun _ h9 => h9) rfl (by decide +kernel) rfl rfl (Nat.le_of_ble_eq_true rfl) dJx4a65c_add_72be8_19 (fun f_27 H locs e_28 hI => ?_)
  have e_28 : f_27 = va_up f_21 a (some (.inr (0, [.int mc0, .ref q_5, .int ((nI cap) + 1)]))) := e_28
  have hf_29 : f_27 a = some (.inr (0, [.int mc0, .ref q_5, .int ((nI cap) + 1)])) := by rw [e_28]; exact va_up_self _ _ _
  have hf_30 : f_27 ek = some (.inl (cy 5, cap, .inr (.inr (.inr (.inr y))))) := by rw [e_28, va_up_ne _ _ (hea)]; exact hf_25
  have hf_31 : f_27 q = some (.inr (ci, qs)) := by rw [e_28, va_up_ne _ _ (hqa)]; exact hf_26
  have hf_32 : f_27 q_5 = some (.inl (cy 5, (cap + cap / 2), .inr (.inr (.inr (.inr (va_up (va_cpy y (fun _ => none) 0 0 cap) (ix (nI cap)) (some q))))))) := by rw [e_28, va_up_ne _ _ ((Ne.symm hn_10))]; exact hf_23
  exact g_vret hx hb hr hlocks hI ⟨q_5, hq_6, (by rw [e_28, e_22, e_7, e_9] <;> simp only [g_u3, g_uu])⟩ (Nat.le_of_ble_eq_true rfl) (Nat.le_of_ble_eq_true rfl) dJx4a65c_add_72be8_22

/-- only a list's own cell has changed: what the array holds is as it was -/
theorem gEl_list {f : gFm} {n : Nat} {y : Nat → Option Nat} {a : Nat} {x : va_E} {f1 : gFm} {v : List Value} (h : gEl f n y) (ha : f a = some (.inr (0, v))) (h1 : f1 a = some x) (hk : ∀ b, b ≠ a → f1 b = f b) : gEl f1 n y := fun j hj q hq => by
  obtain ⟨ci, fs, r, h1, h2, h3⟩ := h j hj q hq
  refine ⟨ci, fs, r, ?_, h2, h3⟩
  rw [hk q (fun e => by
    rw [e, ha] at h1
    cases h1
    cases h2
    exact absurd h3 (by decide))]
  exact h1

set_option maxHeartbeats 4000000 in
set_option maxRecDepth 100000 in
theorem c_addF (l : Launch) (D : va_G) (cy : Nat → ClassId) (de : Nat) (f : gFm) (a : Nat) (mc0 : Int32) (q : Nat) (ci : Nat) (qs : List Value) (rc : vw_C) (ha : f a = some (.inr (0, [.int mc0, .ref de, .int 0]))) (hq : f q = some (.inr (ci, qs))) (hrc : vwCl[ci]? = some rc) (hca : (rc.1, "java/lang/Object") ∈ gCs) (hqa : q ≠ a) : gMi l yJx4a65c_add_9ea2d wsJx4a65c_add_9ea2d { frames := 6, cells := 1, slots := 200, locals := 190 } D cy de [.ref a, .ref q] f (fun r9 f9 => r9 = 1 ∧ ∃ q1, f q1 = none ∧ f9 = va_up (va_up f q1 (some (.inl (cy 5, 10, .inr (.inr (.inr (.inr (va_up (fun _ => none) (ix 0) (some q))))))))) a (some (.inr (0, [.int (mc0 + 1), .ref q1, .int (0 + 1)])))) 1 200 := by
  refine fun sz => Met.ofW (cc := cJx4a65c_add_9ea2d) (maxL := 2) (ret := (some .boolean)) (by decide) rfl ?_
  intro p e s m args below meth c s₁ B hml hv
  obtain ⟨rfl, hv⟩ := hv
  obtain ⟨rfl, hI⟩ := gP_I hv
  have hx := B.exec
  have hb := B.bytes
  have hr := B.returns
  have hts := atoms_spec (ws := wsJx4a65c_add_9ea2d) B.pre
  have hown : s.vm.findClass RJx4a65c = some m.cls := findClass_of_methodNamed B.named
  have hlocks := B.notSynchronized
  have hinJx4a65c : ∀ w ∈ wsJx4a65c0, w ∈ wsJx4a65c_add_9ea2d := by decide +kernel
  have hw0 := hts (.sameField "java/util/ArrayList" "java/util/AbstractList" "modCount" "I") (by decide +kernel)
  have hw1 := hts (.fieldLink RJx4a65c 63 "java/util/ArrayList" "modCount" "I") (by decide +kernel)
  have hw2 := hts (.fieldLink RJx4a65c 9 "java/util/ArrayList" "elementData" "[Ljava/lang/Object;") (by decide +kernel)
  have hw3 := hts (.fieldLink RJx4a65c 48 "java/util/ArrayList" "size" "I") (by decide +kernel)
  have hl := lv_entry ([.ref a, .ref q]) (n := 2) (Nat.le_of_ble_eq_true rfl)
  rw [lg_entry_eq]
  generalize (lg_sl ([.ref a, .ref q]) ++ List.replicate (2 - (lg_sl ([.ref a, .ref q])).length) Slot.unset).toArray = ls at hl ⊢
  have hl : lv_has ls 2 [(0, .ref a), (1, .ref q)] := hl
  refine lv_aload_n hx hb dJx4a65c_add_9ea2d_0 rfl (lv_at hl 0 rfl) ?_
  refine lv_dup hx hb dJx4a65c_add_9ea2d_1 rfl ?_
  refine g_get (ci := 0) (C := RJx4a65c) (T := TJx4a65c) (N := 3) hx hb hts hinJx4a65c hown hI ha rfl 0 (by decide) hw1 (u_same hw0) rfl dJx4a65c_add_9ea2d_2 ?_
  refine lv_iconst (v := 1) hx hb dJx4a65c_add_9ea2d_5 (by decide) ?_
  refine lv_iadd hx hb dJx4a65c_add_9ea2d_6 ?_
  refine g_put (ci := 0) (v := .int (mc0 + 1)) (ty := .int) (C := RJx4a65c) (T := TJx4a65c) (N := 3) hx hb hts hinJx4a65c tyJx4a65c tyJx4a65c_ok nmJx4a65c hown hI ha rfl 0 (by decide) hw1 (u_same hw0) rfl (by decide +kernel) rfl rfl (Nat.le_of_ble_eq_true rfl) dJx4a65c_add_9ea2d_7 (fun f_1 H locs e_2 hI => ?_)
  have e_2 : f_1 = va_up f a (some (.inr (0, [.int (mc0 + 1), .ref de, .int 0]))) := e_2
  have hf_3 : f_1 a = some (.inr (0, [.int (mc0 + 1), .ref de, .int 0])) := by rw [e_2]; exact va_up_self _ _ _
  have hf_4 : f_1 q = some (.inr (ci, qs)) := by rw [e_2, va_up_ne _ _ (hqa)]; exact hq
  refine lv_aload_n hx hb dJx4a65c_add_9ea2d_10 rfl (lv_at hl 0 rfl) ?_
  refine lv_aload_n hx hb dJx4a65c_add_9ea2d_11 rfl (lv_at hl 1 rfl) ?_
  refine lv_aload_n hx hb dJx4a65c_add_9ea2d_12 rfl (lv_at hl 0 rfl) ?_
  refine g_get (ci := 0) (C := RJx4a65c) (T := TJx4a65c) (N := 3) hx hb hts hinJx4a65c hown hI hf_3 rfl 1 (by decide) hw2 (fun _ h9 => h9) rfl dJx4a65c_add_9ea2d_13 ?_
  refine lv_aload_n hx hb dJx4a65c_add_9ea2d_16 rfl (lv_at hl 0 rfl) ?_
  refine g_get (ci := 0) (C := RJx4a65c) (T := TJx4a65c) (N := 3) hx hb hts hinJx4a65c hown hI hf_3 rfl 2 (by decide) hw3 (fun _ h9 => h9) rfl dJx4a65c_add_9ea2d_17 ?_
  refine g_callv hI (va_runV (As := [.ref q, .ref de, .int 0]) (rest := []) ⟨hx, hb, hml, hown, hts⟩ (c_add3F l D cy de f_1 a (mc0 + 1) q ci qs rc hf_3 hf_4 hrc hca hqa H.size) (cwV 3 hts gJx4a65c_add_9ea2d_Jx4a65c_add_72be8 rfl rfl rfl (by decide +kernel) ⟨Nat.le_of_ble_eq_true rfl, Nat.le_of_ble_eq_true rfl⟩) (g_preV hI hf_3 rfl) rfl rfl hl.1 rfl (lv_room (Nat.le_of_ble_eq_true rfl)) dJx4a65c_add_9ea2d_20 ⟨Nat.le_of_ble_eq_true rfl, Nat.le_of_ble_eq_true rfl⟩) (fun f_6 H locs hw_7 hI => ?_)
  obtain ⟨q_11, hq_12, e_8⟩ := hw_7
  have hn_13 : a ≠ q_11 := g_nn hf_3 hq_12
  have hn_14 : q ≠ q_11 := g_nn hf_4 hq_12
  obtain ⟨f_9, e_10⟩ : ∃ z, z = va_up f_1 q_11 (some (.inl (cy 5, 10, .inr (.inr (.inr (.inr (va_up (fun _ => none) (ix 0) (some q)))))))) := ⟨_, rfl⟩
  rw [← e_10] at e_8
  have e_10 : f_9 = va_up f_1 q_11 (some (.inl (cy 5, 10, .inr (.inr (.inr (.inr (va_up (fun _ => none) (ix 0) (some q)))))))) := e_10
  have hf_15 : f_9 q_11 = some (.inl (cy 5, 10, .inr (.inr (.inr (.inr (va_up (fun _ => none) (ix 0) (some q))))))) := by rw [e_10]; exact va_up_self _ _ _
  have hf_16 : f_9 a = some (.inr (0, [.int (mc0 + 1), .ref de, .int 0])) := by rw [e_10, va_up_ne _ _ (hn_13)]; exact hf_3
  have hf_17 : f_9 q = some (.inr (ci, qs)) := by rw [e_10, va_up_ne _ _ (hn_14)]; exact hf_4
  have e_8 : f_6 = va_up f_9 a (some (.inr (0, [.int (mc0 + 1), .ref q_11, .int (0 + 1)]))) := e_8
  have hf_18 : f_6 a = some (.inr (0, [.int (mc0 + 1), .ref q_11, .int (0 + 1)])) := by rw [e_8]; exact va_up_self _ _ _
  have hf_19 : f_6 q = some (.inr (ci, qs)) := by rw [e_8, va_up_ne _ _ (hqa)]; exact hf_17
  have hf_20 : f_6 q_11 = some (.inl (cy 5, 10, .inr (.inr (.inr (.inr (va_up (fun _ => none) (ix 0) (some q))))))) := by rw [e_8, va_up_ne _ _ ((Ne.symm hn_13))]; exact hf_15
  refine lv_iconst (v := 1) hx hb dJx4a65c_add_9ea2d_23 (by decide) ?_
  exact g_zret hx hb hr hlocks hI rfl ⟨rfl, ⟨q_11, (g_frU e_2 hq_12), (by rw [e_8, e_10, e_2] <;> simp only [g_u3, g_uu])⟩⟩ (Nat.le_of_ble_eq_true rfl) (Nat.le_of_ble_eq_true rfl) dJx4a65c_add_9ea2d_24

set_option maxHeartbeats 4000000 in
set_option maxRecDepth 100000 in
theorem c_addR (l : Launch) (D : va_G) (cy : Nat → ClassId) (de : Nat) (f : gFm) (a : Nat) (mc0 : Int32) (ek : Nat) (cap : Nat) (y : Nat → Option Nat) (n : Nat) (q : Nat) (ci : Nat) (qs : List Value) (rc : vw_C) (ha : f a = some (.inr (0, [.int mc0, .ref ek, .int (nI n)]))) (hek : f ek = some (.inl (cy 5, cap, .inr (.inr (.inr (.inr y)))))) (hq : f q = some (.inr (ci, qs))) (hrc : vwCl[ci]? = some rc) (hca : (rc.1, "java/lang/Object") ∈ gCs) (hqa : q ≠ a) (hn1 : n < cap) (hn2 : cap ≤ 1000) (hqe : q ≠ ek) : gMi l yJx4a65c_add_9ea2d wsJx4a65c_add_9ea2d { frames := 6, cells := 1, slots := 200, locals := 190 } D cy de [.ref a, .ref q] f (fun r9 f9 => r9 = 1 ∧ f9 = va_up (va_up f ek (some (.inl (cy 5, cap, .inr (.inr (.inr (.inr (va_up y (ix (nI n)) (some q))))))))) a (some (.inr (0, [.int (mc0 + 1), .ref ek, .int (nI n + 1)])))) 1 200 := by
  refine fun sz => Met.ofW (cc := cJx4a65c_add_9ea2d) (maxL := 2) (ret := (some .boolean)) (by decide) rfl ?_
  intro p e s m args below meth c s₁ B hml hv
  obtain ⟨rfl, hv⟩ := hv
  obtain ⟨rfl, hI⟩ := gP_I hv
  have hx := B.exec
  have hb := B.bytes
  have hr := B.returns
  have hts := atoms_spec (ws := wsJx4a65c_add_9ea2d) B.pre
  have hown : s.vm.findClass RJx4a65c = some m.cls := findClass_of_methodNamed B.named
  have hlocks := B.notSynchronized
  have hinJx4a65c : ∀ w ∈ wsJx4a65c0, w ∈ wsJx4a65c_add_9ea2d := by decide +kernel
  have hw0 := hts (.sameField "java/util/ArrayList" "java/util/AbstractList" "modCount" "I") (by decide +kernel)
  have hw1 := hts (.fieldLink RJx4a65c 63 "java/util/ArrayList" "modCount" "I") (by decide +kernel)
  have hw2 := hts (.fieldLink RJx4a65c 9 "java/util/ArrayList" "elementData" "[Ljava/lang/Object;") (by decide +kernel)
  have hw3 := hts (.fieldLink RJx4a65c 48 "java/util/ArrayList" "size" "I") (by decide +kernel)
  have hl := lv_entry ([.ref a, .ref q]) (n := 2) (Nat.le_of_ble_eq_true rfl)
  rw [lg_entry_eq]
  generalize (lg_sl ([.ref a, .ref q]) ++ List.replicate (2 - (lg_sl ([.ref a, .ref q])).length) Slot.unset).toArray = ls at hl ⊢
  have hl : lv_has ls 2 [(0, .ref a), (1, .ref q)] := hl
  have hea : ek ≠ a := g_neA ha hek
  refine lv_aload_n hx hb dJx4a65c_add_9ea2d_0 rfl (lv_at hl 0 rfl) ?_
  refine lv_dup hx hb dJx4a65c_add_9ea2d_1 rfl ?_
  refine g_get (ci := 0) (C := RJx4a65c) (T := TJx4a65c) (N := 3) hx hb hts hinJx4a65c hown hI ha rfl 0 (by decide) hw1 (u_same hw0) rfl dJx4a65c_add_9ea2d_2 ?_
  refine lv_iconst (v := 1) hx hb dJx4a65c_add_9ea2d_5 (by decide) ?_
  refine lv_iadd hx hb dJx4a65c_add_9ea2d_6 ?_
  refine g_put (ci := 0) (v := .int (mc0 + 1)) (ty := .int) (C := RJx4a65c) (T := TJx4a65c) (N := 3) hx hb hts hinJx4a65c tyJx4a65c tyJx4a65c_ok nmJx4a65c hown hI ha rfl 0 (by decide) hw1 (u_same hw0) rfl (by decide +kernel) rfl rfl (Nat.le_of_ble_eq_true rfl) dJx4a65c_add_9ea2d_7 (fun f_1 H locs e_2 hI => ?_)
  have e_2 : f_1 = va_up f a (some (.inr (0, [.int (mc0 + 1), .ref ek, .int (nI n)]))) := e_2
  have hf_3 : f_1 a = some (.inr (0, [.int (mc0 + 1), .ref ek, .int (nI n)])) := by rw [e_2]; exact va_up_self _ _ _
  have hf_4 : f_1 ek = some (.inl (cy 5, cap, .inr (.inr (.inr (.inr y))))) := by rw [e_2, va_up_ne _ _ (hea)]; exact hek
  have hf_5 : f_1 q = some (.inr (ci, qs)) := by rw [e_2, va_up_ne _ _ (hqa)]; exact hq
  refine lv_aload_n hx hb dJx4a65c_add_9ea2d_10 rfl (lv_at hl 0 rfl) ?_
  refine lv_aload_n hx hb dJx4a65c_add_9ea2d_11 rfl (lv_at hl 1 rfl) ?_
  refine lv_aload_n hx hb dJx4a65c_add_9ea2d_12 rfl (lv_at hl 0 rfl) ?_
  refine g_get (ci := 0) (C := RJx4a65c) (T := TJx4a65c) (N := 3) hx hb hts hinJx4a65c hown hI hf_3 rfl 1 (by decide) hw2 (fun _ h9 => h9) rfl dJx4a65c_add_9ea2d_13 ?_
  refine lv_aload_n hx hb dJx4a65c_add_9ea2d_16 rfl (lv_at hl 0 rfl) ?_
  refine g_get (ci := 0) (C := RJx4a65c) (T := TJx4a65c) (N := 3) hx hb hts hinJx4a65c hown hI hf_3 rfl 2 (by decide) hw3 (fun _ h9 => h9) rfl dJx4a65c_add_9ea2d_17 ?_
  refine g_callv hI (va_runV (As := [.ref q, .ref ek, .int (nI n)]) (rest := []) ⟨hx, hb, hml, hown, hts⟩ (c_add3R l D cy de f_1 a (mc0 + 1) ek cap y n q ci qs rc hf_3 hf_4 hf_5 hrc hca hqa hn1 hn2 hqe H.size) (cwV 3 hts gJx4a65c_add_9ea2d_Jx4a65c_add_72be8 rfl rfl rfl (by decide +kernel) ⟨Nat.le_of_ble_eq_true rfl, Nat.le_of_ble_eq_true rfl⟩) (g_preV hI hf_3 rfl) rfl rfl hl.1 rfl (lv_room (Nat.le_of_ble_eq_true rfl)) dJx4a65c_add_9ea2d_20 ⟨Nat.le_of_ble_eq_true rfl, Nat.le_of_ble_eq_true rfl⟩) (fun f_7 H locs hw_8 hI => ?_)
  have e_9 := hw_8
  obtain ⟨f_10, e_11⟩ : ∃ z, z = va_up f_1 ek (some (.inl (cy 5, cap, .inr (.inr (.inr (.inr (va_up y (ix (nI n)) (some q)))))))) := ⟨_, rfl⟩
  rw [← e_11] at e_9
  have e_11 : f_10 = va_up f_1 ek (some (.inl (cy 5, cap, .inr (.inr (.inr (.inr (va_up y (ix (nI n)) (some q)))))))) := e_11
  have hf_12 : f_10 ek = some (.inl (cy 5, cap, .inr (.inr (.inr (.inr (va_up y (ix (nI n)) (some q))))))) := by rw [e_11]; exact va_up_self _ _ _
  have hf_13 : f_10 a = some (.inr (0, [.int (mc0 + 1), .ref ek, .int (nI n)])) := by rw [e_11, va_up_ne _ _ ((Ne.symm hea))]; exact hf_3
  have hf_14 : f_10 q = some (.inr (ci, qs)) := by rw [e_11, va_up_ne _ _ (hqe)]; exact hf_5
  have e_9 : f_7 = va_up f_10 a (some (.inr (0, [.int (mc0 + 1), .ref ek, .int (nI n + 1)]))) := e_9
  have hf_15 : f_7 a = some (.inr (0, [.int (mc0 + 1), .ref ek, .int (nI n + 1)])) := by rw [e_9]; exact va_up_self _ _ _
  have hf_16 : f_7 ek = some (.inl (cy 5, cap, .inr (.inr (.inr (.inr (va_up y (ix (nI n)) (some q))))))) := by rw [e_9, va_up_ne _ _ (hea)]; exact hf_12
  have hf_17 : f_7 q = some (.inr (ci, qs)) := by rw [e_9, va_up_ne _ _ (hqa)]; exact hf_14
  refine lv_iconst (v := 1) hx hb dJx4a65c_add_9ea2d_23 (by decide) ?_
  exact g_zret hx hb hr hlocks hI rfl ⟨rfl, (by rw [e_9, e_11, e_2] <;> simp only [g_u3, g_uu])⟩ (Nat.le_of_ble_eq_true rfl) (Nat.le_of_ble_eq_true rfl) dJx4a65c_add_9ea2d_24

set_option maxHeartbeats 4000000 in
set_option maxRecDepth 100000 in
theorem c_addG (l : Launch) (D : va_G) (cy : Nat → ClassId) (de : Nat) (f : gFm) (a : Nat) (mc0 : Int32) (ek : Nat) (cap : Nat) (y : Nat → Option Nat) (q : Nat) (ci : Nat) (qs : List Value) (rc : vw_C) (ha : f a = some (.inr (0, [.int mc0, .ref ek, .int (nI cap)]))) (hek : f ek = some (.inl (cy 5, cap, .inr (.inr (.inr (.inr y)))))) (hq : f q = some (.inr (ci, qs))) (hrc : vwCl[ci]? = some rc) (hca : (rc.1, "java/lang/Object") ∈ gCs) (hqa : q ≠ a) (hb1 : 10 ≤ cap) (hb2 : cap ≤ 130) (hel : gEl f cap y) (hqe : q ≠ ek) : gMi l yJx4a65c_add_9ea2d wsJx4a65c_add_9ea2d { frames := 6, cells := 1, slots := 200, locals := 190 } D cy de [.ref a, .ref q] f (fun r9 f9 => r9 = 1 ∧ ∃ q1, f q1 = none ∧ f9 = va_up (va_up f q1 (some (.inl (cy 5, (cap + cap / 2), .inr (.inr (.inr (.inr (va_up (va_cpy y (fun _ => none) 0 0 cap) (ix (nI cap)) (some q))))))))) a (some (.inr (0, [.int (mc0 + 1), .ref q1, .int (nI cap + 1)])))) 1 200 := by
  refine fun sz => Met.ofW (cc := cJx4a65c_add_9ea2d) (maxL := 2) (ret := (some .boolean)) (by decide) rfl ?_
  intro p e s m args below meth c s₁ B hml hv
  obtain ⟨rfl, hv⟩ := hv
  obtain ⟨rfl, hI⟩ := gP_I hv
  have hx := B.exec
  have hb := B.bytes
  have hr := B.returns
  have hts := atoms_spec (ws := wsJx4a65c_add_9ea2d) B.pre
  have hown : s.vm.findClass RJx4a65c = some m.cls := findClass_of_methodNamed B.named
  have hlocks := B.notSynchronized
  have hinJx4a65c : ∀ w ∈ wsJx4a65c0, w ∈ wsJx4a65c_add_9ea2d := by decide +kernel
  have hw0 := hts (.sameField "java/util/ArrayList" "java/util/AbstractList" "modCount" "I") (by decide +kernel)
  have hw1 := hts (.fieldLink RJx4a65c 63 "java/util/ArrayList" "modCount" "I") (by decide +kernel)
  have hw2 := hts (.fieldLink RJx4a65c 9 "java/util/ArrayList" "elementData" "[Ljava/lang/Object;") (by decide +kernel)
  have hw3 := hts (.fieldLink RJx4a65c 48 "java/util/ArrayList" "size" "I") (by decide +kernel)
  have hl := lv_entry ([.ref a, .ref q]) (n := 2) (Nat.le_of_ble_eq_true rfl)
  rw [lg_entry_eq]
  generalize (lg_sl ([.ref a, .ref q]) ++ List.replicate (2 - (lg_sl ([.ref a, .ref q])).length) Slot.unset).toArray = ls at hl ⊢
  have hl : lv_has ls 2 [(0, .ref a), (1, .ref q)] := hl
  have hea : ek ≠ a := g_neA ha hek
  refine lv_aload_n hx hb dJx4a65c_add_9ea2d_0 rfl (lv_at hl 0 rfl) ?_
  refine lv_dup hx hb dJx4a65c_add_9ea2d_1 rfl ?_
  refine g_get (ci := 0) (C := RJx4a65c) (T := TJx4a65c) (N := 3) hx hb hts hinJx4a65c hown hI ha rfl 0 (by decide) hw1 (u_same hw0) rfl dJx4a65c_add_9ea2d_2 ?_
  refine lv_iconst (v := 1) hx hb dJx4a65c_add_9ea2d_5 (by decide) ?_
  refine lv_iadd hx hb dJx4a65c_add_9ea2d_6 ?_
  refine g_put (ci := 0) (v := .int (mc0 + 1)) (ty := .int) (C := RJx4a65c) (T := TJx4a65c) (N := 3) hx hb hts hinJx4a65c tyJx4a65c tyJx4a65c_ok nmJx4a65c hown hI ha rfl 0 (by decide) hw1 (u_same hw0) rfl (by decide +kernel) rfl rfl (Nat.le_of_ble_eq_true rfl) dJx4a65c_add_9ea2d_7 (fun f_1 H locs e_2 hI => ?_)
  have e_2 : f_1 = va_up f a (some (.inr (0, [.int (mc0 + 1), .ref ek, .int (nI cap)]))) := e_2
  have hf_3 : f_1 a = some (.inr (0, [.int (mc0 + 1), .ref ek, .int (nI cap)])) := by rw [e_2]; exact va_up_self _ _ _
  have hf_4 : f_1 ek = some (.inl (cy 5, cap, .inr (.inr (.inr (.inr y))))) := by rw [e_2, va_up_ne _ _ (hea)]; exact hek
  have hf_5 : f_1 q = some (.inr (ci, qs)) := by rw [e_2, va_up_ne _ _ (hqa)]; exact hq
  refine lv_aload_n hx hb dJx4a65c_add_9ea2d_10 rfl (lv_at hl 0 rfl) ?_
  refine lv_aload_n hx hb dJx4a65c_add_9ea2d_11 rfl (lv_at hl 1 rfl) ?_
  refine lv_aload_n hx hb dJx4a65c_add_9ea2d_12 rfl (lv_at hl 0 rfl) ?_
  refine g_get (ci := 0) (C := RJx4a65c) (T := TJx4a65c) (N := 3) hx hb hts hinJx4a65c hown hI hf_3 rfl 1 (by decide) hw2 (fun _ h9 => h9) rfl dJx4a65c_add_9ea2d_13 ?_
  refine lv_aload_n hx hb dJx4a65c_add_9ea2d_16 rfl (lv_at hl 0 rfl) ?_
  refine g_get (ci := 0) (C := RJx4a65c) (T := TJx4a65c) (N := 3) hx hb hts hinJx4a65c hown hI hf_3 rfl 2 (by decide) hw3 (fun _ h9 => h9) rfl dJx4a65c_add_9ea2d_17 ?_
  refine g_callv hI (va_runV (As := [.ref q, .ref ek, .int (nI cap)]) (rest := []) ⟨hx, hb, hml, hown, hts⟩ (c_add3G l D cy de f_1 a (mc0 + 1) ek cap y q ci qs rc hf_3 hf_4 hf_5 hrc hca hqa hb1 hb2 (gEl_list hel ha hf_3 (fun b hb => by rw [e_2]; exact va_up_ne _ _ hb)) hqe H.size) (cwV 3 hts gJx4a65c_add_9ea2d_Jx4a65c_add_72be8 rfl rfl rfl (by decide +kernel) ⟨Nat.le_of_ble_eq_true rfl, Nat.le_of_ble_eq_true rfl⟩) (g_preV hI hf_3 rfl) rfl rfl hl.1 rfl (lv_room (Nat.le_of_ble_eq_true rfl)) dJx4a65c_add_9ea2d_20 ⟨Nat.le_of_ble_eq_true rfl, Nat.le_of_ble_eq_true rfl⟩) (fun f_7 H locs hw_8 hI => ?_)
  obtain ⟨q_12, hq_13, e_9⟩ := hw_8
  have hn_14 : a ≠ q_12 := g_nn hf_3 hq_13
  have hn_15 : ek ≠ q_12 := g_nn hf_4 hq_13
  have hn_16 : q ≠ q_12 := g_nn hf_5 hq_13
  obtain ⟨f_10, e_11⟩ : ∃ z, z = va_up f_1 q_12 (some (.inl (cy 5, (cap + cap / 2), .inr (.inr (.inr (.inr (va_up (va_cpy y (fun _ => none) 0 0 cap) (ix (nI cap)) (some q)))))))) := ⟨_, rfl⟩
  rw [← e_11] at e_9
  have e_11 : f_10 = va_up f_1 q_12 (some (.inl (cy 5, (cap + cap / 2), .inr (.inr (.inr (.inr (va_up (va_cpy y (fun _ => none) 0 0 cap) (ix (nI cap)) (some q)))))))) := e_11
  have hf_17 : f_10 q_12 = some (.inl (cy 5, (cap + cap / 2), .inr (.inr (.inr (.inr (va_up (va_cpy y (fun _ => none) 0 0 cap) (ix (nI cap)) (some q))))))) := by rw [e_11]; exact va_up_self _ _ _
  have hf_18 : f_10 a = some (.inr (0, [.int (mc0 + 1), .ref ek, .int (nI cap)])) := by rw [e_11, va_up_ne _ _ (hn_14)]; exact hf_3
  have hf_19 : f_10 ek = some (.inl (cy 5, cap, .inr (.inr (.inr (.inr y))))) := by rw [e_11, va_up_ne _ _ (hn_15)]; exact hf_4
  have hf_20 : f_10 q = some (.inr (ci, qs)) := by rw [e_11, va_up_ne _ _ (hn_16)]; exact hf_5
  have e_9 : f_7 = va_up f_10 a (some (.inr (0, [.int (mc0 + 1), .ref q_12, .int (nI cap + 1)]))) := e_9
  have hf_21 : f_7 a = some (.inr (0, [.int (mc0 + 1), .ref q_12, .int (nI cap + 1)])) := by rw [e_9]; exact va_up_self _ _ _
  have hf_22 : f_7 ek = some (.inl (cy 5, cap, .inr (.inr (.inr (.inr y))))) := by rw [e_9, va_up_ne _ _ (hea)]; exact hf_19
  have hf_23 : f_7 q = some (.inr (ci, qs)) := by rw [e_9, va_up_ne _ _ (hqa)]; exact hf_20
  have hf_24 : f_7 q_12 = some (.inl (cy 5, (cap + cap / 2), .inr (.inr (.inr (.inr (va_up (va_cpy y (fun _ => none) 0 0 cap) (ix (nI cap)) (some q))))))) := by rw [e_9, va_up_ne _ _ ((Ne.symm hn_14))]; exact hf_17
  refine lv_iconst (v := 1) hx hb dJx4a65c_add_9ea2d_23 (by decide) ?_
  exact g_zret hx hb hr hlocks hI rfl ⟨rfl, ⟨q_12, (g_frU e_2 hq_13), (by rw [e_9, e_11, e_2] <;> simp only [g_u3, g_uu])⟩⟩ (Nat.le_of_ble_eq_true rfl) (Nat.le_of_ble_eq_true rfl) dJx4a65c_add_9ea2d_24
end
