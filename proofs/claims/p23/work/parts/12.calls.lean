section
variable {p : Program} {l : Launch} {e : Env} {R : Room} {s : State} {m : MethodId} {args : Array Value} {below : List Frame} {meth : Method} {c : Code} {H : Heap} {locs : List Loc} {cells slots : Nat} {Q : State → Prop}
variable {mc ms : Nat} {free : Addr → Prop} {A0 A1 : Nat → Prop} {H0 : Heap} {a : Array Value} {pc : Nat} {ls : Array Slot} {st0 rest : List Value}
theorem vx_callq {S SX : Type} {post : Option Nat → S → Prop} {px : SX → Prop} {B : S → State → Prop} {BX : String → SX → State → Prop} {AX : Nat → Prop} (hr : vx_Run p l e R s m args below meth c H locs cells slots mc ms (F0 m pc ls st0) rest (va_Qq post B A1 a) (vx_X px BX AX) free) (hS : va_S A0 H0 H locs) (hA : ∀ q, q < H.size → A1 q → A0 q) (hf : ∀ q, free q → A0 q) (hAX : ∀ q, q < H.size → AX q → A0 q)
    (kx : ∀ (E : String) (ce : Cell) (q9 : Addr) (u : SX) (t : State) (H1 : Heap) (locs1 : List Loc), t.heap = H1 → s.vm.Alike t.vm → px u → BX E u t → H.size ≤ H1.size → (∀ q : Nat, q < H.size → ¬ AX q → H1[q]? = H[q]?) → va_S A0 H0 H1 locs1 → H1[q9]? = some ce → ce.vm = .none → s.vm.findClass E = some ce.cls → vx_W p l e R s m args below meth c H1 locs1 (cells + mc) (slots + ms) Q (F0 m pc ls rest) q9)
    (kk : ∀ (r : Option Nat) (u : S) (t : State) (H1 : Heap) (locs1 : List Loc), t.heap = H1 → s.vm.Alike t.vm → post r u → B u t → H.size ≤ H1.size → (∀ q : Nat, q < H.size → ¬ A1 q → H1[q]? = H[q]?) → va_S A0 H0 H1 locs1 → W p l e R s m args below meth c H1 locs1 (cells + mc) (slots + ms) Q (F0 m (pc + 3) ls (va_rf r :: rest))) : W p l e R s m args below meth c H locs cells slots Q (F0 m pc ls st0) := by
  intro T hT X
  rcases hr T hT X with ⟨v, st₀, t, T', L, h0, X', hL, e1, e2, ⟨⟨r, u, hv, hp, hb⟩, hF⟩, st⟩ | ⟨q, st₀, t, T', L, E, ce, h0, X', hL, e1, e2, ⟨u, hp, hb, hF⟩, hce, hcv, hcl, st⟩
  · cases hv
    obtain ⟨k1, k2, k3⟩ := vx_keep h0 e1 hS hA hf hL hF
    obtain ⟨t2, a1, b1⟩ := kk r u t T'.heap (locs ++ L) e1.symm (by rw [← e2]; exact X'.warmed.alike) hp hb k1 k2 k3 T' rfl X'
    exact ⟨t2, st t2 a1, b1⟩
  · obtain ⟨k1, k2, k3⟩ := vx_keep h0 e1 hS hAX hf hL hF
    obtain ⟨t2, a1, b1⟩ := kx E ce q u t T'.heap (locs ++ L) e1.symm (by rw [← e2]; exact X'.warmed.alike) hp hb k1 k2 k3 (by rw [e1]; exact hce) hcv hcl T' rfl X'
    exact ⟨t2, st.trans a1, b1⟩
end
-- ===== calls and ends over the bundle =====
section GCA
variable {p : Program} {l : Launch} {e : Env} {R : Room} {s : State} {m : MethodId} {args : Array Value} {below : List Frame} {meth : Method} {c : Code} {H : Heap} {locs : List Loc} {cells slots : Nat} {Q : State → Prop}
variable {cc : ByteArray} {pc : Nat} {ls : Array Slot} {rest st0 : List Value} {D : va_G} {cy : Nat → ClassId} {de : Nat} {A : Nat → Prop} {f : gFm} {a : Array Value} {mc ms : Nat}
theorem g_calli {post : Int32 → gFm → Prop} (hI : gI D cy de A s f H locs) (hr : va_Run p l e R s m args below meth c H locs cells slots mc ms (F0 m pc ls st0) rest (va_Qi post (gB D (gA f H.size)) (gA f H.size) a) (gA f H.size))
    (kk : ∀ (r : Int32) (f1 : gFm) (H1 : Heap) (locs1 : List Loc), post r f1 → gI D cy de A s f1 H1 locs1 → W p l e R s m args below meth c H1 locs1 (cells + mc) (slots + ms) Q (F0 m (pc + 3) ls (.int r :: rest))) : W p l e R s m args below meth c H locs cells slots Q (F0 m pc ls st0) :=
  va_calli hr hI.2.1 (fun q _ h => gI_A hI q h) (gI_A hI) (fun r f1 t H1 locs1 ht _ hw hB _ _ hS => kk r f1 H1 locs1 hw (gI_back hI ht hS hB))
theorem g_callv {post : gFm → Prop} (hI : gI D cy de A s f H locs) (hr : va_Run p l e R s m args below meth c H locs cells slots mc ms (F0 m pc ls st0) rest (va_Qv post (gB D (gA f H.size)) (gA f H.size) a) (gA f H.size))
    (kk : ∀ (f1 : gFm) (H1 : Heap) (locs1 : List Loc), post f1 → gI D cy de A s f1 H1 locs1 → W p l e R s m args below meth c H1 locs1 (cells + mc) (slots + ms) Q (F0 m (pc + 3) ls rest)) : W p l e R s m args below meth c H locs cells slots Q (F0 m pc ls st0) :=
  va_callv hr hI.2.1 (fun q _ h => gI_A hI q h) (gI_A hI) (fun f1 t H1 locs1 ht _ hw hB _ _ hS => kk f1 H1 locs1 hw (gI_back hI ht hS hB))
theorem g_callq {post : Option Nat → gFm → Prop} (hI : gI D cy de A s f H locs) (hr : va_Run p l e R s m args below meth c H locs cells slots mc ms (F0 m pc ls st0) rest (va_Qq post (gB D (gA f H.size)) (gA f H.size) a) (gA f H.size))
    (kk : ∀ (r : Option Nat) (f1 : gFm) (H1 : Heap) (locs1 : List Loc), post r f1 → gI D cy de A s f1 H1 locs1 → W p l e R s m args below meth c H1 locs1 (cells + mc) (slots + ms) Q (F0 m (pc + 3) ls (va_rf r :: rest))) : W p l e R s m args below meth c H locs cells slots Q (F0 m pc ls st0) :=
  va_callq hr hI.2.1 (fun q _ h => gI_A hI q h) (gI_A hI) (fun r f1 t H1 locs1 ht _ hw hB _ _ hS => kk r f1 H1 locs1 hw (gI_back hI ht hS hB))
/-- what a caller shows of an object's method: the world is enough -/
theorem g_preV {ci : Nat} {fs : List Value} {q : vw_C} {b : Nat} {As : List Value} (hI : gI D cy de A s f H locs) (hf : f b = some (.inr (ci, fs))) (hc : vwCl[ci]? = some q) : PreV s H q.1 b (va_Pc (.ref b :: As) (gP D cy de H.size f)) As :=
  ⟨gP_blind, gI_recv hI hf hc, fun U hU hW => ⟨rfl, gI_P hI hU hW⟩⟩
theorem g_preS {As : List Value} (hI : gI D cy de A s f H locs) : PreS s H (va_Pc As (gP D cy de H.size f)) As :=
  ⟨gP_blind, fun U hU hW => ⟨rfl, gI_P hI hU hW⟩⟩
-- ends
theorem g_iret {post : Int32 → gFm → Prop} {v : Int32} (hexec : p.tables.exec = Jvm.exec) (hb : c.code = cc) (hr : meth.sig.returnType = some .int) (hlocks : meth.locks = false) (hI : gI D cy de A s f H locs) (hp : post v f) (hcm : cells ≤ mc) (hsm : slots ≤ ms) (hdg : decode cc pc = .ok (.ireturn, 1)) :
    W p l e R s m args below meth c H locs cells slots (MQ below (va_Qi post (gB D A) A) args s mc ms A) (F0 m pc ls [.int v]) :=
  W.widen hcm hsm (W.iret hexec hb hr (fun t ht _ => ⟨⟨v, f, rfl, hp, by unfold gB; rw [ht]; exact hI.2.2.2.2⟩, hI.2.1.F ht⟩) hI.2.1.2.2 hdg hlocks)
theorem g_zret {post : Int32 → gFm → Prop} {v : Int32} (hexec : p.tables.exec = Jvm.exec) (hb : c.code = cc) (hr : meth.sig.returnType = some .boolean) (hlocks : meth.locks = false) (hI : gI D cy de A s f H locs) (hn : narrow .boolean (.int v) = .int v) (hp : post v f) (hcm : cells ≤ mc) (hsm : slots ≤ ms) (hdg : decode cc pc = .ok (.ireturn, 1)) :
    W p l e R s m args below meth c H locs cells slots (MQ below (va_Qi post (gB D A) A) args s mc ms A) (F0 m pc ls [.int v]) :=
  W.widen hcm hsm (W.zret hexec hb hr hn (fun t ht _ => ⟨⟨v, f, rfl, hp, by unfold gB; rw [ht]; exact hI.2.2.2.2⟩, hI.2.1.F ht⟩) hI.2.1.2.2 hdg hlocks)
theorem g_vret {post : gFm → Prop} (hexec : p.tables.exec = Jvm.exec) (hb : c.code = cc) (hr : meth.sig.returnType = none) (hlocks : meth.locks = false) (hI : gI D cy de A s f H locs) (hp : post f) (hcm : cells ≤ mc) (hsm : slots ≤ ms) (hdg : decode cc pc = .ok (.return_, 1)) :
    W p l e R s m args below meth c H locs cells slots (MQ below (va_Qv post (gB D A) A) args s mc ms A) (F0 m pc ls []) :=
  W.widen hcm hsm (W.vret hexec hb hr (fun t ht _ => ⟨⟨f, rfl, hp, by unfold gB; rw [ht]; exact hI.2.2.2.2⟩, hI.2.1.F ht⟩) hI.2.1.2.2 hdg hlocks)
theorem g_aret {post : Option Nat → gFm → Prop} {v : Nat} {rt : FieldType} (hexec : p.tables.exec = Jvm.exec) (hb : c.code = cc) (hr : meth.sig.returnType = some rt) (hrt : (∃ n, rt = .object n) ∨ ∃ t, rt = .array t) (hlocks : meth.locks = false) (hI : gI D cy de A s f H locs) (hp : post (some v) f) (hcm : cells ≤ mc) (hsm : slots ≤ ms) (hdg : decode cc pc = .ok (.areturn, 1)) :
    W p l e R s m args below meth c H locs cells slots (MQ below (va_Qq post (gB D A) A) args s mc ms A) (F0 m pc ls [.ref v]) :=
  W.widen hcm hsm (W.aret hexec hb hr hrt (Or.inr ⟨v, rfl⟩) (fun t ht _ => ⟨⟨some v, f, rfl, hp, by unfold gB; rw [ht]; exact hI.2.2.2.2⟩, hI.2.1.F ht⟩) hI.2.1.2.2 hdg hlocks)
-- ends of methods that may throw
variable {XC : String → State → State → Prop}
theorem gx_iret {post : Int32 → gFm → Prop} {v : Int32} (hexec : p.tables.exec = Jvm.exec) (hb : c.code = cc) (hr : meth.sig.returnType = some .int) (hlocks : meth.locks = false) (hI : gI D cy de A s f H locs) (hp : post v f) (hcm : cells ≤ mc) (hsm : slots ≤ ms) (hdg : decode cc pc = .ok (.ireturn, 1)) :
    W p l e R s m args below meth c H locs cells slots (vx_MQ below (va_Qi post (gB D A) A) XC args s mc ms A) (F0 m pc ls [.int v]) := vx_ret (g_iret hexec hb hr hlocks hI hp hcm hsm hdg)
theorem gx_zret {post : Int32 → gFm → Prop} {v : Int32} (hexec : p.tables.exec = Jvm.exec) (hb : c.code = cc) (hr : meth.sig.returnType = some .boolean) (hlocks : meth.locks = false) (hI : gI D cy de A s f H locs) (hn : narrow .boolean (.int v) = .int v) (hp : post v f) (hcm : cells ≤ mc) (hsm : slots ≤ ms) (hdg : decode cc pc = .ok (.ireturn, 1)) :
    W p l e R s m args below meth c H locs cells slots (vx_MQ below (va_Qi post (gB D A) A) XC args s mc ms A) (F0 m pc ls [.int v]) := vx_ret (g_zret hexec hb hr hlocks hI hn hp hcm hsm hdg)
theorem gx_vret {post : gFm → Prop} (hexec : p.tables.exec = Jvm.exec) (hb : c.code = cc) (hr : meth.sig.returnType = none) (hlocks : meth.locks = false) (hI : gI D cy de A s f H locs) (hp : post f) (hcm : cells ≤ mc) (hsm : slots ≤ ms) (hdg : decode cc pc = .ok (.return_, 1)) :
    W p l e R s m args below meth c H locs cells slots (vx_MQ below (va_Qv post (gB D A) A) XC args s mc ms A) (F0 m pc ls []) := vx_ret (g_vret hexec hb hr hlocks hI hp hcm hsm hdg)
theorem gx_aret {post : Option Nat → gFm → Prop} {v : Nat} {rt : FieldType} (hexec : p.tables.exec = Jvm.exec) (hb : c.code = cc) (hr : meth.sig.returnType = some rt) (hrt : (∃ n, rt = .object n) ∨ ∃ t, rt = .array t) (hlocks : meth.locks = false) (hI : gI D cy de A s f H locs) (hp : post (some v) f) (hcm : cells ≤ mc) (hsm : slots ≤ ms) (hdg : decode cc pc = .ok (.areturn, 1)) :
    W p l e R s m args below meth c H locs cells slots (vx_MQ below (va_Qq post (gB D A) A) XC args s mc ms A) (F0 m pc ls [.ref v]) := vx_ret (g_aret hexec hb hr hrt hlocks hI hp hcm hsm hdg)
/-- new E("text") and its throw, out of a method whose world is as it was at its start -/
theorem gx_throw {Qc : Array Value → State → Outcome → State → Prop} {px : String → Prop} {cls text : String} {ik is ic : Nat} (hexec : p.tables.exec = Jvm.exec) (hb : c.code = cc) (hl : l.stackTraces = false)
    (hown : s.vm.findClass RX4 = some m.cls) (hcls : Bundle.fit cls = true) (hk : (Cond.classLink RX4 ik cls).before args s = true) (hini : (Cond.initialized cls).before args s = true) (hstr : ∃ sa, vk_R RX4 is text sa s) (hat : ∀ w ∈ vx_atS RX4 ic cls ["java/lang/RuntimeException", "java/lang/Exception"], w.before args s = true)
    (hgood : ∀ w ∈ Cond.classLink RX4 ik cls :: Cond.initialized cls :: vx_atS RX4 ic cls ["java/lang/RuntimeException", "java/lang/Exception"], vx_ot w = true)
    (hI : gI D cy de A s f H locs) (hsize : ls.size = c.maxLocals)
    (d0 : decode cc pc = .ok (.new ik, 3)) (d3 : decode cc (pc + 3) = .ok (.dup, 1)) (d4 : decode cc (pc + 4) = .ok (.ldc is, 2)) (d6 : decode cc (pc + 6) = .ok (.invokespecial ic, 3)) (d9 : decode cc (pc + 9) = .ok (.athrow, 1))
    (hout : ∀ x ∈ c.exceptionTable.toList, False)
    (hRframes : 5 < R.frames) (hRlocals : (rest.map fun v => v.category).sum + 82 ≤ R.locals) (hRcells : cells + 1 ≤ R.cells) (hRslots : slots + 6 ≤ R.slots) (hlocks : meth.locks = false) (hp : px cls) (hc : cells + 1 ≤ mc) (hs : slots + 6 ≤ ms) :
    W p l e R s m args below meth c H locs cells slots (vx_MQ below Qc (gXX D A f px) args s mc ms A) (F0 m pc ls rest) := by
  obtain ⟨sa, hstr⟩ := hstr
  refine vx_throwS (A := A) hexec hb hl hown hcls (by decide) hk hini hstr hat hgood hI.2.2.2.1.2.2.2.2.2.2.2.2.1 hI.2.2.2.1.2.2.2.2.2.2.2.2.2.1 hI.2.1 hsize d0 d3 d4 d6 d9 (fun x hx => (hout x hx).elim) hRframes hRlocals hRcells hRslots hlocks (fun t ha h1 h2 => ?_) hI.2.1.2.2 hc hs
  refine ⟨(), trivial, ⟨hp, ⟨fun a e ha => ?_, hI.2.2.2.2.2⟩⟩, Nat.le_trans hI.2.1.1 h1, fun q hq hA => ?_⟩
  · obtain ⟨k1, k2⟩ := hI.2.2.2.2.1 a e ha
    exact ⟨k1.kept (h2 a k1.lt), k2⟩
  · rw [h2 q (Nat.lt_of_lt_of_le hq hI.2.1.1)]
    exact hI.2.1.2.1 q hq hA
/-- a call of a method that may throw: what it throws goes on out of this one, whose world is as at its start -/
theorem gx_go {Qc : Array Value → State → Outcome → State → Prop} {px px1 : String → Prop} {E : String} {ce : Cell} {q9 : Addr} {t : State} {u : Unit} {H1 : Heap} {locs1 : List Loc} (hI : gI D cy de A s f H locs) (hout : ∀ x ∈ c.exceptionTable.toList, False) (hlocks : meth.locks = false) (ht : t.heap = H1) (hB : px1 E ∧ gB D (gA f H.size) f t) (hpp : px1 E → px E) (hS : va_S A s.heap H1 locs1) (hce : H1[q9]? = some ce) (hv : ce.vm = .none) (hcl : s.vm.findClass E = some ce.cls) (hc : cells ≤ mc) (hs : slots ≤ ms) :
    vx_W p l e R s m args below meth c H1 locs1 cells slots (vx_MQ below Qc (gXX D A f px) args s mc ms A) (F0 m pc ls rest) q9 := by
  have hI1 := gI_back hI ht hS hB.2
  refine vx_out (fun x hx => (hout x hx).elim) hlocks hce hv hcl (fun t1 ht1 _ => ⟨(), trivial, ⟨hpp hB.1, ?_⟩, hS.F ht1⟩) hS.2.2 hc hs
  unfold gB
  rw [ht1]
  exact hI1.2.2.2.2
theorem gx_calli {Qc : Array Value → State → Outcome → State → Prop} {px px1 : String → Prop} {post : Int32 → gFm → Prop} {mc1 ms1 : Nat} (hI : gI D cy de A s f H locs) (hout : ∀ x ∈ c.exceptionTable.toList, False) (hlocks : meth.locks = false) (hpp : ∀ E, px1 E → px E) (hc : cells + mc1 ≤ mc) (hs : slots + ms1 ≤ ms)
    (hr : vx_Run p l e R s m args below meth c H locs cells slots mc1 ms1 (F0 m pc ls st0) rest (va_Qi post (gB D (gA f H.size)) (gA f H.size) a) (gXX D (gA f H.size) f px1) (gA f H.size))
    (kk : ∀ (r : Int32) (f1 : gFm) (H1 : Heap) (locs1 : List Loc), post r f1 → gI D cy de A s f1 H1 locs1 → W p l e R s m args below meth c H1 locs1 (cells + mc1) (slots + ms1) (vx_MQ below Qc (gXX D A f px) args s mc ms A) (F0 m (pc + 3) ls (.int r :: rest))) : W p l e R s m args below meth c H locs cells slots (vx_MQ below Qc (gXX D A f px) args s mc ms A) (F0 m pc ls st0) :=
  vx_calli hr hI.2.1 (fun q _ h => gI_A hI q h) (gI_A hI) (fun q _ h => gI_A hI q h) (fun E ce q9 u t H1 locs1 ht _ _ hB _ _ hS h1 h2 h3 => gx_go (u := u) hI hout hlocks ht hB (hpp E) hS h1 h2 h3 hc hs) (fun r f1 t H1 locs1 ht _ hw hB _ _ hS => kk r f1 H1 locs1 hw (gI_back hI ht hS hB))
theorem gx_callv {Qc : Array Value → State → Outcome → State → Prop} {px px1 : String → Prop} {post : gFm → Prop} {mc1 ms1 : Nat} (hI : gI D cy de A s f H locs) (hout : ∀ x ∈ c.exceptionTable.toList, False) (hlocks : meth.locks = false) (hpp : ∀ E, px1 E → px E) (hc : cells + mc1 ≤ mc) (hs : slots + ms1 ≤ ms)
    (hr : vx_Run p l e R s m args below meth c H locs cells slots mc1 ms1 (F0 m pc ls st0) rest (va_Qv post (gB D (gA f H.size)) (gA f H.size) a) (gXX D (gA f H.size) f px1) (gA f H.size))
    (kk : ∀ (f1 : gFm) (H1 : Heap) (locs1 : List Loc), post f1 → gI D cy de A s f1 H1 locs1 → W p l e R s m args below meth c H1 locs1 (cells + mc1) (slots + ms1) (vx_MQ below Qc (gXX D A f px) args s mc ms A) (F0 m (pc + 3) ls rest)) : W p l e R s m args below meth c H locs cells slots (vx_MQ below Qc (gXX D A f px) args s mc ms A) (F0 m pc ls st0) :=
  vx_callv hr hI.2.1 (fun q _ h => gI_A hI q h) (gI_A hI) (fun q _ h => gI_A hI q h) (fun E ce q9 u t H1 locs1 ht _ _ hB _ _ hS h1 h2 h3 => gx_go (u := u) hI hout hlocks ht hB (hpp E) hS h1 h2 h3 hc hs) (fun f1 t H1 locs1 ht _ hw hB _ _ hS => kk f1 H1 locs1 hw (gI_back hI ht hS hB))
theorem gx_callq {Qc : Array Value → State → Outcome → State → Prop} {px px1 : String → Prop} {post : Option Nat → gFm → Prop} {mc1 ms1 : Nat} (hI : gI D cy de A s f H locs) (hout : ∀ x ∈ c.exceptionTable.toList, False) (hlocks : meth.locks = false) (hpp : ∀ E, px1 E → px E) (hc : cells + mc1 ≤ mc) (hs : slots + ms1 ≤ ms)
    (hr : vx_Run p l e R s m args below meth c H locs cells slots mc1 ms1 (F0 m pc ls st0) rest (va_Qq post (gB D (gA f H.size)) (gA f H.size) a) (gXX D (gA f H.size) f px1) (gA f H.size))
    (kk : ∀ (r : Option Nat) (f1 : gFm) (H1 : Heap) (locs1 : List Loc), post r f1 → gI D cy de A s f1 H1 locs1 → W p l e R s m args below meth c H1 locs1 (cells + mc1) (slots + ms1) (vx_MQ below Qc (gXX D A f px) args s mc ms A) (F0 m (pc + 3) ls (va_rf r :: rest))) : W p l e R s m args below meth c H locs cells slots (vx_MQ below Qc (gXX D A f px) args s mc ms A) (F0 m pc ls st0) :=
  vx_callq hr hI.2.1 (fun q _ h => gI_A hI q h) (gI_A hI) (fun q _ h => gI_A hI q h) (fun E ce q9 u t H1 locs1 ht _ _ hB _ _ hS h1 h2 h3 => gx_go (u := u) hI hout hlocks ht hB (hpp E) hS h1 h2 h3 hc hs) (fun r f1 t H1 locs1 ht _ hw hB _ _ hS => kk r f1 H1 locs1 hw (gI_back hI ht hS hB))
end GCA
-- ===== truth values =====
def b2i (b : Bool) : Int32 := cond b 1 0
theorem b2i_nar (b : Bool) : narrow .boolean (.int (b2i b)) = .int (b2i b) := by cases b <;> rfl
theorem b2i_0 {b : Bool} : b2i b = 0 ↔ b = false := by cases b <;> simp [b2i]
section GBI
variable {p : Program} {l : Launch} {e : Env} {R : Room} {s : State} {m : MethodId} {args : Array Value} {below : List Frame} {meth : Method} {c : Code} {H : Heap} {locs : List Loc} {cells slots : Nat} {Q : State → Prop}
variable {cc : ByteArray} {pc : Nat} {ls : Array Slot} {rest : List Value}
theorem g_b2i_eq (hexec : p.tables.exec = Jvm.exec) (hb : c.code = cc) {x : Bool} {off : Int} {tgt : Nat} (hdg : decode cc pc = .ok (.ifCond .eq off, 3)) (ht : (pc : Int) + off = (tgt : Int))
    (kt : x = false → W p l e R s m args below meth c H locs cells slots Q (F0 m tgt ls rest)) (kf : x = true → W p l e R s m args below meth c H locs cells slots Q (F0 m (pc + 3) ls rest)) : W p l e R s m args below meth c H locs cells slots Q (F0 m pc ls (.int (b2i x) :: rest)) :=
  lv_if_eq hexec hb hdg ht (fun h => kt (b2i_0.mp h)) (fun h => kf (by cases x; exact absurd (b2i_0.mpr rfl) h; rfl))
theorem g_b2i_ne (hexec : p.tables.exec = Jvm.exec) (hb : c.code = cc) {x : Bool} {off : Int} {tgt : Nat} (hdg : decode cc pc = .ok (.ifCond .ne off, 3)) (ht : (pc : Int) + off = (tgt : Int))
    (kt : x = true → W p l e R s m args below meth c H locs cells slots Q (F0 m tgt ls rest)) (kf : x = false → W p l e R s m args below meth c H locs cells slots Q (F0 m (pc + 3) ls rest)) : W p l e R s m args below meth c H locs cells slots Q (F0 m pc ls (.int (b2i x) :: rest)) :=
  lv_if_ne hexec hb hdg ht (fun h => kt (by cases x; exact absurd (b2i_0.mpr rfl) h; rfl)) (fun h => kf (b2i_0.mp h))
end GBI
theorem g_ne {f : gFm} {a b i j : Nat} {x y : List Value} (ha : f a = some (.inr (i, x))) (hb : f b = some (.inr (j, y))) (h : i ≠ j) : b ≠ a := by
  intro e
  subst e
  rw [ha] at hb
  cases hb
  exact h rfl
abbrev ix (x : Int32) : Nat := x.toNatClampNeg
theorem g_nn {f : gFm} {a q : Nat} {x : va_E} (ha : f a = some x) (hq : f q = none) : a ≠ q := by
  intro e
  subst e
  rw [ha] at hq
  cases hq
