-- ===== steps over the bundle =====
section GST
variable {p : Program} {l : Launch} {e : Env} {R : Room} {s : State} {m : MethodId} {args : Array Value} {below : List Frame} {meth : Method} {c : Code} {H : Heap} {locs : List Loc} {cells slots : Nat} {Q : State → Prop}
variable {cc : ByteArray} {pc : Nat} {ls : Array Slot} {rest : List Value} {D : va_G} {cy : Nat → ClassId} {de : Nat} {A : Nat → Prop} {f : gFm} {a : Nat}
theorem g_get (hexec : p.tables.exec = Jvm.exec) (hb : c.code = cc) {own ref C : String} {T : u_T} {N ci index : Nat} {Ts : List Cond} (hts : ∀ w ∈ Ts, w.before args s = true) (hin : ∀ w ∈ u_ws C T N, w ∈ Ts) (hown : s.vm.findClass own = some m.cls) (hI : gI D cy de A s f H locs) {fs : List Value} (hf : f a = some (.inr (ci, fs))) (hc : vwCl[ci]? = some (C, T, N)) (k : Nat) (hk : k < N) (hlink : (Cond.fieldLink own index ref (T k).2.1 (T k).2.2.1).before args s = true) (hsame : ∀ x, s.fieldFound? (T k).1 (T k).2.1 (T k).2.2.1 = some x → s.fieldFound? ref (T k).2.1 (T k).2.2.1 = some x) {v : Value} (hv : fs[k]? = some v) (hdg : decode cc pc = .ok (.getfield index, 3))
    (kk : W p l e R s m args below meth c H locs cells slots Q (F0 m (pc + 3) ls (v :: rest))) : W p l e R s m args below meth c H locs cells slots Q (F0 m pc ls (.ref a :: rest)) :=
  va_get (ws := [(a, .inr (ci, fs))]) hexec hb hts hin hown hI.1 (gI_P1 hI hf) 0 rfl hc k hk hlink hsame hv hdg kk
theorem g_getN (hexec : p.tables.exec = Jvm.exec) (hb : c.code = cc) {own ref C host : String} {T : u_T} {N ci index : Nat} {Ts : List Cond} (hts : ∀ w ∈ Ts, w.before args s = true) (hin : ∀ w ∈ u_ws C T N, w ∈ Ts) (hown : s.vm.findClass own = some m.cls) (hI : gI D cy de A s f H locs) {fs : List Value} (hf : f a = some (.inr (ci, fs))) (hc : vwCl[ci]? = some (C, T, N)) (k : Nat) (hk : k < N) (hlink : (Cond.fieldLinkNest own index ref (T k).2.1 (T k).2.2.1 host).before args s = true) (hsame : ∀ x, s.fieldFound? (T k).1 (T k).2.1 (T k).2.2.1 = some x → s.fieldFound? ref (T k).2.1 (T k).2.2.1 = some x) {v : Value} (hv : fs[k]? = some v) (hdg : decode cc pc = .ok (.getfield index, 3))
    (kk : W p l e R s m args below meth c H locs cells slots Q (F0 m (pc + 3) ls (v :: rest))) : W p l e R s m args below meth c H locs cells slots Q (F0 m pc ls (.ref a :: rest)) :=
  va_getN (ws := [(a, .inr (ci, fs))]) hexec hb hts hin hown hI.1 (gI_P1 hI hf) 0 rfl hc k hk hlink hsame hv hdg kk
theorem g_set {e0 e1 : va_E} (hI : gI D cy de A s f H locs) (hf : f a = some e0)
    (kk : ∀ (L : List Nat) (k : Nat), va_P D vwCl (va_pl L (g_gf f)) H → va_D A (va_pl L (g_gf f)) → (va_pl L (g_gf f))[k]? = some (a, e0) → (∀ (H1 : Heap) (locs1 : List Loc), va_P D vwCl ((va_pl L (g_gf f)).set k (a, e1)) H1 → va_D A ((va_pl L (g_gf f)).set k (a, e1)) → va_S A s.heap H1 locs1 → gI D cy de A s (va_up f a (some e1)) H1 locs1) → Q s) : Q s := by
  obtain ⟨L, hL, hP, hD⟩ := gC_pl hI.2.2.2.2
  have hm : a ∈ L := (hL a).mpr (by rw [hf]; exact Option.some_ne_none e0)
  obtain ⟨k0, hk0⟩ := va_pl_get (X := []) (f := g_gf f) hm
  have hg : g_gf f a = e0 := by simp [g_gf, hf]
  have hk1 : (va_pl L (g_gf f))[k0]? = some (a, e0) := by rw [← hg]; exact hk0
  refine kk L k0 hP hD hk1 (fun H1 locs1 hP1 hD1 hS1 => ?_)
  have es : (va_pl L (g_gf f)).set k0 (a, e1) = va_pl L (va_up (g_gf f) a e1) := va_pl_set (X := []) hD hm hk0
  rw [es] at hP1 hD1
  exact ⟨hI.1, hS1, hI.2.2.1, hI.2.2.2.1, gC_set hL hf hP1 hD1⟩
theorem g_put (hexec : p.tables.exec = Jvm.exec) (hb : c.code = cc) {own ref C : String} {T : u_T} {N ci index : Nat} {Ts : List Cond} (hts : ∀ w ∈ Ts, w.before args s = true) (hin : ∀ w ∈ u_ws C T N, w ∈ Ts) (ty0 : Nat → FieldType) (hty : ∀ k, k < N → parseFieldDescriptor (T k).2.2.1 = some (ty0 k)) (hnm : ∀ a, a < N → ∀ b, b < N → a ≠ b → (T a).2.1 ≠ (T b).2.1) (hown : s.vm.findClass own = some m.cls) (hI : gI D cy de A s f H locs) {fs : List Value} (hf : f a = some (.inr (ci, fs))) (hc : vwCl[ci]? = some (C, T, N)) (k : Nat) (hk : k < N) (hlink : (Cond.fieldLink own index ref (T k).2.1 (T k).2.2.1).before args s = true) (hsame : ∀ x, s.fieldFound? (T k).1 (T k).2.1 (T k).2.2.1 = some x → s.fieldFound? ref (T k).2.1 (T k).2.2.1 = some x) (hfin : (T k).2.2.2 = false) {ty : FieldType} {v : Value} (hd : parseFieldDescriptor (T k).2.2.1 = some ty) (hn : narrow ty v = v) (hfit : fits ty v = true) (hl : k < fs.length) (hdg : decode cc pc = .ok (.putfield index, 3))
    (kk : ∀ (f1 : gFm) (H1 : Heap) (locs1 : List Loc), f1 = va_up f a (some (.inr (ci, fs.set k v))) → gI D cy de A s f1 H1 locs1 → W p l e R s m args below meth c H1 locs1 cells slots Q (F0 m (pc + 3) ls rest)) : W p l e R s m args below meth c H locs cells slots Q (F0 m pc ls (v :: .ref a :: rest)) :=
  g_set (Q := fun _ => W p l e R s m args below meth c H locs cells slots Q (F0 m pc ls (v :: .ref a :: rest))) hI hf (fun _ k0 hP hD hk1 k9 => va_put hexec hb hts hin ty0 hty hnm hown hI.1 hP hD hI.2.1 k0 hk1 hc k hk hlink hsame hfin hd hn hfit hl hdg (fun H1 locs1 hP1 hD1 hS1 => kk _ H1 locs1 rfl (k9 H1 locs1 hP1 hD1 hS1)))
theorem g_putN (hexec : p.tables.exec = Jvm.exec) (hb : c.code = cc) {own ref C host : String} {T : u_T} {N ci index : Nat} {Ts : List Cond} (hts : ∀ w ∈ Ts, w.before args s = true) (hin : ∀ w ∈ u_ws C T N, w ∈ Ts) (ty0 : Nat → FieldType) (hty : ∀ k, k < N → parseFieldDescriptor (T k).2.2.1 = some (ty0 k)) (hnm : ∀ a, a < N → ∀ b, b < N → a ≠ b → (T a).2.1 ≠ (T b).2.1) (hown : s.vm.findClass own = some m.cls) (hI : gI D cy de A s f H locs) {fs : List Value} (hf : f a = some (.inr (ci, fs))) (hc : vwCl[ci]? = some (C, T, N)) (k : Nat) (hk : k < N) (hlink : (Cond.fieldLinkNest own index ref (T k).2.1 (T k).2.2.1 host).before args s = true) (hsame : ∀ x, s.fieldFound? (T k).1 (T k).2.1 (T k).2.2.1 = some x → s.fieldFound? ref (T k).2.1 (T k).2.2.1 = some x) (hfin : (T k).2.2.2 = false) {ty : FieldType} {v : Value} (hd : parseFieldDescriptor (T k).2.2.1 = some ty) (hn : narrow ty v = v) (hfit : fits ty v = true) (hl : k < fs.length) (hdg : decode cc pc = .ok (.putfield index, 3))
    (kk : ∀ (f1 : gFm) (H1 : Heap) (locs1 : List Loc), f1 = va_up f a (some (.inr (ci, fs.set k v))) → gI D cy de A s f1 H1 locs1 → W p l e R s m args below meth c H1 locs1 cells slots Q (F0 m (pc + 3) ls rest)) : W p l e R s m args below meth c H locs cells slots Q (F0 m pc ls (v :: .ref a :: rest)) :=
  g_set (Q := fun _ => W p l e R s m args below meth c H locs cells slots Q (F0 m pc ls (v :: .ref a :: rest))) hI hf (fun _ k0 hP hD hk1 k9 => va_putN hexec hb hts hin ty0 hty hnm hown hI.1 hP hD hI.2.1 k0 hk1 hc k hk hlink hsame hfin hd hn hfit hl hdg (fun H1 locs1 hP1 hD1 hS1 => kk _ H1 locs1 rfl (k9 H1 locs1 hP1 hD1 hS1)))
theorem g_putF (hexec : p.tables.exec = Jvm.exec) (hb : c.code = cc) {own ref C : String} {T : u_T} {N ci index : Nat} {Ts : List Cond} (hts : ∀ w ∈ Ts, w.before args s = true) (hin : ∀ w ∈ u_ws C T N, w ∈ Ts) (ty0 : Nat → FieldType) (hty : ∀ k, k < N → parseFieldDescriptor (T k).2.2.1 = some (ty0 k)) (hnm : ∀ a, a < N → ∀ b, b < N → a ≠ b → (T a).2.1 ≠ (T b).2.1) (hown : s.vm.findClass own = some m.cls) (hI : gI D cy de A s f H locs) {fs : List Value} (hf : f a = some (.inr (ci, fs))) (hc : vwCl[ci]? = some (C, T, N)) (k : Nat) (hk : k < N) (hlink : (Cond.fieldLink own index ref (T k).2.1 (T k).2.2.1).before args s = true) (hsame : ∀ x, s.fieldFound? (T k).1 (T k).2.1 (T k).2.2.1 = some x → s.fieldFound? ref (T k).2.1 (T k).2.2.1 = some x) (hfin : (T k).2.2.2 = true) (hin2 : meth.name = "<init>") (hdecl : (T k).1 = own) {ty : FieldType} {v : Value} (hd : parseFieldDescriptor (T k).2.2.1 = some ty) (hn : narrow ty v = v) (hfit : fits ty v = true) (hl : k < fs.length) (hdg : decode cc pc = .ok (.putfield index, 3))
    (kk : ∀ (f1 : gFm) (H1 : Heap) (locs1 : List Loc), f1 = va_up f a (some (.inr (ci, fs.set k v))) → gI D cy de A s f1 H1 locs1 → W p l e R s m args below meth c H1 locs1 cells slots Q (F0 m (pc + 3) ls rest)) : W p l e R s m args below meth c H locs cells slots Q (F0 m pc ls (v :: .ref a :: rest)) :=
  g_set (Q := fun _ => W p l e R s m args below meth c H locs cells slots Q (F0 m pc ls (v :: .ref a :: rest))) hI hf (fun _ k0 hP hD hk1 k9 => va_putF hexec hb hts hin ty0 hty hnm hown hI.1 hP hD hI.2.1 k0 hk1 hc k hk hlink hsame hfin hin2 hdecl hd hn hfit hl hdg (fun H1 locs1 hP1 hD1 hS1 => kk _ H1 locs1 rfl (k9 H1 locs1 hP1 hD1 hS1)))
theorem g_iald (hexec : p.tables.exec = Jvm.exec) (hb : c.code = cc) (hI : gI D cy de A s f H locs) {n : Nat} {x : Nat → Int32} (hf : f a = some (.inl (cy 0, n, .inl x))) {i : Int32} (hin : vp_in i n) (hdg : decode cc pc = .ok (.iaload, 1))
    (kk : W p l e R s m args below meth c H locs cells slots Q (F0 m (pc + 1) ls (.int (x i.toNatClampNeg) :: rest))) : W p l e R s m args below meth c H locs cells slots Q (F0 m pc ls (.int i :: .ref a :: rest)) :=
  va_iald hexec hb hI.1 (gI_P1 hI hf) 0 0 rfl rfl hin hdg kk
theorem g_zald (hexec : p.tables.exec = Jvm.exec) (hb : c.code = cc) (hI : gI D cy de A s f H locs) {n : Nat} {x : Nat → Int32} (hf : f a = some (.inl (cy 1, n, .inl x))) {i : Int32} (hin : vp_in i n) (hdg : decode cc pc = .ok (.baload, 1))
    (kk : W p l e R s m args below meth c H locs cells slots Q (F0 m (pc + 1) ls (.int (x i.toNatClampNeg) :: rest))) : W p l e R s m args below meth c H locs cells slots Q (F0 m pc ls (.int i :: .ref a :: rest)) :=
  va_zald hexec hb hI.1 (gI_P1 hI hf) 0 1 rfl rfl hin hdg kk
theorem g_lald (hexec : p.tables.exec = Jvm.exec) (hb : c.code = cc) (hI : gI D cy de A s f H locs) {n : Nat} {x : Nat → Int64} (hf : f a = some (.inl (cy 2, n, .inr (.inl x)))) {i : Int32} (hin : vp_in i n) (hdg : decode cc pc = .ok (.laload, 1))
    (kk : W p l e R s m args below meth c H locs cells slots Q (F0 m (pc + 1) ls (.long (x i.toNatClampNeg) :: rest))) : W p l e R s m args below meth c H locs cells slots Q (F0 m pc ls (.int i :: .ref a :: rest)) :=
  va_lald hexec hb hI.1 (gI_P1 hI hf) 0 2 rfl rfl hin hdg kk
theorem g_aald (hexec : p.tables.exec = Jvm.exec) (hb : c.code = cc) (hI : gI D cy de A s f H locs) {cA : ClassId} {C : String} {n : Nat} {x : Nat → Option Nat} (hf : f a = some (.inl (cA, n, .inr (.inr (.inr (.inr x)))))) (t0 : Nat) (ht : (gT cy)[t0]? = some (cA, .object C)) {i : Int32} (hin : vp_in i n) (hdg : decode cc pc = .ok (.aaload, 1))
    (kk : W p l e R s m args below meth c H locs cells slots Q (F0 m (pc + 1) ls (va_rf (x i.toNatClampNeg) :: rest))) : W p l e R s m args below meth c H locs cells slots Q (F0 m pc ls (.int i :: .ref a :: rest)) :=
  va_aldq hexec hb hI.1 (gI_P1 hI hf) 0 t0 rfl ht hin hdg kk
theorem g_alen (hexec : p.tables.exec = Jvm.exec) (hb : c.code = cc) (hI : gI D cy de A s f H locs) {cA : ClassId} {x : vp_A} (hf : f a = some (.inl (cA, x))) (t0 : Nat) {ty : FieldType} (ht : (gT cy)[t0]? = some (cA, ty)) {v : Int32} (hv : Int32.ofNat x.1 = v) (hdg : decode cc pc = .ok (.arraylength, 1))
    (kk : W p l e R s m args below meth c H locs cells slots Q (F0 m (pc + 1) ls (.int v :: rest))) : W p l e R s m args below meth c H locs cells slots Q (F0 m pc ls (.ref a :: rest)) :=
  va_alen hexec hb hI.1 (gI_P1 hI hf) 0 t0 rfl ht hv hdg kk
theorem g_iast (hexec : p.tables.exec = Jvm.exec) (hb : c.code = cc) (hI : gI D cy de A s f H locs) {n : Nat} {x : Nat → Int32} (hf : f a = some (.inl (cy 0, n, .inl x))) {i v : Int32} (hin : vp_in i n) (hdg : decode cc pc = .ok (.iastore, 1))
    (kk : ∀ (f1 : gFm) (H1 : Heap) (locs1 : List Loc), f1 = va_up f a (some (.inl (cy 0, n, .inl (upd x i.toNatClampNeg v)))) → gI D cy de A s f1 H1 locs1 → W p l e R s m args below meth c H1 locs1 cells slots Q (F0 m (pc + 1) ls rest)) : W p l e R s m args below meth c H locs cells slots Q (F0 m pc ls (.int v :: .int i :: .ref a :: rest)) :=
  g_set (Q := fun _ => W p l e R s m args below meth c H locs cells slots Q (F0 m pc ls (.int v :: .int i :: .ref a :: rest))) hI hf (fun _ k0 hP hD hk1 k9 => va_iast hexec hb hI.1 hP hD hI.2.1 k0 0 hk1 rfl hin hdg (fun H1 locs1 hP1 hD1 hS1 => kk _ H1 locs1 rfl (k9 H1 locs1 hP1 hD1 hS1)))
theorem g_zast (hexec : p.tables.exec = Jvm.exec) (hb : c.code = cc) (hI : gI D cy de A s f H locs) {n : Nat} {x : Nat → Int32} (hf : f a = some (.inl (cy 1, n, .inl x))) {i v : Int32} (hin : vp_in i n) (hdg : decode cc pc = .ok (.bastore, 1))
    (kk : ∀ (f1 : gFm) (H1 : Heap) (locs1 : List Loc), f1 = va_up f a (some (.inl (cy 1, n, .inl (upd x i.toNatClampNeg (vp_nar .boolean v))))) → gI D cy de A s f1 H1 locs1 → W p l e R s m args below meth c H1 locs1 cells slots Q (F0 m (pc + 1) ls rest)) : W p l e R s m args below meth c H locs cells slots Q (F0 m pc ls (.int v :: .int i :: .ref a :: rest)) :=
  g_set (Q := fun _ => W p l e R s m args below meth c H locs cells slots Q (F0 m pc ls (.int v :: .int i :: .ref a :: rest))) hI hf (fun _ k0 hP hD hk1 k9 => va_zast hexec hb hI.1 hP hD hI.2.1 k0 1 hk1 rfl hin hdg (fun H1 locs1 hP1 hD1 hS1 => kk _ H1 locs1 rfl (k9 H1 locs1 hP1 hD1 hS1)))
theorem g_last (hexec : p.tables.exec = Jvm.exec) (hb : c.code = cc) (hI : gI D cy de A s f H locs) {n : Nat} {x : Nat → Int64} (hf : f a = some (.inl (cy 2, n, .inr (.inl x)))) {i : Int32} {v : Int64} (hin : vp_in i n) (hdg : decode cc pc = .ok (.lastore, 1))
    (kk : ∀ (f1 : gFm) (H1 : Heap) (locs1 : List Loc), f1 = va_up f a (some (.inl (cy 2, n, .inr (.inl (vp_updL x i.toNatClampNeg v))))) → gI D cy de A s f1 H1 locs1 → W p l e R s m args below meth c H1 locs1 cells slots Q (F0 m (pc + 1) ls rest)) : W p l e R s m args below meth c H locs cells slots Q (F0 m pc ls (.long v :: .int i :: .ref a :: rest)) :=
  g_set (Q := fun _ => W p l e R s m args below meth c H locs cells slots Q (F0 m pc ls (.long v :: .int i :: .ref a :: rest))) hI hf (fun _ k0 hP hD hk1 k9 => va_last hexec hb hI.1 hP hD hI.2.1 k0 2 hk1 rfl hin hdg (fun H1 locs1 hP1 hD1 hS1 => kk _ H1 locs1 rfl (k9 H1 locs1 hP1 hD1 hS1)))
/-- a store into an array of references: what is stored is an object of the world, of a class that may lie there -/
theorem g_aast (hexec : p.tables.exec = Jvm.exec) (hb : c.code = cc) (hI : gI D cy de A s f H locs) {cA : ClassId} {C : String} {n : Nat} {x : Nat → Option Nat} (hf : f a = some (.inl (cA, n, .inr (.inr (.inr (.inr x)))))) (t0 : Nat) (ht : (gT cy)[t0]? = some (cA, .object C)) {v : Nat} (hr : va_Any C s H v) {i : Int32} (hin : vp_in i n) (hdg : decode cc pc = .ok (.aastore, 1))
    (kk : ∀ (f1 : gFm) (H1 : Heap) (locs1 : List Loc), f1 = va_up f a (some (.inl (cA, n, .inr (.inr (.inr (.inr (va_up x i.toNatClampNeg (some v)))))))) → gI D cy de A s f1 H1 locs1 → W p l e R s m args below meth c H1 locs1 cells slots Q (F0 m (pc + 1) ls rest)) : W p l e R s m args below meth c H locs cells slots Q (F0 m pc ls (.ref v :: .int i :: .ref a :: rest)) :=
  g_set (Q := fun _ => W p l e R s m args below meth c H locs cells slots Q (F0 m pc ls (.ref v :: .int i :: .ref a :: rest))) hI hf (fun _ k0 hP hD hk1 k9 => va_astqM hexec hb hI.1 hP hD hI.2.1 k0 t0 hk1 ht hr hin hdg (fun H1 locs1 hP1 hD1 hS1 => kk _ H1 locs1 rfl (k9 H1 locs1 hP1 hD1 hS1)))
theorem g_anyS (hI : gI D cy de A s f H locs) {v ci : Nat} {vs : List Value} {r : vw_C} (hv : f v = some (.inr (ci, vs))) (hc : vwCl[ci]? = some r) : va_Any r.1 s H v :=
  va_rAny (q0 := 0) hI.1 (gI_P1 hI hv) rfl hc (fun comp c0 h1 h2 => vb_asgS comp c0 h1 h2)
theorem g_anyC (hI : gI D cy de A s f H locs) {v ci : Nat} {vs : List Value} {r : vw_C} {E : String} (hv : f v = some (.inr (ci, vs))) (hc : vwCl[ci]? = some r) (hca : va_Nw (.castable r.1 E) s) : va_Any E s H v :=
  va_rAny (q0 := 0) hI.1 (gI_P1 hI hv) rfl hc (fun comp c0 h1 h2 => vb_asgC hca comp c0 h1 h2)
theorem g_new {c0 : Code} (hexec : p.tables.exec = Jvm.exec) (hb : c0.code = cc) {own C : String} {T : u_T} {N ci index : Nat} {Ts : List Cond} (hts : ∀ w ∈ Ts, w.before args s = true) (hin : ∀ w ∈ u_ws C T N, w ∈ Ts) (ty : Nat → FieldType) (hty : ∀ k, k < N → parseFieldDescriptor (T k).2.2.1 = some (ty k)) (hown : s.vm.findClass own = some m.cls) (hcl : (Cond.classLink own index C).before args s = true) (hinst : (Cond.instantiable C N).before args s = true) (hini : (Cond.initialized C).before args s = true)
    (hI : gI D cy de A s f H locs) (hc : vwCl[ci]? = some (C, T, N)) {fs : List Value} (hfs : ∀ j, j < N → defaultValue (ty j) = vp_V fs j) (hcells : cells + 1 ≤ R.cells) (hslots : slots + N ≤ R.slots) (hdg : decode cc pc = .ok (.new index, 3))
    (kk : ∀ (q : Nat) (f1 : gFm) (H1 : Heap), f q = none → f1 = va_up f q (some (.inr (ci, fs))) → gI D cy de A s f1 H1 locs → W p l e R s m args below meth c0 H1 locs (cells + 1) (slots + N) Q (F0 m (pc + 3) ls (.ref q :: rest))) : W p l e R s m args below meth c0 H locs cells slots Q (F0 m pc ls rest) := by
  obtain ⟨L, hL, hP, hD⟩ := gC_pl hI.2.2.2.2
  refine va_new hexec hb hts hin ty hty hown hcl hinst hini hI.1 hP hD hI.2.1 hI.2.2.1 hc hfs hcells hslots hdg (fun q H1 hP1 hD1 hS1 => ?_)
  obtain ⟨h1, h2⟩ := gC_push hL hP1 hD1
  exact kk q _ H1 h1 rfl ⟨hI.1, hS1, hI.2.2.1, hI.2.2.2.1, h2⟩
theorem va_RA_inj {U : State} {c1 c2 : ClassId} {ty : FieldType} (h1 : va_RA U c1 ty) (h2 : va_RA U c2 ty) : c1 = c2 := by
  cases ty with
  | object C =>
    obtain ⟨k1, d1, -, -, -, e1⟩ := h1
    obtain ⟨k2, d2, -, -, -, e2⟩ := h2
    exact Option.some.inj (e1.symm.trans e2)
  | _ => exact Option.some.inj (h1.symm.trans h2)
theorem g_newK {cA : ClassId} {ty : FieldType} (hI : gI D cy de A s f H locs) (hK1 : va_K D vwCl (gT cy ++ [(cA, ty)]) s) (t0 : Nat) {c1 : ClassId} (ht : (gT cy)[t0]? = some (c1, ty)) : cA = c1 := by
  have h1 := (hI.1.2 t0 _ ht).2
  have h2 := (hK1.2 (gT cy).length (cA, ty) (by simp)).2
  exact va_RA_inj h2 h1
theorem g_newi (hexec : p.tables.exec = Jvm.exec) (hb : c.code = cc) (harr : (Cond.arrayClass .int).before args s = true) (hI : gI D cy de A s f H locs) {n : Int32} {N' : Nat} (hn : ¬ n < 0) (hN : n.toNatClampNeg = N') (hbytes : N' * 4 ≤ 536870912) (hcells : cells + 1 ≤ R.cells) (hslots : slots + N' ≤ R.slots) (hdg : decode cc pc = .ok (.newarray .int, 2))
    (kk : ∀ (q : Nat) (f1 : gFm) (H1 : Heap), f q = none → f1 = va_up f q (some (.inl (cy 0, N', .inl (fun _ => 0)))) → gI D cy de A s f1 H1 locs → W p l e R s m args below meth c H1 locs (cells + 1) (slots + N') Q (F0 m (pc + 2) ls (.ref q :: rest))) : W p l e R s m args below meth c H locs cells slots Q (F0 m pc ls (.int n :: rest)) := by
  obtain ⟨L, hL, hP, hD⟩ := gC_pl hI.2.2.2.2
  refine va_newa (atype := .int) (ty := .int) (a0 := (N', .inl (fun _ => 0))) hexec hb harr rfl hI.1 hP hD hI.2.1 hI.2.2.1 (fun _ => rfl) hn hN hbytes hcells hslots hdg (fun q cA H1 hK1 hP1 hD1 hS1 => ?_)
  have e := g_newK hI hK1 0 rfl
  subst e
  obtain ⟨h1, h2⟩ := gC_push hL hP1 hD1
  exact kk q _ H1 h1 rfl ⟨hI.1, hS1, hI.2.2.1, hI.2.2.2.1, h2⟩
theorem g_newz (hexec : p.tables.exec = Jvm.exec) (hb : c.code = cc) (harr : (Cond.arrayClass .boolean).before args s = true) (hI : gI D cy de A s f H locs) {n : Int32} {N' : Nat} (hn : ¬ n < 0) (hN : n.toNatClampNeg = N') (hbytes : N' * 1 ≤ 536870912) (hcells : cells + 1 ≤ R.cells) (hslots : slots + N' ≤ R.slots) (hdg : decode cc pc = .ok (.newarray .boolean, 2))
    (kk : ∀ (q : Nat) (f1 : gFm) (H1 : Heap), f q = none → f1 = va_up f q (some (.inl (cy 1, N', .inl (fun _ => 0)))) → gI D cy de A s f1 H1 locs → W p l e R s m args below meth c H1 locs (cells + 1) (slots + N') Q (F0 m (pc + 2) ls (.ref q :: rest))) : W p l e R s m args below meth c H locs cells slots Q (F0 m pc ls (.int n :: rest)) := by
  obtain ⟨L, hL, hP, hD⟩ := gC_pl hI.2.2.2.2
  refine va_newa (atype := .boolean) (ty := .boolean) (a0 := (N', .inl (fun _ => 0))) hexec hb harr rfl hI.1 hP hD hI.2.1 hI.2.2.1 (fun _ => rfl) hn hN hbytes hcells hslots hdg (fun q cA H1 hK1 hP1 hD1 hS1 => ?_)
  have e := g_newK hI hK1 1 rfl
  subst e
  obtain ⟨h1, h2⟩ := gC_push hL hP1 hD1
  exact kk q _ H1 h1 rfl ⟨hI.1, hS1, hI.2.2.1, hI.2.2.2.1, h2⟩
theorem g_newl (hexec : p.tables.exec = Jvm.exec) (hb : c.code = cc) (harr : (Cond.arrayClass .long).before args s = true) (hI : gI D cy de A s f H locs) {n : Int32} {N' : Nat} (hn : ¬ n < 0) (hN : n.toNatClampNeg = N') (hbytes : N' * 8 ≤ 536870912) (hcells : cells + 1 ≤ R.cells) (hslots : slots + N' ≤ R.slots) (hdg : decode cc pc = .ok (.newarray .long, 2))
    (kk : ∀ (q : Nat) (f1 : gFm) (H1 : Heap), f q = none → f1 = va_up f q (some (.inl (cy 2, N', .inr (.inl (fun _ => 0))))) → gI D cy de A s f1 H1 locs → W p l e R s m args below meth c H1 locs (cells + 1) (slots + N') Q (F0 m (pc + 2) ls (.ref q :: rest))) : W p l e R s m args below meth c H locs cells slots Q (F0 m pc ls (.int n :: rest)) := by
  obtain ⟨L, hL, hP, hD⟩ := gC_pl hI.2.2.2.2
  refine va_newa (atype := .long) (ty := .long) (a0 := (N', .inr (.inl (fun _ => 0)))) hexec hb harr rfl hI.1 hP hD hI.2.1 hI.2.2.1 (fun _ => rfl) hn hN hbytes hcells hslots hdg (fun q cA H1 hK1 hP1 hD1 hS1 => ?_)
  have e := g_newK hI hK1 2 rfl
  subst e
  obtain ⟨h1, h2⟩ := gC_push hL hP1 hD1
  exact kk q _ H1 h1 rfl ⟨hI.1, hS1, hI.2.2.1, hI.2.2.2.1, h2⟩
theorem g_newq (hexec : p.tables.exec = Jvm.exec) (hb : c.code = cc) {own C : String} {index : Nat} (hown : s.vm.findClass own = some m.cls) (hclink : (Cond.classLink own index C).before args s = true) (hover : va_AO C s) (hI : gI D cy de A s f H locs) (t0 : Nat) {c1 : ClassId} (ht : (gT cy)[t0]? = some (c1, .object C)) {n : Int32} {N' : Nat} (hn : ¬ n < 0) (hN : n.toNatClampNeg = N') (hbytes : N' * 4 ≤ 536870912) (hcells : cells + 1 ≤ R.cells) (hslots : slots + N' ≤ R.slots) (hdg : decode cc pc = .ok (.anewarray index, 3))
    (kk : ∀ (q : Nat) (f1 : gFm) (H1 : Heap), f q = none → f1 = va_up f q (some (.inl (c1, N', .inr (.inr (.inr (.inr (fun _ => none))))))) → gI D cy de A s f1 H1 locs → W p l e R s m args below meth c H1 locs (cells + 1) (slots + N') Q (F0 m (pc + 3) ls (.ref q :: rest))) : W p l e R s m args below meth c H locs cells slots Q (F0 m pc ls (.int n :: rest)) := by
  obtain ⟨L, hL, hP, hD⟩ := gC_pl hI.2.2.2.2
  refine va_newq hexec hb hown hclink hover hI.1 hP hD hI.2.1 hI.2.2.1 hn hN hbytes hcells hslots hdg (fun q cA H1 hK1 hP1 hD1 hS1 => ?_)
  have e := g_newK hI hK1 t0 ht
  subst e
  obtain ⟨h1, h2⟩ := gC_push hL hP1 hD1
  exact kk q _ H1 h1 rfl ⟨hI.1, hS1, hI.2.2.1, hI.2.2.2.1, h2⟩
end GST
