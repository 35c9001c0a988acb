theorem gE_cast {de mi : Nat} {A : Nat → Prop} {s : State} {H : Heap} (h : gE de mi A s H) {q : String × String} (hq : q ∈ gCs) : va_Nw (.castable q.1 q.2) s := h.2.2.1 q hq
/-- what an array holds are objects of classes that an array of Objects may hold -/
def gEl (f : gFm) (n : Nat) (y : Nat → Option Nat) : Prop := ∀ j, j < n → ∀ q, y j = some q → ∃ (ci : Nat) (fs : List Value) (r : vw_C), f q = some (.inr (ci, fs)) ∧ vwCl[ci]? = some r ∧ (r.1, "java/lang/Object") ∈ gCs
theorem gEl_up {f : gFm} {n : Nat} {y : Nat → Option Nat} {a : Nat} {x : Option va_E} (h : gEl f n y) (ha : f a = none) : gEl (va_up f a x) n y := fun j hj q hq => by
  obtain ⟨ci, fs, r, h1, h2, h3⟩ := h j hj q hq
  refine ⟨ci, fs, r, ?_, h2, h3⟩
  rw [va_up_ne _ _ (fun e => by rw [e, ha] at h1; cases h1)]
  exact h1
theorem g_gf_of {f : gFm} {a : Nat} {e : va_E} (h : f a = some e) : g_gf f a = e := by simp [g_gf, h]
section GCP
variable {p : Program} {l : Launch} {e : Env} {R : Room} {s : State} {m : MethodId} {args : Array Value} {below : List Frame} {meth : Method} {c : Code} {H : Heap} {locs : List Loc} {cells slots : Nat} {Q : State → Prop}
variable {cc : ByteArray} {pc : Nat} {ls : Array Slot} {rest : List Value} {D : va_G} {cy : Nat → ClassId} {de : Nat} {A : Nat → Prop} {f : gFm} {a a0 : Nat}
theorem g_copy (hexec : p.tables.exec = Jvm.exec) (hb : c.code = cc) (hml : c.maxLocals = ls.size) {own : String} {index : Nat} (hown : s.vm.findClass own = some m.cls) (hlink : (Cond.methodLink own index arraycopyName).before args s = true) (hnat : (Cond.native arraycopyName).before args s = true) (hstat : (Cond.static arraycopyName).before args s = true) (hini : (Cond.initialized "java/lang/System").before args s = true)
    (hI : gI D cy de A s f H locs) {n0 n1 : Nat} {y z : Nat → Option Nat} (h0 : f a0 = some (.inl (cy 5, n0, .inr (.inr (.inr (.inr y)))))) (h9 : f a = some (.inl (cy 5, n1, .inr (.inr (.inr (.inr z))))))
    {sp dp n : Int32} (h1 : ¬ sp < 0) (h2 : ¬ dp < 0) (h3 : ¬ n < 0) (h4 : sp.toNatClampNeg + n.toNatClampNeg ≤ n0) (h5 : dp.toNatClampNeg + n.toNatClampNeg ≤ n1) (hel : ∀ i : Nat, i < n.toNatClampNeg → ∀ q : Nat, y (sp.toNatClampNeg + i) = some q → va_Any "java/lang/Object" s H q)
    (hframes : 1 ≤ R.frames) (hlocals : (rest.map fun v => v.category).sum + (nativeFrameWords "java/lang/System" "arraycopy" 5 + 11) ≤ R.locals) (hdg : decode cc pc = .ok (.invokestatic index, 3))
    (kk : ∀ (f1 : gFm) (H1 : Heap) (locs1 : List Loc), f1 = va_up f a (some (.inl (cy 5, n1, .inr (.inr (.inr (.inr (va_cpy y z sp.toNatClampNeg dp.toNatClampNeg n.toNatClampNeg))))))) → gI D cy de A s f1 H1 locs1 → W p l e R s m args below meth c H1 locs1 cells slots Q (F0 m (pc + 3) ls rest)) : W p l e R s m args below meth c H locs cells slots Q (F0 m pc ls (.int n :: .int dp :: .ref a :: .int sp :: .ref a0 :: rest)) := by
  obtain ⟨L, hL, hP, hD⟩ := gC_pl hI.2.2.2.2
  have hm : a ∈ L := (hL a).mpr (by rw [h9]; exact Option.some_ne_none _)
  have hm0 : a0 ∈ L := (hL a0).mpr (by rw [h0]; exact Option.some_ne_none _)
  obtain ⟨k, hk⟩ := va_pl_get (X := []) (f := g_gf f) hm
  obtain ⟨k0, hk0⟩ := va_pl_get (X := []) (f := g_gf f) hm0
  have hk1 : (va_pl L (g_gf f))[k]? = some (a, .inl (cy 5, n1, .inr (.inr (.inr (.inr z))))) := by rw [g_gf_of h9] at hk; exact hk
  have hk01 : (va_pl L (g_gf f))[k0]? = some (a0, .inl (cy 5, n0, .inr (.inr (.inr (.inr y))))) := by rw [g_gf_of h0] at hk0; exact hk0
  refine va_copyM hexec hb hml hown hlink hnat hstat hini hI.1 hP hD hI.2.1 k0 k 5 5 hk01 hk1 rfl rfl h1 h2 h3 h4 h5 hel hframes hlocals hdg (fun H1 locs1 hP1 hD1 hS1 => kk _ H1 locs1 rfl ?_)
  have es : (va_pl L (g_gf f)).set k (a, .inl (cy 5, n1, .inr (.inr (.inr (.inr (va_cpy y z sp.toNatClampNeg dp.toNatClampNeg n.toNatClampNeg)))))) = va_pl L (va_up (g_gf f) a (.inl (cy 5, n1, .inr (.inr (.inr (.inr (va_cpy y z sp.toNatClampNeg dp.toNatClampNeg n.toNatClampNeg))))))) := va_pl_set (X := []) hD hm hk
  rw [es] at hP1 hD1
  exact ⟨hI.1, hS1, hI.2.2.1, hI.2.2.2.1, gC_set hL h9 hP1 hD1⟩
end GCP
theorem g_len1 {cap : Nat} (h2 : 2 ≤ cap) (hn : cap ≤ 4000) : nI cap + (if nI cap + 1 - nI cap < nI cap >>> ((1 : Int32) &&& 31) then nI cap >>> ((1 : Int32) &&& 31) else nI cap + 1 - nI cap) = nI (cap + cap / 2) := by
  have es : nI cap >>> ((1 : Int32) &&& 31) = nI (cap / 2) := by
    have k := pk_shrN (n := cap) (by omega) ((1 : Int32) &&& 31) 1 (by decide)
    rw [Nat.pow_one] at k
    exact k
  have ed : nI cap + 1 - nI cap = nI 1 := by
    rw [nI_1]
    have k := pk_sub (a := cap + 1) (b := cap) (by omega)
    rw [Nat.add_sub_cancel_left] at k
    exact k
  rw [es, ed]
  by_cases c : 1 < cap / 2
  · rw [if_pos (nI_lt c (by omega)), nI_add]
  · rw [if_neg (nI_nlt (by omega) (by decide)), nI_add]
    have : cap / 2 = 1 := by omega
    rw [this]

set_option maxHeartbeats 4000000 in
set_option maxRecDepth 100000 in
theorem c_J7_copyOf_6403c (l : Launch) (D : va_G) (cy : Nat → ClassId) (de : Nat) (f : gFm) (o : Nat) (cap : Nat) (y : Nat → Option Nat) (N1 : Nat) (ho : f o = some (.inl (cy 5, cap, .inr (.inr (.inr (.inr y)))))) (hc1 : cap ≤ N1) (hc2 : N1 ≤ 200) (hel : gEl f cap y) : gMq l yJ7_copyOf_6403c wsJ7_copyOf_6403c { frames := 1, cells := 1, slots := 200, locals := 80 } D cy de [.ref o, .int (nI N1), .ref (cy 9)] f (fun r9 f9 => ∃ q1, r9 = some q1 ∧ f q1 = none ∧ f9 = va_up f q1 (some (.inl (cy 5, N1, .inr (.inr (.inr (.inr (va_cpy y (fun _ => none) 0 0 cap)))))))) 1 200 := by
  refine fun sz => Met.ofW (cc := cJ7_copyOf_6403c) (maxL := 4) (ret := (some (.array (.object "java/lang/Object")))) (by decide) rfl ?_
  intro p e s m args below meth c s₁ B hml hv
  obtain ⟨rfl, hv⟩ := hv
  obtain ⟨rfl, hI⟩ := gP_I hv
  have hx := B.exec
  have hb := B.bytes
  have hr := B.returns
  have hts := atoms_spec (ws := wsJ7_copyOf_6403c) B.pre
  have hown : s.vm.findClass RJ7 = some m.cls := findClass_of_methodNamed B.named
  have hlocks := B.notSynchronized
  have hw0 := hts (.classLink RJ7 110 "[Ljava/lang/Object;") (by decide +kernel)
  have hw1 := hts (.classLink RJ7 2 "java/lang/Object") (by decide +kernel)
  have hw2 := hts (.methodLink RJ7 304 Lib.Math.min.name) (by decide +kernel)
  have hw3 := hts (.static Lib.Math.min.name) (by decide +kernel)
  have hw4 := hts (.initialized "java/lang/Math") (by decide +kernel)
  have hw5 := hts (.code Lib.Math.min.name Lib.Math.min.code 2 (some .int)) (by decide +kernel)
  have hw6 := hts (.methodLink RJ7 150 arraycopyName) (by decide +kernel)
  have hw7 := hts (.native arraycopyName) (by decide +kernel)
  have hw8 := hts (.static arraycopyName) (by decide +kernel)
  have hw9 := hts (.initialized "java/lang/System") (by decide +kernel)
  have hl := lv_entry ([.ref o, .int (nI N1), .ref (cy 9)]) (n := 4) (Nat.le_of_ble_eq_true rfl)
  rw [lg_entry_eq]
  generalize (lg_sl ([.ref o, .int (nI N1), .ref (cy 9)]) ++ List.replicate (4 - (lg_sl ([.ref o, .int (nI N1), .ref (cy 9)])).length) Slot.unset).toArray = ls at hl ⊢
  have hl : lv_has ls 4 [(0, .ref o), (1, .int (nI N1)), (2, .ref (cy 9))] := hl
  refine lv_aload_n hx hb dJ7_copyOf_6403c_0 rfl (lv_at hl 2 rfl) ?_
  refine va_ldcM hx hb hown hw0 (gE_M hI.2.2.2.1) dJ7_copyOf_6403c_1 ?_
  refine lv_acmp_ne (rx := some (cy 9)) (ry := some (cy 9)) (tgt := 13) hx hb dJ7_copyOf_6403c_3 (by decide) (fun z => absurd rfl z) (fun _ => ?_)
  refine lv_iload_n hx hb dJ7_copyOf_6403c_6 rfl (lv_at hl 1 rfl) ?_
  refine g_newq (N' := N1) hx hb hown hw1 (hI.2.2.2.1.2.2.2.2.1 "java/lang/Object" (List.mem_of_getElem? (i := 2) rfl)) hI 5 rfl (nI_pos (by omega)) (nI_clamp (by omega)) (by omega) (Nat.le_of_ble_eq_true rfl) (by show 0 + N1 ≤ 200; omega) dJ7_copyOf_6403c_7 (fun q_1 f_2 H hq_4 e_3 hI => ?_)
  have hn_5 : o ≠ q_1 := g_nn ho hq_4
  have e_3 : f_2 = va_up f q_1 (some (.inl (cy 5, N1, .inr (.inr (.inr (.inr (fun _ => none))))))) := e_3
  have hf_6 : f_2 q_1 = some (.inl (cy 5, N1, .inr (.inr (.inr (.inr (fun _ => none)))))) := by rw [e_3]; exact va_up_self _ _ _
  have hf_7 : f_2 o = some (.inl (cy 5, cap, .inr (.inr (.inr (.inr y))))) := by rw [e_3, va_up_ne _ _ (hn_5)]; exact ho
  refine lv_goto (tgt := 24) hx hb dJ7_copyOf_6403c_10 (by decide) ?_
  refine lv_astore_n (lv' := [(3, .ref q_1), (0, .ref o), (1, .int (nI N1)), (2, .ref (cy 9))]) hx hb dJ7_copyOf_6403c_24 rfl hl (by decide) rfl (fun ls hl => ?_)
  refine lv_aload_n hx hb dJ7_copyOf_6403c_25 rfl (lv_at hl 1 rfl) ?_
  refine lv_iconst (v := 0) hx hb dJ7_copyOf_6403c_26 (by decide) ?_
  refine lv_aload_n hx hb dJ7_copyOf_6403c_27 rfl (lv_at hl 0 rfl) ?_
  refine lv_iconst (v := 0) hx hb dJ7_copyOf_6403c_28 (by decide) ?_
  refine lv_aload_n hx hb dJ7_copyOf_6403c_29 rfl (lv_at hl 1 rfl) ?_
  refine g_alen (v := nI cap) hx hb hI hf_7 5 rfl rfl dJ7_copyOf_6403c_30 ?_
  refine lv_iload_n hx hb dJ7_copyOf_6403c_31 rfl (lv_at hl 2 rfl) ?_
  refine va_mmin hx hb (by rw [hml]; exact hl.1.symm) hown hw2 hw3 hw4 hw5 (Nat.le_of_ble_eq_true rfl) (Nat.le_of_ble_eq_true rfl) (Nat.le_of_ble_eq_true rfl) (by show 0 + N1 ≤ 200; omega) dJ7_copyOf_6403c_32 ?_
  have hmin : (if nI N1 < nI cap then nI N1 else nI cap) = nI cap := if_neg (nI_nlt hc1 (by omega))
  rw [hmin]
  have hcl : (nI cap).toNatClampNeg = cap := nI_clamp (by omega)
  refine g_copy hx hb (by rw [hml]; exact hl.1.symm) hown hw6 hw7 hw8 hw9 hI hf_7 hf_6 (by decide) (by decide) (nI_pos (by omega)) (by rw [hcl]; show 0 + cap ≤ cap; omega) (by rw [hcl]; show 0 + cap ≤ N1; omega) (fun i hi q hq => ?_) (Nat.le_of_ble_eq_true rfl) (Nat.le_of_ble_eq_true rfl) dJ7_copyOf_6403c_35 (fun f_8 H locs e_9 hI => ?_)
  · rw [hcl] at hi
    obtain ⟨ci, fs, r, k1, k2, k3⟩ := gEl_up (x := some (.inl (cy 5, N1, .inr (.inr (.inr (.inr (fun _ => none))))))) hel hq_4 i hi q (by rw [← hq]; congr 1; show i = 0 + i; omega)
    rw [← e_3] at k1
    exact g_anyC hI k1 k2 (gE_cast hI.2.2.2.1 k3)
  rw [hcl] at e_9
  have e_9 : f_8 = va_up f_2 q_1 (some (.inl (cy 5, N1, .inr (.inr (.inr (.inr (va_cpy y (fun _ => none) 0 0 cap))))))) := e_9
  have hf_10 : f_8 q_1 = some (.inl (cy 5, N1, .inr (.inr (.inr (.inr (va_cpy y (fun _ => none) 0 0 cap)))))) := by rw [e_9]; exact va_up_self _ _ _
  have hf_11 : f_8 o = some (.inl (cy 5, cap, .inr (.inr (.inr (.inr y))))) := by rw [e_9, va_up_ne _ _ (hn_5)]; exact hf_7
  refine lv_aload_n hx hb dJ7_copyOf_6403c_38 rfl (lv_at hl 0 rfl) ?_
  exact g_aret hx hb hr (Or.inr ⟨_, rfl⟩) hlocks hI ⟨q_1, rfl, hq_4, by rw [e_9, e_3, g_uu]⟩ (Nat.le_of_ble_eq_true rfl) (by show 0 + N1 ≤ 200; omega) dJ7_copyOf_6403c_39

set_option maxHeartbeats 4000000 in
set_option maxRecDepth 100000 in
theorem c_J7_copyOf_1904c (l : Launch) (D : va_G) (cy : Nat → ClassId) (de : Nat) (f : gFm) (o : Nat) (cap : Nat) (y : Nat → Option Nat) (N1 : Nat) (ho : f o = some (.inl (cy 5, cap, .inr (.inr (.inr (.inr y)))))) (hc1 : cap ≤ N1) (hc2 : N1 ≤ 200) (hel : gEl f cap y) : gMq l yJ7_copyOf_1904c wsJ7_copyOf_1904c { frames := 2, cells := 1, slots := 200, locals := 103 } D cy de [.ref o, .int (nI N1)] f (fun r9 f9 => ∃ q1, r9 = some q1 ∧ f q1 = none ∧ f9 = va_up f q1 (some (.inl (cy 5, N1, .inr (.inr (.inr (.inr (va_cpy y (fun _ => none) 0 0 cap)))))))) 1 200 := by
  refine fun sz => Met.ofW (cc := cJ7_copyOf_1904c) (maxL := 2) (ret := (some (.array (.object "java/lang/Object")))) (by decide) rfl ?_
  intro p e s m args below meth c s₁ B hml hv
  obtain ⟨rfl, hv⟩ := hv
  obtain ⟨rfl, hI⟩ := gP_I hv
  have hx := B.exec
  have hb := B.bytes
  have hr := B.returns
  have hts := atoms_spec (ws := wsJ7_copyOf_1904c) B.pre
  have hown : s.vm.findClass RJ7 = some m.cls := findClass_of_methodNamed B.named
  have hlocks := B.notSynchronized
  have hw0 := hts (.methodLink RJ7 86 ⟨"java/lang/Object", "getClass", "()Ljava/lang/Class;"⟩) (by decide +kernel)
  have hw1 := hts (.selects "[Ljava/lang/Object;" ⟨"java/lang/Object", "getClass", "()Ljava/lang/Class;"⟩ ⟨"java/lang/Object", "getClass", "()Ljava/lang/Class;"⟩) (by decide +kernel)
  have hw2 := hts (.instanceMethod ⟨"java/lang/Object", "getClass", "()Ljava/lang/Class;"⟩) (by decide +kernel)
  have hw3 := hts (.native ⟨"java/lang/Object", "getClass", "()Ljava/lang/Class;"⟩) (by decide +kernel)
  have hl := lv_entry ([.ref o, .int (nI N1)]) (n := 2) (Nat.le_of_ble_eq_true rfl)
  rw [lg_entry_eq]
  generalize (lg_sl ([.ref o, .int (nI N1)]) ++ List.replicate (2 - (lg_sl ([.ref o, .int (nI N1)])).length) Slot.unset).toArray = ls at hl ⊢
  have hl : lv_has ls 2 [(0, .ref o), (1, .int (nI N1))] := hl
  refine lv_aload_n hx hb dJ7_copyOf_1904c_0 rfl (lv_at hl 0 rfl) ?_
  refine lv_iload_n hx hb dJ7_copyOf_1904c_1 rfl (lv_at hl 1 rfl) ?_
  refine lv_aload_n hx hb dJ7_copyOf_1904c_2 rfl (lv_at hl 0 rfl) ?_
  refine va_getC hx hb (by rw [hml]; exact hl.1.symm) hown hw0 (va_Dc.use (gE_D hI.2.2.2.1)) hw1 hw2 hw3 (gE_M hI.2.2.2.1) ⟨_, (gI_P1 hI ho 0 _ rfl : va_at D vwCl _ _), rfl, va_nmO (C := "java/lang/Object") (hI.1.2 5 _ rfl).2 rfl⟩ (Nat.le_of_ble_eq_true rfl) (Nat.le_of_ble_eq_true rfl) dJ7_copyOf_1904c_3 ?_
  refine g_callq hI (va_runS (As := [.ref o, .int (nI N1), .ref (cy 9)]) (rest := []) ⟨hx, hb, hml, hown, hts⟩ (c_J7_copyOf_6403c l D cy de f o cap y N1 ho hc1 hc2 hel s.heap.size) (va_cwS 3 hts gJ7_copyOf_1904c_J7_copyOf_6403c rfl rfl rfl (by decide +kernel) ⟨Nat.le_of_ble_eq_true rfl, Nat.le_of_ble_eq_true rfl⟩) (g_preS hI) rfl rfl hl.1 rfl (lv_room (Nat.le_of_ble_eq_true rfl)) dJ7_copyOf_1904c_6 ⟨Nat.le_of_ble_eq_true rfl, Nat.le_of_ble_eq_true rfl⟩) (fun r_1 f_2 H locs hw_3 hI => ?_)
  obtain ⟨q_4, rfl, hq_5, e_6⟩ := hw_3
  have hn_7 : o ≠ q_4 := g_nn ho hq_5
  have e_6 : f_2 = va_up f q_4 (some (.inl (cy 5, N1, .inr (.inr (.inr (.inr (va_cpy y (fun _ => none) 0 0 cap))))))) := e_6
  have hf_8 : f_2 q_4 = some (.inl (cy 5, N1, .inr (.inr (.inr (.inr (va_cpy y (fun _ => none) 0 0 cap)))))) := by rw [e_6]; exact va_up_self _ _ _
  have hf_9 : f_2 o = some (.inl (cy 5, cap, .inr (.inr (.inr (.inr y))))) := by rw [e_6, va_up_ne _ _ (hn_7)]; exact ho
  exact g_aret hx hb hr (Or.inr ⟨_, rfl⟩) hlocks hI ⟨q_4, rfl, hq_5, by rw [e_6]⟩ (Nat.le_of_ble_eq_true rfl) (Nat.le_of_ble_eq_true rfl) dJ7_copyOf_1904c_9
