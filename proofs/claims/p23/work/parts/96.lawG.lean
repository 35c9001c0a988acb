-- ===== the law's start: what the tables' words give =====
theorem lw_w {i : Nat} {w : Cond} (h : tables_1[i]? = some w) : w ∈ lw_tbl := List.mem_append_right _ (List.mem_of_getElem? h)
theorem lw_arrO {a : Array Value} {s : State} {C : String} (h : (Cond.arrayOver (.object C)).before a s = true) : ∃ c, ArrOfT s c (.object C) ∧ va_RA s c (.object C) := by
  obtain ⟨comp, c, k, h1, h2, h3, h4, h5⟩ := Cond.arrayOver_spec h
  exact ⟨c, fun n z => ⟨fun k h => (by cases h), k, h3, comp, h4⟩, k, comp, h3, h4, h1, h5⟩
def lwA (s : State) : Nat → Prop := fun q => s.heap.size ≤ q
section LWE
variable {a : Array Value} {s : State}
theorem lw_nf (hts : ∀ w ∈ lw_tbl, w.before a s = true) : ∀ q ∈ gNF, va_Nw (.fieldLinkNest q.1 q.2.1 q.2.2.1 q.2.2.2.1 q.2.2.2.2 "TollGateway") s := by
  unfold gNF
  exact List.forall_mem_cons.mpr ⟨va_Nw.of rfl (hts _ (lw_w (i := 65) (by decide +kernel))), List.forall_mem_cons.mpr ⟨va_Nw.of rfl (hts _ (lw_w (i := 67) (by decide +kernel))), List.forall_mem_cons.mpr ⟨va_Nw.of rfl (hts _ (lw_w (i := 68) (by decide +kernel))), List.forall_mem_cons.mpr ⟨va_Nw.of rfl (hts _ (lw_w (i := 70) (by decide +kernel))), List.forall_mem_cons.mpr ⟨va_Nw.of rfl (hts _ (lw_w (i := 71) (by decide +kernel))), List.forall_mem_cons.mpr ⟨va_Nw.of rfl (hts _ (lw_w (i := 73) (by decide +kernel))), List.forall_mem_cons.mpr ⟨va_Nw.of rfl (hts _ (lw_w (i := 74) (by decide +kernel))), List.forall_mem_cons.mpr ⟨va_Nw.of rfl (hts _ (lw_w (i := 90) (by decide +kernel))), List.forall_mem_cons.mpr ⟨va_Nw.of rfl (hts _ (lw_w (i := 92) (by decide +kernel))), List.forall_mem_cons.mpr ⟨va_Nw.of rfl (hts _ (lw_w (i := 363) (by decide +kernel))), List.forall_mem_cons.mpr ⟨va_Nw.of rfl (hts _ (lw_w (i := 365) (by decide +kernel))), List.forall_mem_cons.mpr ⟨va_Nw.of rfl (hts _ (lw_w (i := 366) (by decide +kernel))), List.forall_mem_cons.mpr ⟨va_Nw.of rfl (hts _ (lw_w (i := 368) (by decide +kernel))), List.forall_mem_cons.mpr ⟨va_Nw.of rfl (hts _ (lw_w (i := 370) (by decide +kernel))), List.forall_mem_cons.mpr ⟨va_Nw.of rfl (hts _ (lw_w (i := 372) (by decide +kernel))), List.forall_mem_cons.mpr ⟨va_Nw.of rfl (hts _ (lw_w (i := 374) (by decide +kernel))), List.forall_mem_cons.mpr ⟨va_Nw.of rfl (hts _ (lw_w (i := 376) (by decide +kernel))), List.forall_mem_cons.mpr ⟨va_Nw.of rfl (hts _ (lw_w (i := 378) (by decide +kernel))), List.forall_mem_cons.mpr ⟨va_Nw.of rfl (hts _ (lw_w (i := 379) (by decide +kernel))), List.forall_mem_cons.mpr ⟨va_Nw.of rfl (hts _ (lw_w (i := 528) (by decide +kernel))), List.forall_mem_cons.mpr ⟨va_Nw.of rfl (hts _ (lw_w (i := 530) (by decide +kernel))), List.forall_mem_cons.mpr ⟨va_Nw.of rfl (hts _ (lw_w (i := 532) (by decide +kernel))), List.forall_mem_cons.mpr ⟨va_Nw.of rfl (hts _ (lw_w (i := 534) (by decide +kernel))), fun _ h => absurd h List.not_mem_nil⟩⟩⟩⟩⟩⟩⟩⟩⟩⟩⟩⟩⟩⟩⟩⟩⟩⟩⟩⟩⟩⟩⟩
theorem lw_nm (hts : ∀ w ∈ lw_tbl, w.before a s = true) : ∀ q ∈ gNM, va_Nw (.methodLinkNest q.1 q.2.1 q.2.2 "TollGateway") s := by
  unfold gNM
  exact List.forall_mem_cons.mpr ⟨va_Nw.of rfl (hts _ (lw_w (i := 60) (by decide +kernel))), List.forall_mem_cons.mpr ⟨va_Nw.of rfl (hts _ (lw_w (i := 85) (by decide +kernel))), List.forall_mem_cons.mpr ⟨va_Nw.of rfl (hts _ (lw_w (i := 358) (by decide +kernel))), List.forall_mem_cons.mpr ⟨va_Nw.of rfl (hts _ (lw_w (i := 476) (by decide +kernel))), List.forall_mem_cons.mpr ⟨va_Nw.of rfl (hts _ (lw_w (i := 511) (by decide +kernel))), List.forall_mem_cons.mpr ⟨va_Nw.of rfl (hts _ (lw_w (i := 516) (by decide +kernel))), List.forall_mem_cons.mpr ⟨va_Nw.of rfl (hts _ (lw_w (i := 520) (by decide +kernel))), List.forall_mem_cons.mpr ⟨va_Nw.of rfl (hts _ (lw_w (i := 215) (by decide +kernel))), List.forall_mem_cons.mpr ⟨va_Nw.of rfl (hts _ (lw_w (i := 220) (by decide +kernel))), List.forall_mem_cons.mpr ⟨va_Nw.of rfl (hts _ (lw_w (i := 228) (by decide +kernel))), List.forall_mem_cons.mpr ⟨va_Nw.of rfl (hts _ (lw_w (i := 495) (by decide +kernel))), List.forall_mem_cons.mpr ⟨va_Nw.of rfl (hts _ (lw_w (i := 499) (by decide +kernel))), List.forall_mem_cons.mpr ⟨va_Nw.of rfl (hts _ (lw_w (i := 245) (by decide +kernel))), List.forall_mem_cons.mpr ⟨va_Nw.of rfl (hts _ (lw_w (i := 573) (by decide +kernel))), fun _ h => absurd h List.not_mem_nil⟩⟩⟩⟩⟩⟩⟩⟩⟩⟩⟩⟩⟩⟩
theorem lw_ca (hts : ∀ w ∈ lw_tbl, w.before a s = true) : ∀ q ∈ gCs, va_Nw (.castable q.1 q.2) s := by
  unfold gCs
  exact List.forall_mem_cons.mpr ⟨va_Nw.of rfl (hts _ (lw_w (i := 588) (by decide +kernel))), List.forall_mem_cons.mpr ⟨va_Nw.of rfl (hts _ (lw_w (i := 590) (by decide +kernel))), List.forall_mem_cons.mpr ⟨va_Nw.of rfl (hts _ (lw_w (i := 126) (by decide +kernel))), List.forall_mem_cons.mpr ⟨va_Nw.of rfl (hts _ (lw_w (i := 344) (by decide +kernel))), List.forall_mem_cons.mpr ⟨va_Nw.of rfl (hts _ (lw_w (i := 267) (by decide +kernel))), fun _ h => absurd h List.not_mem_nil⟩⟩⟩⟩⟩
theorem lw_ao (hts : ∀ w ∈ lw_tbl, w.before a s = true) : ∀ q ∈ gAO, va_AO q s := by
  unfold gAO
  exact List.forall_mem_cons.mpr ⟨va_AO.of (hts _ (lw_w (i := 30) (by decide +kernel))), List.forall_mem_cons.mpr ⟨va_AO.of (hts _ (lw_w (i := 32) (by decide +kernel))), List.forall_mem_cons.mpr ⟨va_AO.of (hts _ (lw_w (i := 445) (by decide +kernel))), fun _ h => absurd h List.not_mem_nil⟩⟩⟩
theorem lw_de (hts : ∀ w ∈ lw_tbl, w.before a s = true) : ∀ y ∈ gDe, gDc y s := by
  unfold gDe
  exact List.forall_mem_cons.mpr ⟨va_any rfl (hts _ (lw_w (i := 128) (by decide +kernel))), List.forall_mem_cons.mpr ⟨va_any rfl (hts _ (lw_w (i := 130) (by decide +kernel))), List.forall_mem_cons.mpr ⟨va_any rfl (hts _ (lw_w (i := 132) (by decide +kernel))), fun _ h => absurd h List.not_mem_nil⟩⟩⟩
abbrev lwF : List Cond := flatC (Cond.and given_1 narrow_1)
theorem lw_nc (hs : ∀ w ∈ lwF, w.before a s = true) : ∀ q ∈ gNc, va_Nc q.1 q.2 s := by
  unfold gNc
  exact List.forall_mem_cons.mpr ⟨va_Nc.of (hs (.not (.castable "java/lang/IllegalArgumentException" "java/lang/IndexOutOfBoundsException")) (by decide +kernel)), List.forall_mem_cons.mpr ⟨va_Nc.of (hs (.not (.castable "java/lang/IllegalStateException" "java/lang/IndexOutOfBoundsException")) (by decide +kernel)), List.forall_mem_cons.mpr ⟨va_Nc.of (hs (.not (.castable "java/lang/IllegalStateException" "java/lang/IllegalArgumentException")) (by decide +kernel)), fun _ h => absurd h List.not_mem_nil⟩⟩⟩
theorem lw_str {k : Nat} {tx : String} (h1 : (Cond.stringRef RX4 k tx).before a s = true) (h2 : (Cond.exactly (.string RX4 k) "java/lang/String").before a s = true) : ∃ z, vk_R RX4 k tx z s := by
  obtain ⟨z, _, _, _, hz, -⟩ := Cond.exactly_spec h2
  exact ⟨z, vk_R.of h1 hz⟩
theorem lw_st (hts : ∀ w ∈ lw_tbl, w.before a s = true) (hs : ∀ w ∈ lwF, w.before a s = true) : ∀ q ∈ gSt, ∃ z, vk_R RX4 q.1 q.2 z s := by
  unfold gSt
  exact List.forall_mem_cons.mpr ⟨lw_str (hts _ (lw_w (i := 320) (by decide +kernel))) (hs (.exactly (.string RX4 179) "java/lang/String") (by decide +kernel)), List.forall_mem_cons.mpr ⟨lw_str (hts _ (lw_w (i := 165) (by decide +kernel))) (hs (.exactly (.string RX4 195) "java/lang/String") (by decide +kernel)), List.forall_mem_cons.mpr ⟨lw_str (hts _ (lw_w (i := 333) (by decide +kernel))) (hs (.exactly (.string RX4 182) "java/lang/String") (by decide +kernel)), List.forall_mem_cons.mpr ⟨lw_str (hts _ (lw_w (i := 351) (by decide +kernel))) (hs (.exactly (.string RX4 68) "java/lang/String") (by decide +kernel)), List.forall_mem_cons.mpr ⟨lw_str (hts _ (lw_w (i := 274) (by decide +kernel))) (hs (.exactly (.string RX4 186) "java/lang/String") (by decide +kernel)), List.forall_mem_cons.mpr ⟨lw_str (hts _ (lw_w (i := 510) (by decide +kernel))) (hs (.exactly (.string RX4 106) "java/lang/String") (by decide +kernel)), List.forall_mem_cons.mpr ⟨lw_str (hts _ (lw_w (i := 289) (by decide +kernel))) (hs (.exactly (.string RX4 193) "java/lang/String") (by decide +kernel)), List.forall_mem_cons.mpr ⟨lw_str (hts _ (lw_w (i := 484) (by decide +kernel))) (hs (.exactly (.string RX4 134) "java/lang/String") (by decide +kernel)), List.forall_mem_cons.mpr ⟨lw_str (hts _ (lw_w (i := 492) (by decide +kernel))) (hs (.exactly (.string RX4 143) "java/lang/String") (by decide +kernel)), List.forall_mem_cons.mpr ⟨lw_str (hts _ (lw_w (i := 493) (by decide +kernel))) (hs (.exactly (.string RX4 149) "java/lang/String") (by decide +kernel)), List.forall_mem_cons.mpr ⟨lw_str (hts _ (lw_w (i := 494) (by decide +kernel))) (hs (.exactly (.string RX4 154) "java/lang/String") (by decide +kernel)), fun _ h => absurd h List.not_mem_nil⟩⟩⟩⟩⟩⟩⟩⟩⟩⟩⟩
theorem lw_env (hts : ∀ w ∈ lw_tbl, w.before a s = true) (hs : ∀ w ∈ lwF, w.before a s = true) : ∃ (de : Nat) (cy : Nat → ClassId), gE de (cy 9) (lwA s) s s.heap ∧ ∀ (k : Nat) (q : ClassId × FieldType), (gT cy)[k]? = some q → ArrOfT s q.1 q.2 ∧ va_RA s q.1 q.2 := by
  have hA : ∀ z : Nat, z < s.heap.size → ¬ lwA s z := fun z hz => Nat.not_le.mpr hz
  have hlen : (Term.length (.static "java/util/ArrayList" "DEFAULTCAPACITY_EMPTY_ELEMENTDATA" "[Ljava/lang/Object;")).eval a s none [] s = some (.int (Int32.ofNat 0)) := Cond.eq_int (hs (.eq (.length (.static "java/util/ArrayList" "DEFAULTCAPACITY_EMPTY_ELEMENTDATA" "[Ljava/lang/Object;")) (.int 0)) (by decide +kernel)) rfl
  obtain ⟨de, hde, hT⟩ := va_Tof (tm := .static "java/util/ArrayList" "DEFAULTCAPACITY_EMPTY_ELEMENTDATA" "[Ljava/lang/Object;") (ty := .object "java/lang/Object") (N := 0) (f := fun _ => .null) (A := lwA s) (by decide) (hs (.arrayOf (.static "java/util/ArrayList" "DEFAULTCAPACITY_EMPTY_ELEMENTDATA" "[Ljava/lang/Object;") (.object "java/lang/Object")) (by decide +kernel)) hlen (fun j hj => absurd hj (Nat.not_lt_zero j)) hA
  obtain ⟨mi, hmi⟩ := va_Mi.of (hs (.isRef (.mirror "[Ljava/lang/Object;")) (by decide +kernel))
  obtain ⟨c3, a3, r3⟩ := lw_arrO (C := "TollGateway$Plan") (hts _ (lw_w (i := 30) (by decide +kernel)))
  obtain ⟨c4, a4, r4⟩ := lw_arrO (C := "TollGateway$Route") (hts _ (lw_w (i := 32) (by decide +kernel)))
  obtain ⟨c5, a5, r5⟩ := lw_arrO (C := "java/lang/Object") (hts _ (lw_w (i := 445) (by decide +kernel)))
  refine ⟨de, fun k => match k with | 3 => c3 | 4 => c4 | 5 => c5 | _ => mi, ⟨lw_nf hts, lw_nm hts, lw_ca hts, lw_nc hs, lw_ao hts, lw_st hts hs, hmi, ⟨va_Dc.of (hts _ (lw_w (i := 595) (by decide +kernel))), lw_de hts⟩, ?_, ?_, ?_, hT⟩, ?_⟩
  · exact vx_Zqof (hts _ (lw_w (i := 151) (by decide +kernel))) (hts _ (lw_w (i := 7) (by decide +kernel))) (hs (.isRef (.static Bundle.tN "UNASSIGNED_STACK" Bundle.steD)) (by decide +kernel)) hA
  · exact vx_Zqof (hts _ (lw_w (i := 153) (by decide +kernel))) (hts _ (lw_w (i := 7) (by decide +kernel))) (hs (.isRef (.static Bundle.tN "SUPPRESSED_SENTINEL" Bundle.listD)) (by decide +kernel)) hA
  · exact va_Zref (hts _ (lw_w (i := 46) (by decide +kernel))) (hts _ (lw_w (i := 4) (by decide +kernel))) hde hA
  · intro k q hq
    match k, hq with
    | 0, hq => cases hq; exact ⟨a3, r3⟩
    | 1, hq => cases hq; exact ⟨a3, r3⟩
    | 2, hq => cases hq; exact ⟨a3, r3⟩
    | 3, hq => cases hq; exact ⟨a3, r3⟩
    | 4, hq => cases hq; exact ⟨a4, r4⟩
    | 5, hq => cases hq; exact ⟨a5, r5⟩
    | k + 6, hq => simp [gT] at hq
theorem lw_cls (hts : ∀ w ∈ lw_tbl, w.before a s = true) : ∃ D : va_G, ∀ (k : Nat) (q : vw_C), vwCl[k]? = some q → u_Kn s q.1 q.2.1 q.2.2 (D.1 k) (D.2 k) := by
  obtain ⟨c0, i0, h0⟩ := u_known (C := RJx4a65c) (T := TJx4a65c) (N := 3) (n := 3) hts inJx4a65c (hts _ (lw_w (i := 34) (by decide +kernel)))
  obtain ⟨c1, i1, h1⟩ := u_known (C := RX0) (T := TX0) (N := 7) (n := 7) hts inX0 (hts _ (lw_w (i := 218) (by decide +kernel)))
  obtain ⟨c2, i2, h2⟩ := u_known (C := RX1) (T := TX1) (N := 9) (n := 9) hts inX1 (hts _ (lw_w (i := 231) (by decide +kernel)))
  obtain ⟨c3, i3, h3⟩ := u_known (C := RX2) (T := TX2) (N := 4) (n := 4) hts inX2 (hts _ (lw_w (i := 59) (by decide +kernel)))
  obtain ⟨c4, i4, h4⟩ := u_known (C := RX3) (T := TX3) (N := 2) (n := 2) hts inX3 (hts _ (lw_w (i := 84) (by decide +kernel)))
  obtain ⟨c5, i5, h5⟩ := u_known (C := RX4) (T := TX4) (N := 6) (n := 6) hts inX4 (hts _ (lw_w (i := 22) (by decide +kernel)))
  refine ⟨(fun k => match k with | 0 => c0 | 1 => c1 | 2 => c2 | 3 => c3 | 4 => c4 | _ => c5, fun k => match k with | 0 => i0 | 1 => i1 | 2 => i2 | 3 => i3 | 4 => i4 | _ => i5), fun k q hq => ?_⟩
  match k, hq with
  | 0, hq => cases hq; exact h0
  | 1, hq => cases hq; exact h1
  | 2, hq => cases hq; exact h2
  | 3, hq => cases hq; exact h3
  | 4, hq => cases hq; exact h4
  | 5, hq => cases hq; exact h5
  | k + 6, hq => simp [vwCl] at hq
end LWE
