-- ===== the law's calls, one by one: from the case's start to the loop's end =====
def lwC (p : Program) (s : State) (m : MethodId) (c : Code) (b L : Nat) (xs : Nat → Int32) (x4 : Int32) : Prop := p.tables.exec = Jvm.exec ∧ c.code = cL_law ∧ c.maxLocals = 7 ∧ s.vm.findClass RL = some m.cls ∧ (∀ w ∈ wsL_law, w.before #[Value.ref b] s = true) ∧ va_X b L xs s s.heap ∧ b < s.heap.size ∧ vp_in (x4 + 1) L ∧ vp_in (x4 + 2) L ∧ vp_in (x4 + 3) L ∧ vp_in (x4 + 4) L
def lwA (s : State) : Nat → Prop := fun q => s.heap.size ≤ q
/-- the world of the law after T calls -/
def lwW (cy : Nat → ClassId) (de ou tg mm : Nat) (ma : Nat → Nat) (T : Nat) (f : gFm) : Prop := ∃ (N : gNm) (I M : gMd) (fG fM : gFm) (y : Nat → Int64) (tk : Nat), (N 0 0 = tg ∧ gR cy de N I fG ∧ gDj fG (gO cy ou y) ∧ Sim N I M tk T) ∧ Rm cy mm ma M fM ∧ gDj (gJ fG (gO cy ou y)) fM ∧ f = gJ (gJ fG (gO cy ou y)) fM
theorem lw_mm {cy : Nat → ClassId} {mm : Nat} {ma : Nat → Nat} {M : gMd} {a fM : gFm} (hM : Rm cy mm ma M fM) (hd : gDj a fM) : gJ a fM mm = some (.inr (6, mCell M ma)) := (gJ_r (gDj_r hd (by rw [hM.1]; exact Option.some_ne_none _))).trans hM.1
theorem lw_ld {p : Program} {l : Launch} {e : Env} {R : Room} {s : State} {m : MethodId} {args : Array Value} {below : List Frame} {meth : Method} {c : Code} {H0 H : Heap} {locs : List Loc} {cells slots : Nat} {Q : State → Prop} {cc : ByteArray} {pc : Nat} {ls : Array Slot} {rest : List Value} {A : Nat → Prop} (hexec : p.tables.exec = Jvm.exec) (hb : c.code = cc) {b L : Nat} {xs : Nat → Int32} (hX : va_X b L xs s H0) (hbl : b < H0.size) (hbA : ¬ A b) (hS : va_S A H0 H locs) {i v : Int32} (hin : vp_in i L) (hv : xs i.toNatClampNeg = v) (hdg : decode cc pc = .ok (.iaload, 1))
    (kk : W p l e R s m args below meth c H locs cells slots Q (F0 m (pc + 1) ls (.int v :: rest))) : W p l e R s m args below meth c H locs cells slots Q (F0 m pc ls (.int i :: .ref b :: rest)) := by
  subst hv
  exact va_sld hexec hb hX hbl hbA hS hin hdg kk
set_option maxHeartbeats 4000000 in
set_option maxRecDepth 100000 in
theorem lw_pay {p : Program} {l : Launch} {e : Env} {s : State} {m : MethodId} {below : List Frame} {meth : Method} {c : Code} {H : Heap} {locs : List Loc} {cells slots : Nat} {Q : State → Prop} {D : va_G} {cy : Nat → ClassId} {de b L : Nat} {xs : Nat → Int32} {ls : Array Slot} {tg mm ou T : Nat} {ma : Nat → Nat} {x4 : Int32} (hl0 : l.stackTraces = false) (C0 : lwC p s m c b L xs x4) (hT : T < 520) (hc : cells + 20 ≤ 601024) (hs : slots + 300 ≤ 7293034) {f : gFm} (hW : lwW cy de ou tg mm ma T f) (hI : gI D cy de (lwA s) s f H locs) (hl : lv_has ls 7 [(0, .ref b), (1, .ref tg), (2, .ref mm), (3, .ref ou), (4, .int x4)])
    (kk : ∀ (f1 : gFm) (H1 : Heap) (locs1 : List Loc) (ls1 : Array Slot), lwW cy de ou tg mm ma (T + 1) f1 → gI D cy de (lwA s) s f1 H1 locs1 → lv_has ls1 7 [(0, .ref b), (1, .ref tg), (2, .ref mm), (3, .ref ou), (4, .int x4)] → W p l e room_1 s m #[Value.ref b] below meth c H1 locs1 (cells + 20) (slots + 300) Q (F0 m 1265 ls1 [])) : W p l e room_1 s m #[Value.ref b] below meth c H locs cells slots Q (F0 m 456 ls []) := by
  obtain ⟨hx, hb, hml, hown, hts, hX, hbl, v1, v2, v3, v4⟩ := C0
  obtain ⟨N, I, M, fG, fM, y, tk, ⟨e0, hR, hd, hS⟩, hM, hdM, rfl⟩ := hW
  subst e0
  have hbA : ¬ lwA s b := Nat.not_le.mpr hbl
  obtain ⟨p1, q1⟩ : ∃ z : Int32, xs (x4 + 1).toNatClampNeg = z := ⟨_, rfl⟩
  obtain ⟨p2, q2⟩ : ∃ z : Int32, xs (x4 + 2).toNatClampNeg = z := ⟨_, rfl⟩
  refine lv_aload_n hx hb dL_law_456 rfl (lv_at hl 1 rfl) ?_
  refine lv_aload_n hx hb dL_law_457 rfl (lv_at hl 0 rfl) ?_
  refine lv_iload hx hb dL_law_458 (lv_at hl 4 rfl) ?_
  refine lv_iconst (v := 1) hx hb dL_law_460 (by decide) ?_
  refine lv_iadd hx hb dL_law_461 ?_
  refine lw_ld hx hb hX hbl hbA hI.2.1 v1 q1 dL_law_462 ?_
  refine lv_aload_n hx hb dL_law_463 rfl (lv_at hl 0 rfl) ?_
  refine lv_iload hx hb dL_law_464 (lv_at hl 4 rfl) ?_
  refine lv_iconst (v := 2) hx hb dL_law_466 (by decide) ?_
  refine lv_iadd hx hb dL_law_467 ?_
  refine lw_ld hx hb hX hbl hbA hI.2.1 v2 q2 dL_law_468 ?_
  refine lv_aload_n hx hb dL_law_469 rfl (lv_at hl 3 rfl) ?_
  refine g_calli hI (vx_runSW (As := [.ref (N 0 0), .int p1, .int p2, .ref ou]) (rest := []) ⟨hx, hb, hml, hown, hts⟩ (gMi_frame (d_pay l hl0 D cy de fG ou y N I p1 p2 hR hd hS hT) hdM H.size) (vx_cwSW 4 hts gL_law_L_pay rfl rfl rfl (by decide +kernel) ⟨Nat.le_of_ble_eq_true rfl, Nat.le_of_ble_eq_true rfl⟩) (g_preS hI) rfl rfl hl.1 rfl (lv_room (Nat.le_of_ble_eq_true rfl)) dL_law_470 ⟨by show cells + 2 ≤ 601024; omega, by show slots + 12 ≤ 7293034; omega⟩) (fun r1 f1 H locs hw hI => ?_)
  obtain ⟨a9, hA, e9, hdA⟩ := hw
  obtain ⟨N1, I1, fG1, y1, tk1, ⟨e1, hR1, hd1, e8⟩, hS1, h00, hZ⟩ := hA
  subst e8
  subst e9
  refine lv_istore (lv' := [(5, .int r1), (0, .ref b), (1, .ref (N 0 0)), (2, .ref mm), (3, .ref ou), (4, .int x4)]) hx hb dL_law_473 hl (by decide) rfl (fun ls hl => ?_)
  refine lv_aload_n hx hb dL_law_475 rfl (lv_at hl 3 rfl) ?_
  refine lv_aload_n hx hb dL_law_476 rfl (lv_at hl 1 rfl) ?_
  refine lv_iload hx hb dL_law_477 (lv_at hl 5 rfl) ?_
  refine lv_iconst (v := 1) hx hb dL_law_479 (by decide) ?_
  refine lv_iadd hx hb dL_law_480 ?_
  refine lw_ld hx hb hX hbl hbA hI.2.1 v1 q1 dL_law_481 ?_
  refine lv_aload_n hx hb dL_law_482 rfl (lv_at hl 1 rfl) ?_
  refine lv_iload hx hb dL_law_483 (lv_at hl 5 rfl) ?_
  refine lv_iconst (v := 2) hx hb dL_law_485 (by decide) ?_
  refine lv_iadd hx hb dL_law_486 ?_
  refine lw_ld hx hb hX hbl hbA hI.2.1 v2 q2 dL_law_487 ?_
  refine g_calli hI (va_runV (As := [.int p1, .int p2]) (rest := []) ⟨hx, hb, hml, hown, hts⟩ (gMi_frameR (c_X5_pay l D cy de fM mm ma M p1 p2 (N 0 7) (N 0 8) (Sim_ok hS) hM) hdA H.size) (cwV 2 hts gL_law_X5_pay rfl rfl rfl (by decide +kernel) ⟨Nat.le_of_ble_eq_true rfl, Nat.le_of_ble_eq_true rfl⟩) (g_preV hI (lw_mm hM hdA) rfl) rfl rfl hl.1 rfl (lv_room (Nat.le_of_ble_eq_true rfl)) dL_law_488 ⟨by show cells + 2 + 0 ≤ 601024; omega, by show slots + 12 + 0 ≤ 7293034; omega⟩) (fun r2 f2 H locs hw hI => ?_)
  obtain ⟨fM1, ⟨e2, hM1⟩, e9, hdM1⟩ := hw
  subst e9
  refine lv_istore (lv' := [(6, .int r2), (5, .int r1), (0, .ref b), (1, .ref (N 0 0)), (2, .ref mm), (3, .ref ou), (4, .int x4)]) hx hb dL_law_491 hl (by decide) rfl (fun ls hl => ?_)
  refine lv_aload_n hx hb dL_law_493 rfl (lv_at hl 4 rfl) ?_
  refine g_calli hI (va_runV (As := []) (rest := []) ⟨hx, hb, hml, hown, hts⟩ (gMi_frameR (c_X5_thrown l D cy de fM1 mm ma _ hM1) hdM1 H.size) (cwV 0 hts gL_law_X5_thrown rfl rfl rfl (by decide +kernel) ⟨Nat.le_of_ble_eq_true rfl, Nat.le_of_ble_eq_true rfl⟩) (g_preV hI (lw_mm hM1 hdM1) rfl) rfl rfl hl.1 rfl (lv_room (Nat.le_of_ble_eq_true rfl)) dL_law_494 ⟨by show cells + 2 + 0 + 0 ≤ 601024; omega, by show slots + 12 + 0 + 0 ≤ 7293034; omega⟩) (fun r3 f3 H locs hw hI => ?_)
  obtain ⟨fM2, ⟨e3, hM2⟩, e9, hdM2⟩ := hw
  subst e9
  have K : ∀ ls1 : Array Slot, lv_has ls1 7 [(6, .int r2), (5, .int r1), (0, .ref b), (1, .ref (N 0 0)), (2, .ref mm), (3, .ref ou), (4, .int x4)] → W p l e room_1 s m #[Value.ref b] below meth c H locs (cells + 2 + 0 + 0) (slots + 12 + 0 + 0) Q (F0 m 1265 ls1 []) := fun ls1 hl1 => W.widen (by omega) (by omega) (kk _ H locs ls1 ⟨N1, I1, _, fG1, fM2, y1, tk1, ⟨e1, hR1, hd1, hS1⟩, hM2, hdM2, rfl⟩ hI (lv_sub hl1 [2, 3, 4, 5, 6] rfl))
  refine lv_iload hx hb dL_law_497 (lv_at hl 1 rfl) ?_
  refine lv_icmp_eq (tgt := 504) hx hb dL_law_499 (by decide) (fun k1 => ?_) (fun k1 => absurd (e3.trans h00) k1)
  refine lv_iload hx hb dL_law_504 (lv_at hl 1 rfl) ?_
  refine lv_if_ne (tgt := 521) hx hb dL_law_506 (by decide) (fun k2 => ?_) (fun k2 => ?_)
  · refine lv_goto (tgt := 1265) hx hb dL_law_521 (by decide) ?_
    exact K ls hl
  · have hz := hZ k2
    rw [← e2] at hz
    refine lv_aload_n hx hb dL_law_509 rfl (lv_at hl 5 rfl) ?_
    refine lv_iconst (v := 0) hx hb dL_law_510 (by decide) ?_
    refine g_lald (n := 1) (x := y1) hx hb hI (gJ_l (gO_at hd1)) (by unfold vp_in; decide) dL_law_511 ?_
    refine lv_iload hx hb dL_law_512 (lv_at hl 0 rfl) ?_
    refine lv_i2l (v := Int32.toInt64 r2) hx hb dL_law_514 rfl ?_
    refine W.lcmp hx hb dL_law_515 ?_
    refine lv_if_eq (tgt := 521) hx hb dL_law_516 (by decide) (fun k3 => ?_) (fun k3 => absurd ((lg_cmp_eq _ _).mpr (hz)) k3)
    refine lv_goto (tgt := 1265) hx hb dL_law_521 (by decide) ?_
    exact K ls hl
