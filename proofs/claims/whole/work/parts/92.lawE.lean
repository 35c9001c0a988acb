set_option maxHeartbeats 4000000 in
set_option maxRecDepth 100000 in
theorem lw_call {p : Program} {l : Launch} {e : Env} {s : State} {m : MethodId} {below : List Frame} {meth : Method} {c : Code} {H : Heap} {locs : List Loc} {cells slots : Nat} {Q : State → Prop} {D : va_G} {cy : Nat → ClassId} {de b L : Nat} {xs : Nat → Int32} {ls : Array Slot} {tg mm ou T : Nat} {ma : Nat → Nat} {x4 : Int32} (hl0 : l.stackTraces = false) (C0 : lwC p s m c b L xs x4) (hT : T < 520) (hc : cells + 20 ≤ 601024) (hs : slots + 300 ≤ 7293034) {f : gFm} (hW : lwW cy de ou tg mm ma T f) (hI : gI D cy de (lwA s) s f H locs) (hl : lv_has ls 7 [(0, .ref b), (1, .ref tg), (2, .ref mm), (3, .ref ou), (4, .int x4)])
    (kk : ∀ (f1 : gFm) (H1 : Heap) (locs1 : List Loc) (ls1 : Array Slot), lwW cy de ou tg mm ma (T + 1) f1 → gI D cy de (lwA s) s f1 H1 locs1 → lv_has ls1 7 [(0, .ref b), (1, .ref tg), (2, .ref mm), (3, .ref ou), (4, .int x4)] → W p l e room_1 s m #[Value.ref b] below meth c H1 locs1 (cells + 20) (slots + 300) Q (F0 m 1265 ls1 [])) : W p l e room_1 s m #[Value.ref b] below meth c H locs cells slots Q (F0 m 524 ls []) := by
  obtain ⟨hx, hb, hml, hown, hts, hX, hbl, v1, v2, v3, v4⟩ := C0
  obtain ⟨N, I, M, fG, fM, y, tk, ⟨e0, hR, hd, hS⟩, hM, hdM, rfl⟩ := hW
  subst e0
  have hbA : ¬ lwA s b := Nat.not_le.mpr hbl
  obtain ⟨p1, q1⟩ : ∃ z : Int32, xs (x4 + 1).toNatClampNeg = z := ⟨_, rfl⟩
  obtain ⟨p2, q2⟩ : ∃ z : Int32, xs (x4 + 2).toNatClampNeg = z := ⟨_, rfl⟩
  obtain ⟨p3, q3⟩ : ∃ z : Int32, xs (x4 + 3).toNatClampNeg = z := ⟨_, rfl⟩
  refine lv_aload_n hx hb dL_law_524 rfl (lv_at hl 1 rfl) ?_
  refine lv_aload_n hx hb dL_law_525 rfl (lv_at hl 0 rfl) ?_
  refine lv_iload hx hb dL_law_526 (lv_at hl 4 rfl) ?_
  refine lv_iconst (v := 1) hx hb dL_law_528 (by decide) ?_
  refine lv_iadd hx hb dL_law_529 ?_
  refine lw_ld hx hb hX hbl hbA hI.2.1 v1 q1 dL_law_530 ?_
  refine lv_aload_n hx hb dL_law_531 rfl (lv_at hl 0 rfl) ?_
  refine lv_iload hx hb dL_law_532 (lv_at hl 4 rfl) ?_
  refine lv_iconst (v := 2) hx hb dL_law_534 (by decide) ?_
  refine lv_iadd hx hb dL_law_535 ?_
  refine lw_ld hx hb hX hbl hbA hI.2.1 v2 q2 dL_law_536 ?_
  refine lv_aload_n hx hb dL_law_537 rfl (lv_at hl 0 rfl) ?_
  refine lv_iload hx hb dL_law_538 (lv_at hl 4 rfl) ?_
  refine lv_iconst (v := 3) hx hb dL_law_540 (by decide) ?_
  refine lv_iadd hx hb dL_law_541 ?_
  refine lw_ld hx hb hX hbl hbA hI.2.1 v3 q3 dL_law_542 ?_
  refine lv_aload_n hx hb dL_law_543 rfl (lv_at hl 3 rfl) ?_
  refine g_calli hI (vx_runSW (As := [.ref (N 0 0), .int p1, .int p2, .int p3, .ref ou]) (rest := []) ⟨hx, hb, hml, hown, hts⟩ (gMi_frame (d_call l hl0 D cy de fG ou y N I p1 p2 p3 hR hd hS hT) hdM H.size) (vx_cwSW 5 hts gL_law_L_call rfl rfl rfl (by decide +kernel) ⟨Nat.le_of_ble_eq_true rfl, Nat.le_of_ble_eq_true rfl⟩) (g_preS hI) rfl rfl hl.1 rfl (lv_room (Nat.le_of_ble_eq_true rfl)) dL_law_544 ⟨by show cells + 5 ≤ 601024; omega, by show slots + 225 ≤ 7293034; omega⟩) (fun r1 f1 H locs hw hI => ?_)
  obtain ⟨a9, hA, e9, hdA⟩ := hw
  obtain ⟨N1, I1, fG1, y1, tk1, ⟨e1, hR1, hd1, e8⟩, hS1, h00, hZ⟩ := hA
  subst e8
  subst e9
  refine lv_istore (lv' := [(5, .int r1), (0, .ref b), (1, .ref (N 0 0)), (2, .ref mm), (3, .ref ou), (4, .int x4)]) hx hb dL_law_547 hl (by decide) rfl (fun ls hl => ?_)
  refine lv_aload_n hx hb dL_law_549 rfl (lv_at hl 3 rfl) ?_
  refine lv_aload_n hx hb dL_law_550 rfl (lv_at hl 1 rfl) ?_
  refine lv_iload hx hb dL_law_551 (lv_at hl 5 rfl) ?_
  refine lv_iconst (v := 1) hx hb dL_law_553 (by decide) ?_
  refine lv_iadd hx hb dL_law_554 ?_
  refine lw_ld hx hb hX hbl hbA hI.2.1 v1 q1 dL_law_555 ?_
  refine lv_aload_n hx hb dL_law_556 rfl (lv_at hl 1 rfl) ?_
  refine lv_iload hx hb dL_law_557 (lv_at hl 5 rfl) ?_
  refine lv_iconst (v := 2) hx hb dL_law_559 (by decide) ?_
  refine lv_iadd hx hb dL_law_560 ?_
  refine lw_ld hx hb hX hbl hbA hI.2.1 v2 q2 dL_law_561 ?_
  refine lv_aload_n hx hb dL_law_562 rfl (lv_at hl 1 rfl) ?_
  refine lv_iload hx hb dL_law_563 (lv_at hl 5 rfl) ?_
  refine lv_iconst (v := 3) hx hb dL_law_565 (by decide) ?_
  refine lv_iadd hx hb dL_law_566 ?_
  refine lw_ld hx hb hX hbl hbA hI.2.1 v3 q3 dL_law_567 ?_
  refine g_calli hI (va_runV (As := [.int p1, .int p2, .int p3]) (rest := []) ⟨hx, hb, hml, hown, hts⟩ (gMi_frameR (c_X5_call l D cy de fM mm ma M p1 p2 p3 (N 0 7) (N 0 8) (Sim_ok hS) hM) hdA H.size) (cwV 3 hts gL_law_X5_call rfl rfl rfl (by decide +kernel) ⟨Nat.le_of_ble_eq_true rfl, Nat.le_of_ble_eq_true rfl⟩) (g_preV hI (lw_mm hM hdA) rfl) rfl rfl hl.1 rfl (lv_room (Nat.le_of_ble_eq_true rfl)) dL_law_568 ⟨by show cells + 5 + 0 ≤ 601024; omega, by show slots + 225 + 0 ≤ 7293034; omega⟩) (fun r2 f2 H locs hw hI => ?_)
  obtain ⟨fM1, ⟨e2, hM1⟩, e9, hdM1⟩ := hw
  subst e9
  refine lv_istore (lv' := [(6, .int r2), (5, .int r1), (0, .ref b), (1, .ref (N 0 0)), (2, .ref mm), (3, .ref ou), (4, .int x4)]) hx hb dL_law_571 hl (by decide) rfl (fun ls hl => ?_)
  refine lv_aload_n hx hb dL_law_573 rfl (lv_at hl 4 rfl) ?_
  refine g_calli hI (va_runV (As := []) (rest := []) ⟨hx, hb, hml, hown, hts⟩ (gMi_frameR (c_X5_thrown l D cy de fM1 mm ma _ hM1) hdM1 H.size) (cwV 0 hts gL_law_X5_thrown rfl rfl rfl (by decide +kernel) ⟨Nat.le_of_ble_eq_true rfl, Nat.le_of_ble_eq_true rfl⟩) (g_preV hI (lw_mm hM1 hdM1) rfl) rfl rfl hl.1 rfl (lv_room (Nat.le_of_ble_eq_true rfl)) dL_law_574 ⟨by show cells + 5 + 0 + 0 ≤ 601024; omega, by show slots + 225 + 0 + 0 ≤ 7293034; omega⟩) (fun r3 f3 H locs hw hI => ?_)
  obtain ⟨fM2, ⟨e3, hM2⟩, e9, hdM2⟩ := hw
  subst e9
  have K : ∀ ls1 : Array Slot, lv_has ls1 7 [(6, .int r2), (5, .int r1), (0, .ref b), (1, .ref (N 0 0)), (2, .ref mm), (3, .ref ou), (4, .int x4)] → W p l e room_1 s m #[Value.ref b] below meth c H locs (cells + 5 + 0 + 0) (slots + 225 + 0 + 0) Q (F0 m 1265 ls1 []) := fun ls1 hl1 => W.widen (by omega) (by omega) (kk _ H locs ls1 ⟨N1, I1, _, fG1, fM2, y1, tk1, ⟨e1, hR1, hd1, hS1⟩, hM2, hdM2, rfl⟩ hI (lv_sub hl1 [2, 3, 4, 5, 6] rfl))
  refine lv_iload hx hb dL_law_577 (lv_at hl 1 rfl) ?_
  refine lv_icmp_eq (tgt := 584) hx hb dL_law_579 (by decide) (fun k1 => ?_) (fun k1 => absurd (e3.trans h00) k1)
  refine lv_iload hx hb dL_law_584 (lv_at hl 1 rfl) ?_
  refine lv_if_ne (tgt := 601) hx hb dL_law_586 (by decide) (fun k2 => ?_) (fun k2 => ?_)
  · refine lv_goto (tgt := 1265) hx hb dL_law_601 (by decide) ?_
    exact K ls hl
  · have hz := hZ k2
    rw [← e2] at hz
    refine lv_aload_n hx hb dL_law_589 rfl (lv_at hl 5 rfl) ?_
    refine lv_iconst (v := 0) hx hb dL_law_590 (by decide) ?_
    refine g_lald (n := 1) (x := y1) hx hb hI (gJ_l (gO_at hd1)) (by unfold vp_in; decide) dL_law_591 ?_
    refine lv_iload hx hb dL_law_592 (lv_at hl 0 rfl) ?_
    refine lv_i2l (v := Int32.toInt64 r2) hx hb dL_law_594 rfl ?_
    refine W.lcmp hx hb dL_law_595 ?_
    refine lv_if_eq (tgt := 601) hx hb dL_law_596 (by decide) (fun k3 => ?_) (fun k3 => absurd ((lg_cmp_eq _ _).mpr (hz)) k3)
    refine lv_goto (tgt := 1265) hx hb dL_law_601 (by decide) ?_
    exact K ls hl
set_option maxHeartbeats 4000000 in
set_option maxRecDepth 100000 in
theorem lw_end {p : Program} {l : Launch} {e : Env} {s : State} {m : MethodId} {below : List Frame} {meth : Method} {c : Code} {H : Heap} {locs : List Loc} {cells slots : Nat} {Q : State → Prop} {D : va_G} {cy : Nat → ClassId} {de b L : Nat} {xs : Nat → Int32} {ls : Array Slot} {tg mm ou T : Nat} {ma : Nat → Nat} {x4 : Int32} (hl0 : l.stackTraces = false) (C0 : lwC p s m c b L xs x4) (hT : T < 520) (hc : cells + 20 ≤ 601024) (hs : slots + 300 ≤ 7293034) {f : gFm} (hW : lwW cy de ou tg mm ma T f) (hI : gI D cy de (lwA s) s f H locs) (hl : lv_has ls 7 [(0, .ref b), (1, .ref tg), (2, .ref mm), (3, .ref ou), (4, .int x4)])
    (kk : ∀ (f1 : gFm) (H1 : Heap) (locs1 : List Loc) (ls1 : Array Slot), lwW cy de ou tg mm ma (T + 1) f1 → gI D cy de (lwA s) s f1 H1 locs1 → lv_has ls1 7 [(0, .ref b), (1, .ref tg), (2, .ref mm), (3, .ref ou), (4, .int x4)] → W p l e room_1 s m #[Value.ref b] below meth c H1 locs1 (cells + 20) (slots + 300) Q (F0 m 1265 ls1 [])) : W p l e room_1 s m #[Value.ref b] below meth c H locs cells slots Q (F0 m 604 ls []) := by
  obtain ⟨hx, hb, hml, hown, hts, hX, hbl, v1, v2, v3, v4⟩ := C0
  obtain ⟨N, I, M, fG, fM, y, tk, ⟨e0, hR, hd, hS⟩, hM, hdM, rfl⟩ := hW
  subst e0
  have hbA : ¬ lwA s b := Nat.not_le.mpr hbl
  obtain ⟨p1, q1⟩ : ∃ z : Int32, xs (x4 + 1).toNatClampNeg = z := ⟨_, rfl⟩
  obtain ⟨p2, q2⟩ : ∃ z : Int32, xs (x4 + 2).toNatClampNeg = z := ⟨_, rfl⟩
  refine lv_aload_n hx hb dL_law_604 rfl (lv_at hl 1 rfl) ?_
  refine lv_aload_n hx hb dL_law_605 rfl (lv_at hl 0 rfl) ?_
  refine lv_iload hx hb dL_law_606 (lv_at hl 4 rfl) ?_
  refine lv_iconst (v := 1) hx hb dL_law_608 (by decide) ?_
  refine lv_iadd hx hb dL_law_609 ?_
  refine lw_ld hx hb hX hbl hbA hI.2.1 v1 q1 dL_law_610 ?_
  refine lv_aload_n hx hb dL_law_611 rfl (lv_at hl 0 rfl) ?_
  refine lv_iload hx hb dL_law_612 (lv_at hl 4 rfl) ?_
  refine lv_iconst (v := 2) hx hb dL_law_614 (by decide) ?_
  refine lv_iadd hx hb dL_law_615 ?_
  refine lw_ld hx hb hX hbl hbA hI.2.1 v2 q2 dL_law_616 ?_
  refine lv_aload_n hx hb dL_law_617 rfl (lv_at hl 3 rfl) ?_
  refine g_calli hI (vx_runSW (As := [.ref (N 0 0), .int p1, .int p2, .ref ou]) (rest := []) ⟨hx, hb, hml, hown, hts⟩ (gMi_frame (d_end l hl0 D cy de fG ou y N I p1 p2 hR hd hS hT) hdM H.size) (vx_cwSW 4 hts gL_law_L_end rfl rfl rfl (by decide +kernel) ⟨Nat.le_of_ble_eq_true rfl, Nat.le_of_ble_eq_true rfl⟩) (g_preS hI) rfl rfl hl.1 rfl (lv_room (Nat.le_of_ble_eq_true rfl)) dL_law_618 ⟨by show cells + 3 ≤ 601024; omega, by show slots + 18 ≤ 7293034; omega⟩) (fun r1 f1 H locs hw hI => ?_)
  obtain ⟨a9, hA, e9, hdA⟩ := hw
  obtain ⟨N1, I1, fG1, y1, tk1, ⟨e1, hR1, hd1, e8⟩, hS1, h00, hZ⟩ := hA
  subst e8
  subst e9
  refine lv_istore (lv' := [(5, .int r1), (0, .ref b), (1, .ref (N 0 0)), (2, .ref mm), (3, .ref ou), (4, .int x4)]) hx hb dL_law_621 hl (by decide) rfl (fun ls hl => ?_)
  refine lv_aload_n hx hb dL_law_623 rfl (lv_at hl 3 rfl) ?_
  refine lv_aload_n hx hb dL_law_624 rfl (lv_at hl 1 rfl) ?_
  refine lv_iload hx hb dL_law_625 (lv_at hl 5 rfl) ?_
  refine lv_iconst (v := 1) hx hb dL_law_627 (by decide) ?_
  refine lv_iadd hx hb dL_law_628 ?_
  refine lw_ld hx hb hX hbl hbA hI.2.1 v1 q1 dL_law_629 ?_
  refine lv_aload_n hx hb dL_law_630 rfl (lv_at hl 1 rfl) ?_
  refine lv_iload hx hb dL_law_631 (lv_at hl 5 rfl) ?_
  refine lv_iconst (v := 2) hx hb dL_law_633 (by decide) ?_
  refine lv_iadd hx hb dL_law_634 ?_
  refine lw_ld hx hb hX hbl hbA hI.2.1 v2 q2 dL_law_635 ?_
  refine g_calli hI (va_runV (As := [.int p1, .int p2]) (rest := []) ⟨hx, hb, hml, hown, hts⟩ (gMi_frameR (c_X5_end l D cy de fM mm ma M p1 p2 (N 0 7) (N 0 8) (Sim_ok hS) hM) hdA H.size) (cwV 2 hts gL_law_X5_end rfl rfl rfl (by decide +kernel) ⟨Nat.le_of_ble_eq_true rfl, Nat.le_of_ble_eq_true rfl⟩) (g_preV hI (lw_mm hM hdA) rfl) rfl rfl hl.1 rfl (lv_room (Nat.le_of_ble_eq_true rfl)) dL_law_636 ⟨by show cells + 3 + 0 ≤ 601024; omega, by show slots + 18 + 0 ≤ 7293034; omega⟩) (fun r2 f2 H locs hw hI => ?_)
  obtain ⟨fM1, ⟨e2, hM1⟩, e9, hdM1⟩ := hw
  subst e9
  refine lv_istore (lv' := [(6, .int r2), (5, .int r1), (0, .ref b), (1, .ref (N 0 0)), (2, .ref mm), (3, .ref ou), (4, .int x4)]) hx hb dL_law_639 hl (by decide) rfl (fun ls hl => ?_)
  refine lv_aload_n hx hb dL_law_641 rfl (lv_at hl 4 rfl) ?_
  refine g_calli hI (va_runV (As := []) (rest := []) ⟨hx, hb, hml, hown, hts⟩ (gMi_frameR (c_X5_thrown l D cy de fM1 mm ma _ hM1) hdM1 H.size) (cwV 0 hts gL_law_X5_thrown rfl rfl rfl (by decide +kernel) ⟨Nat.le_of_ble_eq_true rfl, Nat.le_of_ble_eq_true rfl⟩) (g_preV hI (lw_mm hM1 hdM1) rfl) rfl rfl hl.1 rfl (lv_room (Nat.le_of_ble_eq_true rfl)) dL_law_642 ⟨by show cells + 3 + 0 + 0 ≤ 601024; omega, by show slots + 18 + 0 + 0 ≤ 7293034; omega⟩) (fun r3 f3 H locs hw hI => ?_)
  obtain ⟨fM2, ⟨e3, hM2⟩, e9, hdM2⟩ := hw
  subst e9
  have K : ∀ ls1 : Array Slot, lv_has ls1 7 [(6, .int r2), (5, .int r1), (0, .ref b), (1, .ref (N 0 0)), (2, .ref mm), (3, .ref ou), (4, .int x4)] → W p l e room_1 s m #[Value.ref b] below meth c H locs (cells + 3 + 0 + 0) (slots + 18 + 0 + 0) Q (F0 m 1265 ls1 []) := fun ls1 hl1 => W.widen (by omega) (by omega) (kk _ H locs ls1 ⟨N1, I1, _, fG1, fM2, y1, tk1, ⟨e1, hR1, hd1, hS1⟩, hM2, hdM2, rfl⟩ hI (lv_sub hl1 [2, 3, 4, 5, 6] rfl))
  refine lv_iload hx hb dL_law_645 (lv_at hl 1 rfl) ?_
  refine lv_icmp_eq (tgt := 652) hx hb dL_law_647 (by decide) (fun k1 => ?_) (fun k1 => absurd (e3.trans h00) k1)
  refine lv_iload hx hb dL_law_652 (lv_at hl 1 rfl) ?_
  refine lv_if_ne (tgt := 669) hx hb dL_law_654 (by decide) (fun k2 => ?_) (fun k2 => ?_)
  · refine lv_goto (tgt := 1265) hx hb dL_law_669 (by decide) ?_
    exact K ls hl
  · have hz := hZ k2
    rw [← e2] at hz
    refine lv_aload_n hx hb dL_law_657 rfl (lv_at hl 5 rfl) ?_
    refine lv_iconst (v := 0) hx hb dL_law_658 (by decide) ?_
    refine g_lald (n := 1) (x := y1) hx hb hI (gJ_l (gO_at hd1)) (by unfold vp_in; decide) dL_law_659 ?_
    refine lv_iload hx hb dL_law_660 (lv_at hl 0 rfl) ?_
    refine lv_i2l (v := Int32.toInt64 r2) hx hb dL_law_662 rfl ?_
    refine W.lcmp hx hb dL_law_663 ?_
    refine lv_if_eq (tgt := 669) hx hb dL_law_664 (by decide) (fun k3 => ?_) (fun k3 => absurd ((lg_cmp_eq _ _).mpr (hz)) k3)
    refine lv_goto (tgt := 1265) hx hb dL_law_669 (by decide) ?_
    exact K ls hl
set_option maxHeartbeats 4000000 in
set_option maxRecDepth 100000 in
theorem lw_dispute {p : Program} {l : Launch} {e : Env} {s : State} {m : MethodId} {below : List Frame} {meth : Method} {c : Code} {H : Heap} {locs : List Loc} {cells slots : Nat} {Q : State → Prop} {D : va_G} {cy : Nat → ClassId} {de b L : Nat} {xs : Nat → Int32} {ls : Array Slot} {tg mm ou T : Nat} {ma : Nat → Nat} {x4 : Int32} (hl0 : l.stackTraces = false) (C0 : lwC p s m c b L xs x4) (hT : T < 520) (hc : cells + 20 ≤ 601024) (hs : slots + 300 ≤ 7293034) {f : gFm} (hW : lwW cy de ou tg mm ma T f) (hI : gI D cy de (lwA s) s f H locs) (hl : lv_has ls 7 [(0, .ref b), (1, .ref tg), (2, .ref mm), (3, .ref ou), (4, .int x4)])
    (kk : ∀ (f1 : gFm) (H1 : Heap) (locs1 : List Loc) (ls1 : Array Slot), lwW cy de ou tg mm ma (T + 1) f1 → gI D cy de (lwA s) s f1 H1 locs1 → lv_has ls1 7 [(0, .ref b), (1, .ref tg), (2, .ref mm), (3, .ref ou), (4, .int x4)] → W p l e room_1 s m #[Value.ref b] below meth c H1 locs1 (cells + 20) (slots + 300) Q (F0 m 1265 ls1 [])) : W p l e room_1 s m #[Value.ref b] below meth c H locs cells slots Q (F0 m 672 ls []) := by
  obtain ⟨hx, hb, hml, hown, hts, hX, hbl, v1, v2, v3, v4⟩ := C0
  obtain ⟨N, I, M, fG, fM, y, tk, ⟨e0, hR, hd, hS⟩, hM, hdM, rfl⟩ := hW
  subst e0
  have hbA : ¬ lwA s b := Nat.not_le.mpr hbl
  obtain ⟨p1, q1⟩ : ∃ z : Int32, xs (x4 + 1).toNatClampNeg = z := ⟨_, rfl⟩
  refine lv_aload_n hx hb dL_law_672 rfl (lv_at hl 1 rfl) ?_
  refine lv_aload_n hx hb dL_law_673 rfl (lv_at hl 0 rfl) ?_
  refine lv_iload hx hb dL_law_674 (lv_at hl 4 rfl) ?_
  refine lv_iconst (v := 1) hx hb dL_law_676 (by decide) ?_
  refine lv_iadd hx hb dL_law_677 ?_
  refine lw_ld hx hb hX hbl hbA hI.2.1 v1 q1 dL_law_678 ?_
  refine lv_aload_n hx hb dL_law_679 rfl (lv_at hl 3 rfl) ?_
  refine g_calli hI (vx_runSW (As := [.ref (N 0 0), .int p1, .ref ou]) (rest := []) ⟨hx, hb, hml, hown, hts⟩ (gMi_frame (d_dispute l hl0 D cy de fG ou y N I p1 hR hd hS hT) hdM H.size) (vx_cwSW 3 hts gL_law_L_dispute rfl rfl rfl (by decide +kernel) ⟨Nat.le_of_ble_eq_true rfl, Nat.le_of_ble_eq_true rfl⟩) (g_preS hI) rfl rfl hl.1 rfl (lv_room (Nat.le_of_ble_eq_true rfl)) dL_law_680 ⟨by show cells + 2 ≤ 601024; omega, by show slots + 12 ≤ 7293034; omega⟩) (fun r1 f1 H locs hw hI => ?_)
  obtain ⟨a9, hA, e9, hdA⟩ := hw
  obtain ⟨N1, I1, fG1, y1, tk1, ⟨e1, hR1, hd1, e8⟩, hS1, h00, hZ⟩ := hA
  subst e8
  subst e9
  refine lv_istore (lv' := [(5, .int r1), (0, .ref b), (1, .ref (N 0 0)), (2, .ref mm), (3, .ref ou), (4, .int x4)]) hx hb dL_law_683 hl (by decide) rfl (fun ls hl => ?_)
  refine lv_aload_n hx hb dL_law_685 rfl (lv_at hl 3 rfl) ?_
  refine lv_aload_n hx hb dL_law_686 rfl (lv_at hl 1 rfl) ?_
  refine lv_iload hx hb dL_law_687 (lv_at hl 5 rfl) ?_
  refine lv_iconst (v := 1) hx hb dL_law_689 (by decide) ?_
  refine lv_iadd hx hb dL_law_690 ?_
  refine lw_ld hx hb hX hbl hbA hI.2.1 v1 q1 dL_law_691 ?_
  refine g_calli hI (va_runV (As := [.int p1]) (rest := []) ⟨hx, hb, hml, hown, hts⟩ (gMi_frameR (c_X5_dispute l D cy de fM mm ma M p1 (N 0 7) (N 0 8) (Sim_ok hS) hM) hdA H.size) (cwV 1 hts gL_law_X5_dispute rfl rfl rfl (by decide +kernel) ⟨Nat.le_of_ble_eq_true rfl, Nat.le_of_ble_eq_true rfl⟩) (g_preV hI (lw_mm hM hdA) rfl) rfl rfl hl.1 rfl (lv_room (Nat.le_of_ble_eq_true rfl)) dL_law_692 ⟨by show cells + 2 + 0 ≤ 601024; omega, by show slots + 12 + 0 ≤ 7293034; omega⟩) (fun r2 f2 H locs hw hI => ?_)
  obtain ⟨fM1, ⟨e2, hM1⟩, e9, hdM1⟩ := hw
  subst e9
  refine lv_istore (lv' := [(6, .int r2), (5, .int r1), (0, .ref b), (1, .ref (N 0 0)), (2, .ref mm), (3, .ref ou), (4, .int x4)]) hx hb dL_law_695 hl (by decide) rfl (fun ls hl => ?_)
  refine lv_aload_n hx hb dL_law_697 rfl (lv_at hl 4 rfl) ?_
  refine g_calli hI (va_runV (As := []) (rest := []) ⟨hx, hb, hml, hown, hts⟩ (gMi_frameR (c_X5_thrown l D cy de fM1 mm ma _ hM1) hdM1 H.size) (cwV 0 hts gL_law_X5_thrown rfl rfl rfl (by decide +kernel) ⟨Nat.le_of_ble_eq_true rfl, Nat.le_of_ble_eq_true rfl⟩) (g_preV hI (lw_mm hM1 hdM1) rfl) rfl rfl hl.1 rfl (lv_room (Nat.le_of_ble_eq_true rfl)) dL_law_698 ⟨by show cells + 2 + 0 + 0 ≤ 601024; omega, by show slots + 12 + 0 + 0 ≤ 7293034; omega⟩) (fun r3 f3 H locs hw hI => ?_)
  obtain ⟨fM2, ⟨e3, hM2⟩, e9, hdM2⟩ := hw
  subst e9
  have K : ∀ ls1 : Array Slot, lv_has ls1 7 [(6, .int r2), (5, .int r1), (0, .ref b), (1, .ref (N 0 0)), (2, .ref mm), (3, .ref ou), (4, .int x4)] → W p l e room_1 s m #[Value.ref b] below meth c H locs (cells + 2 + 0 + 0) (slots + 12 + 0 + 0) Q (F0 m 1265 ls1 []) := fun ls1 hl1 => W.widen (by omega) (by omega) (kk _ H locs ls1 ⟨N1, I1, _, fG1, fM2, y1, tk1, ⟨e1, hR1, hd1, hS1⟩, hM2, hdM2, rfl⟩ hI (lv_sub hl1 [2, 3, 4, 5, 6] rfl))
  refine lv_iload hx hb dL_law_701 (lv_at hl 1 rfl) ?_
  refine lv_icmp_eq (tgt := 708) hx hb dL_law_703 (by decide) (fun k1 => ?_) (fun k1 => absurd (e3.trans h00) k1)
  refine lv_iload hx hb dL_law_708 (lv_at hl 1 rfl) ?_
  refine lv_if_ne (tgt := 725) hx hb dL_law_710 (by decide) (fun k2 => ?_) (fun k2 => ?_)
  · refine lv_goto (tgt := 1265) hx hb dL_law_725 (by decide) ?_
    exact K ls hl
  · have hz := hZ k2
    rw [← e2] at hz
    refine lv_aload_n hx hb dL_law_713 rfl (lv_at hl 5 rfl) ?_
    refine lv_iconst (v := 0) hx hb dL_law_714 (by decide) ?_
    refine g_lald (n := 1) (x := y1) hx hb hI (gJ_l (gO_at hd1)) (by unfold vp_in; decide) dL_law_715 ?_
    refine lv_iload hx hb dL_law_716 (lv_at hl 0 rfl) ?_
    refine lv_i2l (v := Int32.toInt64 r2) hx hb dL_law_718 rfl ?_
    refine W.lcmp hx hb dL_law_719 ?_
    refine lv_if_eq (tgt := 725) hx hb dL_law_720 (by decide) (fun k3 => ?_) (fun k3 => absurd ((lg_cmp_eq _ _).mpr (hz)) k3)
    refine lv_goto (tgt := 1265) hx hb dL_law_725 (by decide) ?_
    exact K ls hl
set_option maxHeartbeats 4000000 in
set_option maxRecDepth 100000 in
theorem lw_pass {p : Program} {l : Launch} {e : Env} {s : State} {m : MethodId} {below : List Frame} {meth : Method} {c : Code} {H : Heap} {locs : List Loc} {cells slots : Nat} {Q : State → Prop} {D : va_G} {cy : Nat → ClassId} {de b L : Nat} {xs : Nat → Int32} {ls : Array Slot} {tg mm ou T : Nat} {ma : Nat → Nat} {x4 : Int32} (hl0 : l.stackTraces = false) (C0 : lwC p s m c b L xs x4) (hT : T < 520) (hc : cells + 20 ≤ 601024) (hs : slots + 300 ≤ 7293034) {f : gFm} (hW : lwW cy de ou tg mm ma T f) (hI : gI D cy de (lwA s) s f H locs) (hl : lv_has ls 7 [(0, .ref b), (1, .ref tg), (2, .ref mm), (3, .ref ou), (4, .int x4)])
    (kk : ∀ (f1 : gFm) (H1 : Heap) (locs1 : List Loc) (ls1 : Array Slot), lwW cy de ou tg mm ma (T + 1) f1 → gI D cy de (lwA s) s f1 H1 locs1 → lv_has ls1 7 [(0, .ref b), (1, .ref tg), (2, .ref mm), (3, .ref ou), (4, .int x4)] → W p l e room_1 s m #[Value.ref b] below meth c H1 locs1 (cells + 20) (slots + 300) Q (F0 m 1265 ls1 [])) : W p l e room_1 s m #[Value.ref b] below meth c H locs cells slots Q (F0 m 728 ls []) := by
  obtain ⟨hx, hb, hml, hown, hts, hX, hbl, v1, v2, v3, v4⟩ := C0
  obtain ⟨N, I, M, fG, fM, y, tk, ⟨e0, hR, hd, hS⟩, hM, hdM, rfl⟩ := hW
  subst e0
  have hbA : ¬ lwA s b := Nat.not_le.mpr hbl
  obtain ⟨p1, q1⟩ : ∃ z : Int32, xs (x4 + 1).toNatClampNeg = z := ⟨_, rfl⟩
  refine lv_aload_n hx hb dL_law_728 rfl (lv_at hl 1 rfl) ?_
  refine lv_aload_n hx hb dL_law_729 rfl (lv_at hl 0 rfl) ?_
  refine lv_iload hx hb dL_law_730 (lv_at hl 4 rfl) ?_
  refine lv_iconst (v := 1) hx hb dL_law_732 (by decide) ?_
  refine lv_iadd hx hb dL_law_733 ?_
  refine lw_ld hx hb hX hbl hbA hI.2.1 v1 q1 dL_law_734 ?_
  refine lv_aload_n hx hb dL_law_735 rfl (lv_at hl 3 rfl) ?_
  refine g_calli hI (vx_runSW (As := [.ref (N 0 0), .int p1, .ref ou]) (rest := []) ⟨hx, hb, hml, hown, hts⟩ (gMi_frame (d_pass l hl0 D cy de fG ou y N I p1 hR hd hS hT) hdM H.size) (vx_cwSW 3 hts gL_law_L_pass rfl rfl rfl (by decide +kernel) ⟨Nat.le_of_ble_eq_true rfl, Nat.le_of_ble_eq_true rfl⟩) (g_preS hI) rfl rfl hl.1 rfl (lv_room (Nat.le_of_ble_eq_true rfl)) dL_law_736 ⟨by show cells + 1 ≤ 601024; omega, by show slots + 6 ≤ 7293034; omega⟩) (fun r1 f1 H locs hw hI => ?_)
  obtain ⟨a9, hA, e9, hdA⟩ := hw
  obtain ⟨N1, I1, fG1, y1, tk1, ⟨e1, hR1, hd1, e8⟩, hS1, h00, hZ⟩ := hA
  subst e8
  subst e9
  refine lv_istore (lv' := [(5, .int r1), (0, .ref b), (1, .ref (N 0 0)), (2, .ref mm), (3, .ref ou), (4, .int x4)]) hx hb dL_law_739 hl (by decide) rfl (fun ls hl => ?_)
  refine lv_aload_n hx hb dL_law_741 rfl (lv_at hl 3 rfl) ?_
  refine lv_aload_n hx hb dL_law_742 rfl (lv_at hl 1 rfl) ?_
  refine lv_iload hx hb dL_law_743 (lv_at hl 5 rfl) ?_
  refine lv_iconst (v := 1) hx hb dL_law_745 (by decide) ?_
  refine lv_iadd hx hb dL_law_746 ?_
  refine lw_ld hx hb hX hbl hbA hI.2.1 v1 q1 dL_law_747 ?_
  refine g_calli hI (va_runV (As := [.int p1]) (rest := []) ⟨hx, hb, hml, hown, hts⟩ (gMi_frameR (c_X5_pass l D cy de fM mm ma M p1 (N 0 7) (N 0 8) (Sim_ok hS) hM) hdA H.size) (cwV 1 hts gL_law_X5_pass rfl rfl rfl (by decide +kernel) ⟨Nat.le_of_ble_eq_true rfl, Nat.le_of_ble_eq_true rfl⟩) (g_preV hI (lw_mm hM hdA) rfl) rfl rfl hl.1 rfl (lv_room (Nat.le_of_ble_eq_true rfl)) dL_law_748 ⟨by show cells + 1 + 0 ≤ 601024; omega, by show slots + 6 + 0 ≤ 7293034; omega⟩) (fun r2 f2 H locs hw hI => ?_)
  obtain ⟨fM1, ⟨e2, hM1⟩, e9, hdM1⟩ := hw
  subst e9
  refine lv_istore (lv' := [(6, .int r2), (5, .int r1), (0, .ref b), (1, .ref (N 0 0)), (2, .ref mm), (3, .ref ou), (4, .int x4)]) hx hb dL_law_751 hl (by decide) rfl (fun ls hl => ?_)
  refine lv_aload_n hx hb dL_law_753 rfl (lv_at hl 4 rfl) ?_
  refine g_calli hI (va_runV (As := []) (rest := []) ⟨hx, hb, hml, hown, hts⟩ (gMi_frameR (c_X5_thrown l D cy de fM1 mm ma _ hM1) hdM1 H.size) (cwV 0 hts gL_law_X5_thrown rfl rfl rfl (by decide +kernel) ⟨Nat.le_of_ble_eq_true rfl, Nat.le_of_ble_eq_true rfl⟩) (g_preV hI (lw_mm hM1 hdM1) rfl) rfl rfl hl.1 rfl (lv_room (Nat.le_of_ble_eq_true rfl)) dL_law_754 ⟨by show cells + 1 + 0 + 0 ≤ 601024; omega, by show slots + 6 + 0 + 0 ≤ 7293034; omega⟩) (fun r3 f3 H locs hw hI => ?_)
  obtain ⟨fM2, ⟨e3, hM2⟩, e9, hdM2⟩ := hw
  subst e9
  have K : ∀ ls1 : Array Slot, lv_has ls1 7 [(6, .int r2), (5, .int r1), (0, .ref b), (1, .ref (N 0 0)), (2, .ref mm), (3, .ref ou), (4, .int x4)] → W p l e room_1 s m #[Value.ref b] below meth c H locs (cells + 1 + 0 + 0) (slots + 6 + 0 + 0) Q (F0 m 1265 ls1 []) := fun ls1 hl1 => W.widen (by omega) (by omega) (kk _ H locs ls1 ⟨N1, I1, _, fG1, fM2, y1, tk1, ⟨e1, hR1, hd1, hS1⟩, hM2, hdM2, rfl⟩ hI (lv_sub hl1 [2, 3, 4, 5, 6] rfl))
  refine lv_iload hx hb dL_law_757 (lv_at hl 1 rfl) ?_
  refine lv_icmp_eq (tgt := 764) hx hb dL_law_759 (by decide) (fun k1 => ?_) (fun k1 => absurd (e3.trans h00) k1)
  refine lv_iload hx hb dL_law_764 (lv_at hl 1 rfl) ?_
  refine lv_if_ne (tgt := 781) hx hb dL_law_766 (by decide) (fun k2 => ?_) (fun k2 => ?_)
  · refine lv_goto (tgt := 1265) hx hb dL_law_781 (by decide) ?_
    exact K ls hl
  · have hz := hZ k2
    rw [← e2] at hz
    refine lv_aload_n hx hb dL_law_769 rfl (lv_at hl 5 rfl) ?_
    refine lv_iconst (v := 0) hx hb dL_law_770 (by decide) ?_
    refine g_lald (n := 1) (x := y1) hx hb hI (gJ_l (gO_at hd1)) (by unfold vp_in; decide) dL_law_771 ?_
    refine lv_iload hx hb dL_law_772 (lv_at hl 0 rfl) ?_
    refine lv_i2l (v := Int32.toInt64 r2) hx hb dL_law_774 rfl ?_
    refine W.lcmp hx hb dL_law_775 ?_
    refine lv_if_eq (tgt := 781) hx hb dL_law_776 (by decide) (fun k3 => ?_) (fun k3 => absurd ((lg_cmp_eq _ _).mpr (hz)) k3)
    refine lv_goto (tgt := 1265) hx hb dL_law_781 (by decide) ?_
    exact K ls hl
set_option maxHeartbeats 4000000 in
set_option maxRecDepth 100000 in
theorem lw_now {p : Program} {l : Launch} {e : Env} {s : State} {m : MethodId} {below : List Frame} {meth : Method} {c : Code} {H : Heap} {locs : List Loc} {cells slots : Nat} {Q : State → Prop} {D : va_G} {cy : Nat → ClassId} {de b L : Nat} {xs : Nat → Int32} {ls : Array Slot} {tg mm ou T : Nat} {ma : Nat → Nat} {x4 : Int32} (hl0 : l.stackTraces = false) (C0 : lwC p s m c b L xs x4) (hT : T < 520) (hc : cells + 20 ≤ 601024) (hs : slots + 300 ≤ 7293034) {f : gFm} (hW : lwW cy de ou tg mm ma T f) (hI : gI D cy de (lwA s) s f H locs) (hl : lv_has ls 7 [(0, .ref b), (1, .ref tg), (2, .ref mm), (3, .ref ou), (4, .int x4)])
    (kk : ∀ (f1 : gFm) (H1 : Heap) (locs1 : List Loc) (ls1 : Array Slot), lwW cy de ou tg mm ma (T + 1) f1 → gI D cy de (lwA s) s f1 H1 locs1 → lv_has ls1 7 [(0, .ref b), (1, .ref tg), (2, .ref mm), (3, .ref ou), (4, .int x4)] → W p l e room_1 s m #[Value.ref b] below meth c H1 locs1 (cells + 20) (slots + 300) Q (F0 m 1265 ls1 [])) : W p l e room_1 s m #[Value.ref b] below meth c H locs cells slots Q (F0 m 784 ls []) := by
  obtain ⟨hx, hb, hml, hown, hts, hX, hbl, v1, v2, v3, v4⟩ := C0
  obtain ⟨N, I, M, fG, fM, y, tk, ⟨e0, hR, hd, hS⟩, hM, hdM, rfl⟩ := hW
  subst e0
  refine lv_aload_n hx hb dL_law_784 rfl (lv_at hl 1 rfl) ?_
  refine g_calli hI (va_runV (As := []) (rest := []) ⟨hx, hb, hml, hown, hts⟩ (gMi_frame (gMi_frame (c_X4_now l D cy de fG N I hR) hd) hdM H.size) (cwV 0 hts gL_law_X4_now rfl rfl rfl (by decide +kernel) ⟨Nat.le_of_ble_eq_true rfl, Nat.le_of_ble_eq_true rfl⟩) (g_preV hI (gJ_l (gJ_l (gR_tg hR))) rfl) rfl rfl hl.1 rfl (lv_room (Nat.le_of_ble_eq_true rfl)) dL_law_785 ⟨by show cells + 0 ≤ 601024; omega, by show slots + 0 ≤ 7293034; omega⟩) (fun r1 f1 H locs hw hI => ?_)
  obtain ⟨g9, ⟨g8, ⟨e1, e8⟩, e7, -⟩, e9, -⟩ := hw
  rw [e8] at e7
  rw [e7] at e9
  rw [e9] at hI
  refine lv_aload_n hx hb dL_law_788 rfl (lv_at hl 2 rfl) ?_
  refine g_calli hI (va_runV (As := []) (rest := [.int r1]) ⟨hx, hb, hml, hown, hts⟩ (gMi_frameR (c_X5_now l D cy de fM mm ma M hM) hdM H.size) (cwV 0 hts gL_law_X5_now rfl rfl rfl (by decide +kernel) ⟨Nat.le_of_ble_eq_true rfl, Nat.le_of_ble_eq_true rfl⟩) (g_preV hI (lw_mm hM hdM) rfl) rfl rfl hl.1 rfl (lv_room (Nat.le_of_ble_eq_true rfl)) dL_law_789 ⟨by show cells + 0 + 0 ≤ 601024; omega, by show slots + 0 + 0 ≤ 7293034; omega⟩) (fun r2 f2 H locs hw hI => ?_)
  obtain ⟨fM1, ⟨e2, hM1⟩, e6, hdM1⟩ := hw
  subst e6
  have k0 : r1 = r2 := by
    rw [e1, e2, mwell_o _ (by decide)]
    exact hS.2.2.2.2.2.2.2.1.2.1.trans hS.2.2.2.2.2.2.2.1.2.2.symm
  refine lv_icmp_eq (tgt := 1265) hx hb dL_law_792 (by decide) (fun k1 => ?_) (fun k1 => absurd k0 k1)
  exact W.widen (by omega) (by omega) (kk _ H locs ls ⟨N, I, _, fG, fM1, y, tk, ⟨rfl, hR, hd, Sim_well 0 (Sim_T hS hT)⟩, hM1, hdM1, rfl⟩ hI hl)
set_option maxHeartbeats 4000000 in
set_option maxRecDepth 100000 in
theorem lw_calls {p : Program} {l : Launch} {e : Env} {s : State} {m : MethodId} {below : List Frame} {meth : Method} {c : Code} {H : Heap} {locs : List Loc} {cells slots : Nat} {Q : State → Prop} {D : va_G} {cy : Nat → ClassId} {de b L : Nat} {xs : Nat → Int32} {ls : Array Slot} {tg mm ou T : Nat} {ma : Nat → Nat} {x4 : Int32} (hl0 : l.stackTraces = false) (C0 : lwC p s m c b L xs x4) (hT : T < 520) (hc : cells + 20 ≤ 601024) (hs : slots + 300 ≤ 7293034) {f : gFm} (hW : lwW cy de ou tg mm ma T f) (hI : gI D cy de (lwA s) s f H locs) (hl : lv_has ls 7 [(0, .ref b), (1, .ref tg), (2, .ref mm), (3, .ref ou), (4, .int x4)])
    (kk : ∀ (f1 : gFm) (H1 : Heap) (locs1 : List Loc) (ls1 : Array Slot), lwW cy de ou tg mm ma (T + 1) f1 → gI D cy de (lwA s) s f1 H1 locs1 → lv_has ls1 7 [(0, .ref b), (1, .ref tg), (2, .ref mm), (3, .ref ou), (4, .int x4)] → W p l e room_1 s m #[Value.ref b] below meth c H1 locs1 (cells + 20) (slots + 300) Q (F0 m 1265 ls1 [])) : W p l e room_1 s m #[Value.ref b] below meth c H locs cells slots Q (F0 m 797 ls []) := by
  obtain ⟨hx, hb, hml, hown, hts, hX, hbl, v1, v2, v3, v4⟩ := C0
  obtain ⟨N, I, M, fG, fM, y, tk, ⟨e0, hR, hd, hS⟩, hM, hdM, rfl⟩ := hW
  subst e0
  refine lv_aload_n hx hb dL_law_797 rfl (lv_at hl 1 rfl) ?_
  refine g_calli hI (va_runV (As := []) (rest := []) ⟨hx, hb, hml, hown, hts⟩ (gMi_frame (gMi_frame (c_X4_calls l D cy de fG N I hR) hd) hdM H.size) (cwV 0 hts gL_law_X4_calls rfl rfl rfl (by decide +kernel) ⟨Nat.le_of_ble_eq_true rfl, Nat.le_of_ble_eq_true rfl⟩) (g_preV hI (gJ_l (gJ_l (gR_tg hR))) rfl) rfl rfl hl.1 rfl (lv_room (Nat.le_of_ble_eq_true rfl)) dL_law_798 ⟨by show cells + 0 ≤ 601024; omega, by show slots + 0 ≤ 7293034; omega⟩) (fun r1 f1 H locs hw hI => ?_)
  obtain ⟨g9, ⟨g8, ⟨e1, e8⟩, e7, -⟩, e9, -⟩ := hw
  rw [e8] at e7
  rw [e7] at e9
  rw [e9] at hI
  refine lv_aload_n hx hb dL_law_801 rfl (lv_at hl 2 rfl) ?_
  refine g_calli hI (va_runV (As := []) (rest := [.int r1]) ⟨hx, hb, hml, hown, hts⟩ (gMi_frameR (c_X5_calls l D cy de fM mm ma M hM) hdM H.size) (cwV 0 hts gL_law_X5_calls rfl rfl rfl (by decide +kernel) ⟨Nat.le_of_ble_eq_true rfl, Nat.le_of_ble_eq_true rfl⟩) (g_preV hI (lw_mm hM hdM) rfl) rfl rfl hl.1 rfl (lv_room (Nat.le_of_ble_eq_true rfl)) dL_law_802 ⟨by show cells + 0 + 0 ≤ 601024; omega, by show slots + 0 + 0 ≤ 7293034; omega⟩) (fun r2 f2 H locs hw hI => ?_)
  obtain ⟨fM1, ⟨e2, hM1⟩, e6, hdM1⟩ := hw
  subst e6
  have k0 : r1 = r2 := by
    rw [e1, e2, mwell_o _ (by decide)]
    exact hS.2.1.2.1.symm
  refine lv_icmp_eq (tgt := 1265) hx hb dL_law_805 (by decide) (fun k1 => ?_) (fun k1 => absurd k0 k1)
  exact W.widen (by omega) (by omega) (kk _ H locs ls ⟨N, I, _, fG, fM1, y, tk, ⟨rfl, hR, hd, Sim_well 0 (Sim_T hS hT)⟩, hM1, hdM1, rfl⟩ hI hl)
