set_option maxHeartbeats 4000000 in
set_option maxRecDepth 100000 in
theorem lw_credit {p : Program} {l : Launch} {e : Env} {s : State} {m : MethodId} {below : List Frame} {meth : Method} {c : Code} {H : Heap} {locs : List Loc} {cells slots : Nat} {Q : State → Prop} {D : va_G} {cy : Nat → ClassId} {de b L : Nat} {xs : Nat → Int32} {ls : Array Slot} {tg mm ou T : Nat} {ma : Nat → Nat} {x4 : Int32} (hl0 : l.stackTraces = false) (C0 : lwC p s m c b L xs x4) (hT : T < 520) (hc : cells + 20 ≤ 601024) (hs : slots + 300 ≤ 7293034) {f : gFm} (hW : lwW cy de ou tg mm ma T f) (hI : gI D cy de (lwA s) s f H locs) (hl : lv_has ls 7 [(0, .ref b), (1, .ref tg), (2, .ref mm), (3, .ref ou), (4, .int x4)])
    (kk : ∀ (f1 : gFm) (H1 : Heap) (locs1 : List Loc) (ls1 : Array Slot), lwW cy de ou tg mm ma (T + 1) f1 → gI D cy de (lwA s) s f1 H1 locs1 → lv_has ls1 7 [(0, .ref b), (1, .ref tg), (2, .ref mm), (3, .ref ou), (4, .int x4)] → W p l e room_1 s m #[Value.ref b] below meth c H1 locs1 (cells + 20) (slots + 300) Q (F0 m 1265 ls1 [])) : W p l e room_1 s m #[Value.ref b] below meth c H locs cells slots Q (F0 m 810 ls []) := by
  obtain ⟨hx, hb, hml, hown, hts, hX, hbl, v1, v2, v3, v4⟩ := C0
  obtain ⟨N, I, M, fG, fM, y, tk, ⟨e0, hR, hd, hS⟩, hM, hdM, rfl⟩ := hW
  subst e0
  have hbA : ¬ lwA s b := Nat.not_le.mpr hbl
  obtain ⟨p1, q1⟩ : ∃ z : Int32, xs (x4 + 1).toNatClampNeg = z := ⟨_, rfl⟩
  refine lv_aload_n hx hb dL_law_810 rfl (lv_at hl 1 rfl) ?_
  refine lv_aload_n hx hb dL_law_811 rfl (lv_at hl 0 rfl) ?_
  refine lv_iload hx hb dL_law_812 (lv_at hl 4 rfl) ?_
  refine lv_iconst (v := 1) hx hb dL_law_814 (by decide) ?_
  refine lv_iadd hx hb dL_law_815 ?_
  refine lw_ld hx hb hX hbl hbA hI.2.1 v1 q1 dL_law_816 ?_
  refine lv_aload_n hx hb dL_law_817 rfl (lv_at hl 3 rfl) ?_
  refine g_calli hI (vx_runSW (As := [.ref (N 0 0), .int p1, .ref ou]) (rest := []) ⟨hx, hb, hml, hown, hts⟩ (gMi_frame (d_credit l hl0 D cy de fG ou y N I p1 hR hd hS hT) hdM H.size) (vx_cwSW 3 hts gL_law_L_credit rfl rfl rfl (by decide +kernel) ⟨Nat.le_of_ble_eq_true rfl, Nat.le_of_ble_eq_true rfl⟩) (g_preS hI) rfl rfl hl.1 rfl (lv_room (Nat.le_of_ble_eq_true rfl)) dL_law_818 ⟨by show cells + 1 ≤ 601024; omega, by show slots + 6 ≤ 7293034; omega⟩) (fun r1 f1 H locs hw hI => ?_)
  obtain ⟨a9, hA, e9, hdA⟩ := hw
  obtain ⟨N1, I1, fG1, y1, tk1, ⟨e1, hR1, hd1, e8⟩, hS1, h00, hZ⟩ := hA
  subst e8
  subst e9
  refine lv_istore (lv' := [(5, .int r1), (0, .ref b), (1, .ref (N 0 0)), (2, .ref mm), (3, .ref ou), (4, .int x4)]) hx hb dL_law_821 hl (by decide) rfl (fun ls hl => ?_)
  refine lv_aload_n hx hb dL_law_823 rfl (lv_at hl 3 rfl) ?_
  refine lv_aload_n hx hb dL_law_824 rfl (lv_at hl 1 rfl) ?_
  refine lv_iload hx hb dL_law_825 (lv_at hl 5 rfl) ?_
  refine lv_iconst (v := 1) hx hb dL_law_827 (by decide) ?_
  refine lv_iadd hx hb dL_law_828 ?_
  refine lw_ld hx hb hX hbl hbA hI.2.1 v1 q1 dL_law_829 ?_
  refine g_calli hI (va_runV (As := [.int p1]) (rest := []) ⟨hx, hb, hml, hown, hts⟩ (gMi_frameR (c_X5_credit l D cy de fM mm ma M p1 (N 0 7) (N 0 8) (Sim_ok hS) hM) hdA H.size) (cwV 1 hts gL_law_X5_credit rfl rfl rfl (by decide +kernel) ⟨Nat.le_of_ble_eq_true rfl, Nat.le_of_ble_eq_true rfl⟩) (g_preV hI (lw_mm hM hdA) rfl) rfl rfl hl.1 rfl (lv_room (Nat.le_of_ble_eq_true rfl)) dL_law_830 ⟨by show cells + 1 + 0 ≤ 601024; omega, by show slots + 6 + 0 ≤ 7293034; omega⟩) (fun r2 f2 H locs hw hI => ?_)
  obtain ⟨fM1, ⟨e2, hM1⟩, e9, hdM1⟩ := hw
  subst e9
  refine lv_istore (lv' := [(6, .int r2), (5, .int r1), (0, .ref b), (1, .ref (N 0 0)), (2, .ref mm), (3, .ref ou), (4, .int x4)]) hx hb dL_law_833 hl (by decide) rfl (fun ls hl => ?_)
  refine lv_aload_n hx hb dL_law_835 rfl (lv_at hl 4 rfl) ?_
  refine g_calli hI (va_runV (As := []) (rest := []) ⟨hx, hb, hml, hown, hts⟩ (gMi_frameR (c_X5_thrown l D cy de fM1 mm ma _ hM1) hdM1 H.size) (cwV 0 hts gL_law_X5_thrown rfl rfl rfl (by decide +kernel) ⟨Nat.le_of_ble_eq_true rfl, Nat.le_of_ble_eq_true rfl⟩) (g_preV hI (lw_mm hM1 hdM1) rfl) rfl rfl hl.1 rfl (lv_room (Nat.le_of_ble_eq_true rfl)) dL_law_836 ⟨by show cells + 1 + 0 + 0 ≤ 601024; omega, by show slots + 6 + 0 + 0 ≤ 7293034; omega⟩) (fun r3 f3 H locs hw hI => ?_)
  obtain ⟨fM2, ⟨e3, hM2⟩, e9, hdM2⟩ := hw
  subst e9
  have K : ∀ ls1 : Array Slot, lv_has ls1 7 [(6, .int r2), (5, .int r1), (0, .ref b), (1, .ref (N 0 0)), (2, .ref mm), (3, .ref ou), (4, .int x4)] → W p l e room_1 s m #[Value.ref b] below meth c H locs (cells + 1 + 0 + 0) (slots + 6 + 0 + 0) Q (F0 m 1265 ls1 []) := fun ls1 hl1 => W.widen (by omega) (by omega) (kk _ H locs ls1 ⟨N1, I1, _, fG1, fM2, y1, tk1, ⟨e1, hR1, hd1, hS1⟩, hM2, hdM2, rfl⟩ hI (lv_sub hl1 [2, 3, 4, 5, 6] rfl))
  refine lv_iload hx hb dL_law_839 (lv_at hl 1 rfl) ?_
  refine lv_icmp_eq (tgt := 846) hx hb dL_law_841 (by decide) (fun k1 => ?_) (fun k1 => absurd (e3.trans h00) k1)
  refine lv_iload hx hb dL_law_846 (lv_at hl 1 rfl) ?_
  refine lv_if_ne (tgt := 863) hx hb dL_law_848 (by decide) (fun k2 => ?_) (fun k2 => ?_)
  · refine lv_goto (tgt := 1265) hx hb dL_law_863 (by decide) ?_
    exact K ls hl
  · have hz := hZ k2
    rw [← e2] at hz
    refine lv_aload_n hx hb dL_law_851 rfl (lv_at hl 5 rfl) ?_
    refine lv_iconst (v := 0) hx hb dL_law_852 (by decide) ?_
    refine g_lald (n := 1) (x := y1) hx hb hI (gJ_l (gO_at hd1)) (by unfold vp_in; decide) dL_law_853 ?_
    refine lv_iload hx hb dL_law_854 (lv_at hl 0 rfl) ?_
    refine lv_i2l (v := Int32.toInt64 r2) hx hb dL_law_856 rfl ?_
    refine W.lcmp hx hb dL_law_857 ?_
    refine lv_if_eq (tgt := 863) hx hb dL_law_858 (by decide) (fun k3 => ?_) (fun k3 => absurd ((lg_cmp_eq _ _).mpr (hz)) k3)
    refine lv_goto (tgt := 1265) hx hb dL_law_863 (by decide) ?_
    exact K ls hl
set_option maxHeartbeats 4000000 in
set_option maxRecDepth 100000 in
theorem lw_debt {p : Program} {l : Launch} {e : Env} {s : State} {m : MethodId} {below : List Frame} {meth : Method} {c : Code} {H : Heap} {locs : List Loc} {cells slots : Nat} {Q : State → Prop} {D : va_G} {cy : Nat → ClassId} {de b L : Nat} {xs : Nat → Int32} {ls : Array Slot} {tg mm ou T : Nat} {ma : Nat → Nat} {x4 : Int32} (hl0 : l.stackTraces = false) (C0 : lwC p s m c b L xs x4) (hT : T < 520) (hc : cells + 20 ≤ 601024) (hs : slots + 300 ≤ 7293034) {f : gFm} (hW : lwW cy de ou tg mm ma T f) (hI : gI D cy de (lwA s) s f H locs) (hl : lv_has ls 7 [(0, .ref b), (1, .ref tg), (2, .ref mm), (3, .ref ou), (4, .int x4)])
    (kk : ∀ (f1 : gFm) (H1 : Heap) (locs1 : List Loc) (ls1 : Array Slot), lwW cy de ou tg mm ma (T + 1) f1 → gI D cy de (lwA s) s f1 H1 locs1 → lv_has ls1 7 [(0, .ref b), (1, .ref tg), (2, .ref mm), (3, .ref ou), (4, .int x4)] → W p l e room_1 s m #[Value.ref b] below meth c H1 locs1 (cells + 20) (slots + 300) Q (F0 m 1265 ls1 [])) : W p l e room_1 s m #[Value.ref b] below meth c H locs cells slots Q (F0 m 866 ls []) := by
  obtain ⟨hx, hb, hml, hown, hts, hX, hbl, v1, v2, v3, v4⟩ := C0
  obtain ⟨N, I, M, fG, fM, y, tk, ⟨e0, hR, hd, hS⟩, hM, hdM, rfl⟩ := hW
  subst e0
  have hbA : ¬ lwA s b := Nat.not_le.mpr hbl
  obtain ⟨p1, q1⟩ : ∃ z : Int32, xs (x4 + 1).toNatClampNeg = z := ⟨_, rfl⟩
  refine lv_aload_n hx hb dL_law_866 rfl (lv_at hl 1 rfl) ?_
  refine lv_aload_n hx hb dL_law_867 rfl (lv_at hl 0 rfl) ?_
  refine lv_iload hx hb dL_law_868 (lv_at hl 4 rfl) ?_
  refine lv_iconst (v := 1) hx hb dL_law_870 (by decide) ?_
  refine lv_iadd hx hb dL_law_871 ?_
  refine lw_ld hx hb hX hbl hbA hI.2.1 v1 q1 dL_law_872 ?_
  refine lv_aload_n hx hb dL_law_873 rfl (lv_at hl 3 rfl) ?_
  refine g_calli hI (vx_runSW (As := [.ref (N 0 0), .int p1, .ref ou]) (rest := []) ⟨hx, hb, hml, hown, hts⟩ (gMi_frame (d_debt l hl0 D cy de fG ou y N I p1 hR hd hS hT) hdM H.size) (vx_cwSW 3 hts gL_law_L_debt rfl rfl rfl (by decide +kernel) ⟨Nat.le_of_ble_eq_true rfl, Nat.le_of_ble_eq_true rfl⟩) (g_preS hI) rfl rfl hl.1 rfl (lv_room (Nat.le_of_ble_eq_true rfl)) dL_law_874 ⟨by show cells + 1 ≤ 601024; omega, by show slots + 6 ≤ 7293034; omega⟩) (fun r1 f1 H locs hw hI => ?_)
  obtain ⟨a9, hA, e9, hdA⟩ := hw
  obtain ⟨N1, I1, fG1, y1, tk1, ⟨e1, hR1, hd1, e8⟩, hS1, h00, hZ⟩ := hA
  subst e8
  subst e9
  refine lv_istore (lv' := [(5, .int r1), (0, .ref b), (1, .ref (N 0 0)), (2, .ref mm), (3, .ref ou), (4, .int x4)]) hx hb dL_law_877 hl (by decide) rfl (fun ls hl => ?_)
  refine lv_aload_n hx hb dL_law_879 rfl (lv_at hl 3 rfl) ?_
  refine lv_aload_n hx hb dL_law_880 rfl (lv_at hl 1 rfl) ?_
  refine lv_iload hx hb dL_law_881 (lv_at hl 5 rfl) ?_
  refine lv_iconst (v := 1) hx hb dL_law_883 (by decide) ?_
  refine lv_iadd hx hb dL_law_884 ?_
  refine lw_ld hx hb hX hbl hbA hI.2.1 v1 q1 dL_law_885 ?_
  refine g_calli hI (va_runV (As := [.int p1]) (rest := []) ⟨hx, hb, hml, hown, hts⟩ (gMi_frameR (c_X5_debt l D cy de fM mm ma M p1 (N 0 7) (N 0 8) (Sim_ok hS) hM) hdA H.size) (cwV 1 hts gL_law_X5_debt rfl rfl rfl (by decide +kernel) ⟨Nat.le_of_ble_eq_true rfl, Nat.le_of_ble_eq_true rfl⟩) (g_preV hI (lw_mm hM hdA) rfl) rfl rfl hl.1 rfl (lv_room (Nat.le_of_ble_eq_true rfl)) dL_law_886 ⟨by show cells + 1 + 0 ≤ 601024; omega, by show slots + 6 + 0 ≤ 7293034; omega⟩) (fun r2 f2 H locs hw hI => ?_)
  obtain ⟨fM1, ⟨e2, hM1⟩, e9, hdM1⟩ := hw
  subst e9
  refine lv_istore (lv' := [(6, .int r2), (5, .int r1), (0, .ref b), (1, .ref (N 0 0)), (2, .ref mm), (3, .ref ou), (4, .int x4)]) hx hb dL_law_889 hl (by decide) rfl (fun ls hl => ?_)
  refine lv_aload_n hx hb dL_law_891 rfl (lv_at hl 4 rfl) ?_
  refine g_calli hI (va_runV (As := []) (rest := []) ⟨hx, hb, hml, hown, hts⟩ (gMi_frameR (c_X5_thrown l D cy de fM1 mm ma _ hM1) hdM1 H.size) (cwV 0 hts gL_law_X5_thrown rfl rfl rfl (by decide +kernel) ⟨Nat.le_of_ble_eq_true rfl, Nat.le_of_ble_eq_true rfl⟩) (g_preV hI (lw_mm hM1 hdM1) rfl) rfl rfl hl.1 rfl (lv_room (Nat.le_of_ble_eq_true rfl)) dL_law_892 ⟨by show cells + 1 + 0 + 0 ≤ 601024; omega, by show slots + 6 + 0 + 0 ≤ 7293034; omega⟩) (fun r3 f3 H locs hw hI => ?_)
  obtain ⟨fM2, ⟨e3, hM2⟩, e9, hdM2⟩ := hw
  subst e9
  have K : ∀ ls1 : Array Slot, lv_has ls1 7 [(6, .int r2), (5, .int r1), (0, .ref b), (1, .ref (N 0 0)), (2, .ref mm), (3, .ref ou), (4, .int x4)] → W p l e room_1 s m #[Value.ref b] below meth c H locs (cells + 1 + 0 + 0) (slots + 6 + 0 + 0) Q (F0 m 1265 ls1 []) := fun ls1 hl1 => W.widen (by omega) (by omega) (kk _ H locs ls1 ⟨N1, I1, _, fG1, fM2, y1, tk1, ⟨e1, hR1, hd1, hS1⟩, hM2, hdM2, rfl⟩ hI (lv_sub hl1 [2, 3, 4, 5, 6] rfl))
  refine lv_iload hx hb dL_law_895 (lv_at hl 1 rfl) ?_
  refine lv_icmp_eq (tgt := 902) hx hb dL_law_897 (by decide) (fun k1 => ?_) (fun k1 => absurd (e3.trans h00) k1)
  refine lv_iload hx hb dL_law_902 (lv_at hl 1 rfl) ?_
  refine lv_if_ne (tgt := 919) hx hb dL_law_904 (by decide) (fun k2 => ?_) (fun k2 => ?_)
  · refine lv_goto (tgt := 1265) hx hb dL_law_919 (by decide) ?_
    exact K ls hl
  · have hz := hZ k2
    rw [← e2] at hz
    refine lv_aload_n hx hb dL_law_907 rfl (lv_at hl 5 rfl) ?_
    refine lv_iconst (v := 0) hx hb dL_law_908 (by decide) ?_
    refine g_lald (n := 1) (x := y1) hx hb hI (gJ_l (gO_at hd1)) (by unfold vp_in; decide) dL_law_909 ?_
    refine lv_iload hx hb dL_law_910 (lv_at hl 0 rfl) ?_
    refine lv_i2l (v := Int32.toInt64 r2) hx hb dL_law_912 rfl ?_
    refine W.lcmp hx hb dL_law_913 ?_
    refine lv_if_eq (tgt := 919) hx hb dL_law_914 (by decide) (fun k3 => ?_) (fun k3 => absurd ((lg_cmp_eq _ _).mpr (hz)) k3)
    refine lv_goto (tgt := 1265) hx hb dL_law_919 (by decide) ?_
    exact K ls hl
set_option maxHeartbeats 4000000 in
set_option maxRecDepth 100000 in
theorem lw_held {p : Program} {l : Launch} {e : Env} {s : State} {m : MethodId} {below : List Frame} {meth : Method} {c : Code} {H : Heap} {locs : List Loc} {cells slots : Nat} {Q : State → Prop} {D : va_G} {cy : Nat → ClassId} {de b L : Nat} {xs : Nat → Int32} {ls : Array Slot} {tg mm ou T : Nat} {ma : Nat → Nat} {x4 : Int32} (hl0 : l.stackTraces = false) (C0 : lwC p s m c b L xs x4) (hT : T < 520) (hc : cells + 20 ≤ 601024) (hs : slots + 300 ≤ 7293034) {f : gFm} (hW : lwW cy de ou tg mm ma T f) (hI : gI D cy de (lwA s) s f H locs) (hl : lv_has ls 7 [(0, .ref b), (1, .ref tg), (2, .ref mm), (3, .ref ou), (4, .int x4)])
    (kk : ∀ (f1 : gFm) (H1 : Heap) (locs1 : List Loc) (ls1 : Array Slot), lwW cy de ou tg mm ma (T + 1) f1 → gI D cy de (lwA s) s f1 H1 locs1 → lv_has ls1 7 [(0, .ref b), (1, .ref tg), (2, .ref mm), (3, .ref ou), (4, .int x4)] → W p l e room_1 s m #[Value.ref b] below meth c H1 locs1 (cells + 20) (slots + 300) Q (F0 m 1265 ls1 [])) : W p l e room_1 s m #[Value.ref b] below meth c H locs cells slots Q (F0 m 922 ls []) := by
  obtain ⟨hx, hb, hml, hown, hts, hX, hbl, v1, v2, v3, v4⟩ := C0
  obtain ⟨N, I, M, fG, fM, y, tk, ⟨e0, hR, hd, hS⟩, hM, hdM, rfl⟩ := hW
  subst e0
  have hbA : ¬ lwA s b := Nat.not_le.mpr hbl
  obtain ⟨p1, q1⟩ : ∃ z : Int32, xs (x4 + 1).toNatClampNeg = z := ⟨_, rfl⟩
  refine lv_aload_n hx hb dL_law_922 rfl (lv_at hl 1 rfl) ?_
  refine lv_aload_n hx hb dL_law_923 rfl (lv_at hl 0 rfl) ?_
  refine lv_iload hx hb dL_law_924 (lv_at hl 4 rfl) ?_
  refine lv_iconst (v := 1) hx hb dL_law_926 (by decide) ?_
  refine lv_iadd hx hb dL_law_927 ?_
  refine lw_ld hx hb hX hbl hbA hI.2.1 v1 q1 dL_law_928 ?_
  refine lv_aload_n hx hb dL_law_929 rfl (lv_at hl 3 rfl) ?_
  refine g_calli hI (vx_runSW (As := [.ref (N 0 0), .int p1, .ref ou]) (rest := []) ⟨hx, hb, hml, hown, hts⟩ (gMi_frame (d_held l hl0 D cy de fG ou y N I p1 hR hd hS hT) hdM H.size) (vx_cwSW 3 hts gL_law_L_held rfl rfl rfl (by decide +kernel) ⟨Nat.le_of_ble_eq_true rfl, Nat.le_of_ble_eq_true rfl⟩) (g_preS hI) rfl rfl hl.1 rfl (lv_room (Nat.le_of_ble_eq_true rfl)) dL_law_930 ⟨by show cells + 1 ≤ 601024; omega, by show slots + 6 ≤ 7293034; omega⟩) (fun r1 f1 H locs hw hI => ?_)
  obtain ⟨a9, hA, e9, hdA⟩ := hw
  obtain ⟨N1, I1, fG1, y1, tk1, ⟨e1, hR1, hd1, e8⟩, hS1, h00, hZ⟩ := hA
  subst e8
  subst e9
  refine lv_istore (lv' := [(5, .int r1), (0, .ref b), (1, .ref (N 0 0)), (2, .ref mm), (3, .ref ou), (4, .int x4)]) hx hb dL_law_933 hl (by decide) rfl (fun ls hl => ?_)
  refine lv_aload_n hx hb dL_law_935 rfl (lv_at hl 3 rfl) ?_
  refine lv_aload_n hx hb dL_law_936 rfl (lv_at hl 1 rfl) ?_
  refine lv_iload hx hb dL_law_937 (lv_at hl 5 rfl) ?_
  refine lv_iconst (v := 1) hx hb dL_law_939 (by decide) ?_
  refine lv_iadd hx hb dL_law_940 ?_
  refine lw_ld hx hb hX hbl hbA hI.2.1 v1 q1 dL_law_941 ?_
  refine g_calli hI (va_runV (As := [.int p1]) (rest := []) ⟨hx, hb, hml, hown, hts⟩ (gMi_frameR (c_X5_held l D cy de fM mm ma M p1 (N 0 7) (N 0 8) (Sim_ok hS) hM) hdA H.size) (cwV 1 hts gL_law_X5_held rfl rfl rfl (by decide +kernel) ⟨Nat.le_of_ble_eq_true rfl, Nat.le_of_ble_eq_true rfl⟩) (g_preV hI (lw_mm hM hdA) rfl) rfl rfl hl.1 rfl (lv_room (Nat.le_of_ble_eq_true rfl)) dL_law_942 ⟨by show cells + 1 + 0 ≤ 601024; omega, by show slots + 6 + 0 ≤ 7293034; omega⟩) (fun r2 f2 H locs hw hI => ?_)
  obtain ⟨fM1, ⟨e2, hM1⟩, e9, hdM1⟩ := hw
  subst e9
  refine lv_istore (lv' := [(6, .int r2), (5, .int r1), (0, .ref b), (1, .ref (N 0 0)), (2, .ref mm), (3, .ref ou), (4, .int x4)]) hx hb dL_law_945 hl (by decide) rfl (fun ls hl => ?_)
  refine lv_aload_n hx hb dL_law_947 rfl (lv_at hl 4 rfl) ?_
  refine g_calli hI (va_runV (As := []) (rest := []) ⟨hx, hb, hml, hown, hts⟩ (gMi_frameR (c_X5_thrown l D cy de fM1 mm ma _ hM1) hdM1 H.size) (cwV 0 hts gL_law_X5_thrown rfl rfl rfl (by decide +kernel) ⟨Nat.le_of_ble_eq_true rfl, Nat.le_of_ble_eq_true rfl⟩) (g_preV hI (lw_mm hM1 hdM1) rfl) rfl rfl hl.1 rfl (lv_room (Nat.le_of_ble_eq_true rfl)) dL_law_948 ⟨by show cells + 1 + 0 + 0 ≤ 601024; omega, by show slots + 6 + 0 + 0 ≤ 7293034; omega⟩) (fun r3 f3 H locs hw hI => ?_)
  obtain ⟨fM2, ⟨e3, hM2⟩, e9, hdM2⟩ := hw
  subst e9
  have K : ∀ ls1 : Array Slot, lv_has ls1 7 [(6, .int r2), (5, .int r1), (0, .ref b), (1, .ref (N 0 0)), (2, .ref mm), (3, .ref ou), (4, .int x4)] → W p l e room_1 s m #[Value.ref b] below meth c H locs (cells + 1 + 0 + 0) (slots + 6 + 0 + 0) Q (F0 m 1265 ls1 []) := fun ls1 hl1 => W.widen (by omega) (by omega) (kk _ H locs ls1 ⟨N1, I1, _, fG1, fM2, y1, tk1, ⟨e1, hR1, hd1, hS1⟩, hM2, hdM2, rfl⟩ hI (lv_sub hl1 [2, 3, 4, 5, 6] rfl))
  refine lv_iload hx hb dL_law_951 (lv_at hl 1 rfl) ?_
  refine lv_icmp_eq (tgt := 958) hx hb dL_law_953 (by decide) (fun k1 => ?_) (fun k1 => absurd (e3.trans h00) k1)
  refine lv_iload hx hb dL_law_958 (lv_at hl 1 rfl) ?_
  refine lv_if_ne (tgt := 975) hx hb dL_law_960 (by decide) (fun k2 => ?_) (fun k2 => ?_)
  · refine lv_goto (tgt := 1265) hx hb dL_law_975 (by decide) ?_
    exact K ls hl
  · have hz := hZ k2
    rw [← e2] at hz
    refine lv_aload_n hx hb dL_law_963 rfl (lv_at hl 5 rfl) ?_
    refine lv_iconst (v := 0) hx hb dL_law_964 (by decide) ?_
    refine g_lald (n := 1) (x := y1) hx hb hI (gJ_l (gO_at hd1)) (by unfold vp_in; decide) dL_law_965 ?_
    refine lv_iload hx hb dL_law_966 (lv_at hl 0 rfl) ?_
    refine lv_i2l (v := Int32.toInt64 r2) hx hb dL_law_968 rfl ?_
    refine W.lcmp hx hb dL_law_969 ?_
    refine lv_if_eq (tgt := 975) hx hb dL_law_970 (by decide) (fun k3 => ?_) (fun k3 => absurd ((lg_cmp_eq _ _).mpr (hz)) k3)
    refine lv_goto (tgt := 1265) hx hb dL_law_975 (by decide) ?_
    exact K ls hl
set_option maxHeartbeats 4000000 in
set_option maxRecDepth 100000 in
theorem lw_tokens {p : Program} {l : Launch} {e : Env} {s : State} {m : MethodId} {below : List Frame} {meth : Method} {c : Code} {H : Heap} {locs : List Loc} {cells slots : Nat} {Q : State → Prop} {D : va_G} {cy : Nat → ClassId} {de b L : Nat} {xs : Nat → Int32} {ls : Array Slot} {tg mm ou T : Nat} {ma : Nat → Nat} {x4 : Int32} (hl0 : l.stackTraces = false) (C0 : lwC p s m c b L xs x4) (hT : T < 520) (hc : cells + 20 ≤ 601024) (hs : slots + 300 ≤ 7293034) {f : gFm} (hW : lwW cy de ou tg mm ma T f) (hI : gI D cy de (lwA s) s f H locs) (hl : lv_has ls 7 [(0, .ref b), (1, .ref tg), (2, .ref mm), (3, .ref ou), (4, .int x4)])
    (kk : ∀ (f1 : gFm) (H1 : Heap) (locs1 : List Loc) (ls1 : Array Slot), lwW cy de ou tg mm ma (T + 1) f1 → gI D cy de (lwA s) s f1 H1 locs1 → lv_has ls1 7 [(0, .ref b), (1, .ref tg), (2, .ref mm), (3, .ref ou), (4, .int x4)] → W p l e room_1 s m #[Value.ref b] below meth c H1 locs1 (cells + 20) (slots + 300) Q (F0 m 1265 ls1 [])) : W p l e room_1 s m #[Value.ref b] below meth c H locs cells slots Q (F0 m 978 ls []) := by
  obtain ⟨hx, hb, hml, hown, hts, hX, hbl, v1, v2, v3, v4⟩ := C0
  obtain ⟨N, I, M, fG, fM, y, tk, ⟨e0, hR, hd, hS⟩, hM, hdM, rfl⟩ := hW
  subst e0
  have hbA : ¬ lwA s b := Nat.not_le.mpr hbl
  obtain ⟨p1, q1⟩ : ∃ z : Int32, xs (x4 + 1).toNatClampNeg = z := ⟨_, rfl⟩
  refine lv_aload_n hx hb dL_law_978 rfl (lv_at hl 1 rfl) ?_
  refine lv_aload_n hx hb dL_law_979 rfl (lv_at hl 0 rfl) ?_
  refine lv_iload hx hb dL_law_980 (lv_at hl 4 rfl) ?_
  refine lv_iconst (v := 1) hx hb dL_law_982 (by decide) ?_
  refine lv_iadd hx hb dL_law_983 ?_
  refine lw_ld hx hb hX hbl hbA hI.2.1 v1 q1 dL_law_984 ?_
  refine lv_aload_n hx hb dL_law_985 rfl (lv_at hl 3 rfl) ?_
  refine g_calli hI (vx_runSW (As := [.ref (N 0 0), .int p1, .ref ou]) (rest := []) ⟨hx, hb, hml, hown, hts⟩ (gMi_frame (d_tokens l hl0 D cy de fG ou y N I p1 hR hd hS hT) hdM H.size) (vx_cwSW 3 hts gL_law_L_tokens rfl rfl rfl (by decide +kernel) ⟨Nat.le_of_ble_eq_true rfl, Nat.le_of_ble_eq_true rfl⟩) (g_preS hI) rfl rfl hl.1 rfl (lv_room (Nat.le_of_ble_eq_true rfl)) dL_law_986 ⟨by show cells + 1 ≤ 601024; omega, by show slots + 6 ≤ 7293034; omega⟩) (fun r1 f1 H locs hw hI => ?_)
  obtain ⟨a9, hA, e9, hdA⟩ := hw
  obtain ⟨N1, I1, fG1, y1, tk1, ⟨e1, hR1, hd1, e8⟩, hS1, h00, hZ⟩ := hA
  subst e8
  subst e9
  refine lv_istore (lv' := [(5, .int r1), (0, .ref b), (1, .ref (N 0 0)), (2, .ref mm), (3, .ref ou), (4, .int x4)]) hx hb dL_law_989 hl (by decide) rfl (fun ls hl => ?_)
  refine lv_aload_n hx hb dL_law_991 rfl (lv_at hl 3 rfl) ?_
  refine lv_aload_n hx hb dL_law_992 rfl (lv_at hl 1 rfl) ?_
  refine lv_iload hx hb dL_law_993 (lv_at hl 5 rfl) ?_
  refine lv_iconst (v := 1) hx hb dL_law_995 (by decide) ?_
  refine lv_iadd hx hb dL_law_996 ?_
  refine lw_ld hx hb hX hbl hbA hI.2.1 v1 q1 dL_law_997 ?_
  refine g_calli hI (va_runV (As := [.int p1]) (rest := []) ⟨hx, hb, hml, hown, hts⟩ (gMi_frameR (c_X5_tokens l D cy de fM mm ma M p1 (N 0 7) (N 0 8) (Sim_ok hS) hM) hdA H.size) (cwV 1 hts gL_law_X5_tokens rfl rfl rfl (by decide +kernel) ⟨Nat.le_of_ble_eq_true rfl, Nat.le_of_ble_eq_true rfl⟩) (g_preV hI (lw_mm hM hdA) rfl) rfl rfl hl.1 rfl (lv_room (Nat.le_of_ble_eq_true rfl)) dL_law_998 ⟨by show cells + 1 + 0 ≤ 601024; omega, by show slots + 6 + 0 ≤ 7293034; omega⟩) (fun r2 f2 H locs hw hI => ?_)
  obtain ⟨fM1, ⟨e2, hM1⟩, e9, hdM1⟩ := hw
  subst e9
  refine lv_istore (lv' := [(6, .int r2), (5, .int r1), (0, .ref b), (1, .ref (N 0 0)), (2, .ref mm), (3, .ref ou), (4, .int x4)]) hx hb dL_law_1001 hl (by decide) rfl (fun ls hl => ?_)
  refine lv_aload_n hx hb dL_law_1003 rfl (lv_at hl 4 rfl) ?_
  refine g_calli hI (va_runV (As := []) (rest := []) ⟨hx, hb, hml, hown, hts⟩ (gMi_frameR (c_X5_thrown l D cy de fM1 mm ma _ hM1) hdM1 H.size) (cwV 0 hts gL_law_X5_thrown rfl rfl rfl (by decide +kernel) ⟨Nat.le_of_ble_eq_true rfl, Nat.le_of_ble_eq_true rfl⟩) (g_preV hI (lw_mm hM1 hdM1) rfl) rfl rfl hl.1 rfl (lv_room (Nat.le_of_ble_eq_true rfl)) dL_law_1004 ⟨by show cells + 1 + 0 + 0 ≤ 601024; omega, by show slots + 6 + 0 + 0 ≤ 7293034; omega⟩) (fun r3 f3 H locs hw hI => ?_)
  obtain ⟨fM2, ⟨e3, hM2⟩, e9, hdM2⟩ := hw
  subst e9
  have K : ∀ ls1 : Array Slot, lv_has ls1 7 [(6, .int r2), (5, .int r1), (0, .ref b), (1, .ref (N 0 0)), (2, .ref mm), (3, .ref ou), (4, .int x4)] → W p l e room_1 s m #[Value.ref b] below meth c H locs (cells + 1 + 0 + 0) (slots + 6 + 0 + 0) Q (F0 m 1265 ls1 []) := fun ls1 hl1 => W.widen (by omega) (by omega) (kk _ H locs ls1 ⟨N1, I1, _, fG1, fM2, y1, tk1, ⟨e1, hR1, hd1, hS1⟩, hM2, hdM2, rfl⟩ hI (lv_sub hl1 [2, 3, 4, 5, 6] rfl))
  refine lv_iload hx hb dL_law_1007 (lv_at hl 1 rfl) ?_
  refine lv_icmp_eq (tgt := 1014) hx hb dL_law_1009 (by decide) (fun k1 => ?_) (fun k1 => absurd (e3.trans h00) k1)
  refine lv_iload hx hb dL_law_1014 (lv_at hl 1 rfl) ?_
  refine lv_if_ne (tgt := 1031) hx hb dL_law_1016 (by decide) (fun k2 => ?_) (fun k2 => ?_)
  · refine lv_goto (tgt := 1265) hx hb dL_law_1031 (by decide) ?_
    exact K ls hl
  · have hz := hZ k2
    rw [← e2] at hz
    refine lv_aload_n hx hb dL_law_1019 rfl (lv_at hl 5 rfl) ?_
    refine lv_iconst (v := 0) hx hb dL_law_1020 (by decide) ?_
    refine g_lald (n := 1) (x := y1) hx hb hI (gJ_l (gO_at hd1)) (by unfold vp_in; decide) dL_law_1021 ?_
    refine lv_iload hx hb dL_law_1022 (lv_at hl 0 rfl) ?_
    refine lv_i2l (v := Int32.toInt64 r2) hx hb dL_law_1024 rfl ?_
    refine W.lcmp hx hb dL_law_1025 ?_
    refine lv_if_eq (tgt := 1031) hx hb dL_law_1026 (by decide) (fun k3 => ?_) (fun k3 => absurd ((lg_cmp_eq _ _).mpr (hz)) k3)
    refine lv_goto (tgt := 1265) hx hb dL_law_1031 (by decide) ?_
    exact K ls hl
set_option maxHeartbeats 4000000 in
set_option maxRecDepth 100000 in
theorem lw_isSlowed {p : Program} {l : Launch} {e : Env} {s : State} {m : MethodId} {below : List Frame} {meth : Method} {c : Code} {H : Heap} {locs : List Loc} {cells slots : Nat} {Q : State → Prop} {D : va_G} {cy : Nat → ClassId} {de b L : Nat} {xs : Nat → Int32} {ls : Array Slot} {tg mm ou T : Nat} {ma : Nat → Nat} {x4 : Int32} (hl0 : l.stackTraces = false) (C0 : lwC p s m c b L xs x4) (hT : T < 520) (hc : cells + 20 ≤ 601024) (hs : slots + 300 ≤ 7293034) {f : gFm} (hW : lwW cy de ou tg mm ma T f) (hI : gI D cy de (lwA s) s f H locs) (hl : lv_has ls 7 [(0, .ref b), (1, .ref tg), (2, .ref mm), (3, .ref ou), (4, .int x4)])
    (kk : ∀ (f1 : gFm) (H1 : Heap) (locs1 : List Loc) (ls1 : Array Slot), lwW cy de ou tg mm ma (T + 1) f1 → gI D cy de (lwA s) s f1 H1 locs1 → lv_has ls1 7 [(0, .ref b), (1, .ref tg), (2, .ref mm), (3, .ref ou), (4, .int x4)] → W p l e room_1 s m #[Value.ref b] below meth c H1 locs1 (cells + 20) (slots + 300) Q (F0 m 1265 ls1 [])) : W p l e room_1 s m #[Value.ref b] below meth c H locs cells slots Q (F0 m 1034 ls []) := by
  obtain ⟨hx, hb, hml, hown, hts, hX, hbl, v1, v2, v3, v4⟩ := C0
  obtain ⟨N, I, M, fG, fM, y, tk, ⟨e0, hR, hd, hS⟩, hM, hdM, rfl⟩ := hW
  subst e0
  have hbA : ¬ lwA s b := Nat.not_le.mpr hbl
  obtain ⟨p1, q1⟩ : ∃ z : Int32, xs (x4 + 1).toNatClampNeg = z := ⟨_, rfl⟩
  refine lv_aload_n hx hb dL_law_1034 rfl (lv_at hl 1 rfl) ?_
  refine lv_aload_n hx hb dL_law_1035 rfl (lv_at hl 0 rfl) ?_
  refine lv_iload hx hb dL_law_1036 (lv_at hl 4 rfl) ?_
  refine lv_iconst (v := 1) hx hb dL_law_1038 (by decide) ?_
  refine lv_iadd hx hb dL_law_1039 ?_
  refine lw_ld hx hb hX hbl hbA hI.2.1 v1 q1 dL_law_1040 ?_
  refine lv_aload_n hx hb dL_law_1041 rfl (lv_at hl 3 rfl) ?_
  refine g_calli hI (vx_runSW (As := [.ref (N 0 0), .int p1, .ref ou]) (rest := []) ⟨hx, hb, hml, hown, hts⟩ (gMi_frame (d_isSlowed l hl0 D cy de fG ou y N I p1 hR hd hS hT) hdM H.size) (vx_cwSW 3 hts gL_law_L_isSlowed rfl rfl rfl (by decide +kernel) ⟨Nat.le_of_ble_eq_true rfl, Nat.le_of_ble_eq_true rfl⟩) (g_preS hI) rfl rfl hl.1 rfl (lv_room (Nat.le_of_ble_eq_true rfl)) dL_law_1042 ⟨by show cells + 1 ≤ 601024; omega, by show slots + 6 ≤ 7293034; omega⟩) (fun r1 f1 H locs hw hI => ?_)
  obtain ⟨a9, hA, e9, hdA⟩ := hw
  obtain ⟨N1, I1, fG1, y1, tk1, ⟨e1, hR1, hd1, e8⟩, hS1, h00, hZ⟩ := hA
  subst e8
  subst e9
  refine lv_istore (lv' := [(5, .int r1), (0, .ref b), (1, .ref (N 0 0)), (2, .ref mm), (3, .ref ou), (4, .int x4)]) hx hb dL_law_1045 hl (by decide) rfl (fun ls hl => ?_)
  refine lv_aload_n hx hb dL_law_1047 rfl (lv_at hl 3 rfl) ?_
  refine lv_aload_n hx hb dL_law_1048 rfl (lv_at hl 1 rfl) ?_
  refine lv_iload hx hb dL_law_1049 (lv_at hl 5 rfl) ?_
  refine lv_iconst (v := 1) hx hb dL_law_1051 (by decide) ?_
  refine lv_iadd hx hb dL_law_1052 ?_
  refine lw_ld hx hb hX hbl hbA hI.2.1 v1 q1 dL_law_1053 ?_
  refine g_calli hI (va_runV (As := [.int p1]) (rest := []) ⟨hx, hb, hml, hown, hts⟩ (gMi_frameR (c_X5_isSlowed l D cy de fM mm ma M p1 (N 0 7) (N 0 8) (Sim_ok hS) hM) hdA H.size) (cwV 1 hts gL_law_X5_isSlowed rfl rfl rfl (by decide +kernel) ⟨Nat.le_of_ble_eq_true rfl, Nat.le_of_ble_eq_true rfl⟩) (g_preV hI (lw_mm hM hdA) rfl) rfl rfl hl.1 rfl (lv_room (Nat.le_of_ble_eq_true rfl)) dL_law_1054 ⟨by show cells + 1 + 0 ≤ 601024; omega, by show slots + 6 + 0 ≤ 7293034; omega⟩) (fun r2 f2 H locs hw hI => ?_)
  obtain ⟨fM1, ⟨e2, hM1⟩, e9, hdM1⟩ := hw
  subst e9
  refine lv_istore (lv' := [(6, .int r2), (5, .int r1), (0, .ref b), (1, .ref (N 0 0)), (2, .ref mm), (3, .ref ou), (4, .int x4)]) hx hb dL_law_1057 hl (by decide) rfl (fun ls hl => ?_)
  refine lv_aload_n hx hb dL_law_1059 rfl (lv_at hl 4 rfl) ?_
  refine g_calli hI (va_runV (As := []) (rest := []) ⟨hx, hb, hml, hown, hts⟩ (gMi_frameR (c_X5_thrown l D cy de fM1 mm ma _ hM1) hdM1 H.size) (cwV 0 hts gL_law_X5_thrown rfl rfl rfl (by decide +kernel) ⟨Nat.le_of_ble_eq_true rfl, Nat.le_of_ble_eq_true rfl⟩) (g_preV hI (lw_mm hM1 hdM1) rfl) rfl rfl hl.1 rfl (lv_room (Nat.le_of_ble_eq_true rfl)) dL_law_1060 ⟨by show cells + 1 + 0 + 0 ≤ 601024; omega, by show slots + 6 + 0 + 0 ≤ 7293034; omega⟩) (fun r3 f3 H locs hw hI => ?_)
  obtain ⟨fM2, ⟨e3, hM2⟩, e9, hdM2⟩ := hw
  subst e9
  have K : ∀ ls1 : Array Slot, lv_has ls1 7 [(6, .int r2), (5, .int r1), (0, .ref b), (1, .ref (N 0 0)), (2, .ref mm), (3, .ref ou), (4, .int x4)] → W p l e room_1 s m #[Value.ref b] below meth c H locs (cells + 1 + 0 + 0) (slots + 6 + 0 + 0) Q (F0 m 1265 ls1 []) := fun ls1 hl1 => W.widen (by omega) (by omega) (kk _ H locs ls1 ⟨N1, I1, _, fG1, fM2, y1, tk1, ⟨e1, hR1, hd1, hS1⟩, hM2, hdM2, rfl⟩ hI (lv_sub hl1 [2, 3, 4, 5, 6] rfl))
  refine lv_iload hx hb dL_law_1063 (lv_at hl 1 rfl) ?_
  refine lv_icmp_eq (tgt := 1070) hx hb dL_law_1065 (by decide) (fun k1 => ?_) (fun k1 => absurd (e3.trans h00) k1)
  refine lv_iload hx hb dL_law_1070 (lv_at hl 1 rfl) ?_
  refine lv_if_ne (tgt := 1094) hx hb dL_law_1072 (by decide) (fun k2 => ?_) (fun k2 => ?_)
  · refine lv_goto (tgt := 1265) hx hb dL_law_1094 (by decide) ?_
    exact K ls hl
  · have hz := hZ k2
    rw [← e2] at hz
    refine lv_aload_n hx hb dL_law_1075 rfl (lv_at hl 5 rfl) ?_
    refine lv_iconst (v := 0) hx hb dL_law_1076 (by decide) ?_
    refine g_lald (n := 1) (x := y1) hx hb hI (gJ_l (gO_at hd1)) (by unfold vp_in; decide) dL_law_1077 ?_
    refine lv_iload hx hb dL_law_1078 (lv_at hl 0 rfl) ?_
    refine lv_if_eq (tgt := 1087) hx hb dL_law_1080 (by decide) (fun k4 => ?_) (fun k4 => ?_)
    · refine lv_lconst (v := 0) hx hb dL_law_1087 rfl ?_
      refine W.lcmp hx hb dL_law_1088 ?_
      refine lv_if_eq (tgt := 1094) hx hb dL_law_1089 (by decide) (fun k3 => ?_) (fun k3 => absurd ((lg_cmp_eq _ _).mpr (hz.trans (if_pos k4))) k3)
      refine lv_goto (tgt := 1265) hx hb dL_law_1094 (by decide) ?_
      exact K ls hl
    · refine lv_lconst (v := 1) hx hb dL_law_1083 rfl ?_
      refine lv_goto (tgt := 1088) hx hb dL_law_1084 (by decide) ?_
      refine W.lcmp hx hb dL_law_1088 ?_
      refine lv_if_eq (tgt := 1094) hx hb dL_law_1089 (by decide) (fun k3 => ?_) (fun k3 => absurd ((lg_cmp_eq _ _).mpr (hz.trans (if_neg k4))) k3)
      refine lv_goto (tgt := 1265) hx hb dL_law_1094 (by decide) ?_
      exact K ls hl
set_option maxHeartbeats 4000000 in
set_option maxRecDepth 100000 in
theorem lw_cost {p : Program} {l : Launch} {e : Env} {s : State} {m : MethodId} {below : List Frame} {meth : Method} {c : Code} {H : Heap} {locs : List Loc} {cells slots : Nat} {Q : State → Prop} {D : va_G} {cy : Nat → ClassId} {de b L : Nat} {xs : Nat → Int32} {ls : Array Slot} {tg mm ou T : Nat} {ma : Nat → Nat} {x4 : Int32} (hl0 : l.stackTraces = false) (C0 : lwC p s m c b L xs x4) (hT : T < 520) (hc : cells + 20 ≤ 601024) (hs : slots + 300 ≤ 7293034) {f : gFm} (hW : lwW cy de ou tg mm ma T f) (hI : gI D cy de (lwA s) s f H locs) (hl : lv_has ls 7 [(0, .ref b), (1, .ref tg), (2, .ref mm), (3, .ref ou), (4, .int x4)])
    (kk : ∀ (f1 : gFm) (H1 : Heap) (locs1 : List Loc) (ls1 : Array Slot), lwW cy de ou tg mm ma (T + 1) f1 → gI D cy de (lwA s) s f1 H1 locs1 → lv_has ls1 7 [(0, .ref b), (1, .ref tg), (2, .ref mm), (3, .ref ou), (4, .int x4)] → W p l e room_1 s m #[Value.ref b] below meth c H1 locs1 (cells + 20) (slots + 300) Q (F0 m 1265 ls1 [])) : W p l e room_1 s m #[Value.ref b] below meth c H locs cells slots Q (F0 m 1097 ls []) := by
  obtain ⟨hx, hb, hml, hown, hts, hX, hbl, v1, v2, v3, v4⟩ := C0
  obtain ⟨N, I, M, fG, fM, y, tk, ⟨e0, hR, hd, hS⟩, hM, hdM, rfl⟩ := hW
  subst e0
  have hbA : ¬ lwA s b := Nat.not_le.mpr hbl
  obtain ⟨p1, q1⟩ : ∃ z : Int32, xs (x4 + 1).toNatClampNeg = z := ⟨_, rfl⟩
  refine lv_aload_n hx hb dL_law_1097 rfl (lv_at hl 1 rfl) ?_
  refine lv_aload_n hx hb dL_law_1098 rfl (lv_at hl 0 rfl) ?_
  refine lv_iload hx hb dL_law_1099 (lv_at hl 4 rfl) ?_
  refine lv_iconst (v := 1) hx hb dL_law_1101 (by decide) ?_
  refine lv_iadd hx hb dL_law_1102 ?_
  refine lw_ld hx hb hX hbl hbA hI.2.1 v1 q1 dL_law_1103 ?_
  refine lv_aload_n hx hb dL_law_1104 rfl (lv_at hl 3 rfl) ?_
  refine g_calli hI (vx_runSW (As := [.ref (N 0 0), .int p1, .ref ou]) (rest := []) ⟨hx, hb, hml, hown, hts⟩ (gMi_frame (d_cost l hl0 D cy de fG ou y N I p1 hR hd hS hT) hdM H.size) (vx_cwSW 3 hts gL_law_L_cost rfl rfl rfl (by decide +kernel) ⟨Nat.le_of_ble_eq_true rfl, Nat.le_of_ble_eq_true rfl⟩) (g_preS hI) rfl rfl hl.1 rfl (lv_room (Nat.le_of_ble_eq_true rfl)) dL_law_1105 ⟨by show cells + 1 ≤ 601024; omega, by show slots + 6 ≤ 7293034; omega⟩) (fun r1 f1 H locs hw hI => ?_)
  obtain ⟨a9, hA, e9, hdA⟩ := hw
  obtain ⟨N1, I1, fG1, y1, tk1, ⟨e1, hR1, hd1, e8⟩, hS1, h00, hZ⟩ := hA
  subst e8
  subst e9
  refine lv_istore (lv' := [(5, .int r1), (0, .ref b), (1, .ref (N 0 0)), (2, .ref mm), (3, .ref ou), (4, .int x4)]) hx hb dL_law_1108 hl (by decide) rfl (fun ls hl => ?_)
  refine lv_aload_n hx hb dL_law_1110 rfl (lv_at hl 3 rfl) ?_
  refine lv_aload_n hx hb dL_law_1111 rfl (lv_at hl 1 rfl) ?_
  refine lv_iload hx hb dL_law_1112 (lv_at hl 5 rfl) ?_
  refine lv_iconst (v := 1) hx hb dL_law_1114 (by decide) ?_
  refine lv_iadd hx hb dL_law_1115 ?_
  refine lw_ld hx hb hX hbl hbA hI.2.1 v1 q1 dL_law_1116 ?_
  refine g_calli hI (va_runV (As := [.int p1]) (rest := []) ⟨hx, hb, hml, hown, hts⟩ (gMi_frameR (c_X5_cost l D cy de fM mm ma M p1 (N 0 7) (N 0 8) (Sim_ok hS) hM) hdA H.size) (cwV 1 hts gL_law_X5_cost rfl rfl rfl (by decide +kernel) ⟨Nat.le_of_ble_eq_true rfl, Nat.le_of_ble_eq_true rfl⟩) (g_preV hI (lw_mm hM hdA) rfl) rfl rfl hl.1 rfl (lv_room (Nat.le_of_ble_eq_true rfl)) dL_law_1117 ⟨by show cells + 1 + 0 ≤ 601024; omega, by show slots + 6 + 0 ≤ 7293034; omega⟩) (fun r2 f2 H locs hw hI => ?_)
  obtain ⟨fM1, ⟨e2, hM1⟩, e9, hdM1⟩ := hw
  subst e9
  refine lv_istore (lv' := [(6, .int r2), (5, .int r1), (0, .ref b), (1, .ref (N 0 0)), (2, .ref mm), (3, .ref ou), (4, .int x4)]) hx hb dL_law_1120 hl (by decide) rfl (fun ls hl => ?_)
  refine lv_aload_n hx hb dL_law_1122 rfl (lv_at hl 4 rfl) ?_
  refine g_calli hI (va_runV (As := []) (rest := []) ⟨hx, hb, hml, hown, hts⟩ (gMi_frameR (c_X5_thrown l D cy de fM1 mm ma _ hM1) hdM1 H.size) (cwV 0 hts gL_law_X5_thrown rfl rfl rfl (by decide +kernel) ⟨Nat.le_of_ble_eq_true rfl, Nat.le_of_ble_eq_true rfl⟩) (g_preV hI (lw_mm hM1 hdM1) rfl) rfl rfl hl.1 rfl (lv_room (Nat.le_of_ble_eq_true rfl)) dL_law_1123 ⟨by show cells + 1 + 0 + 0 ≤ 601024; omega, by show slots + 6 + 0 + 0 ≤ 7293034; omega⟩) (fun r3 f3 H locs hw hI => ?_)
  obtain ⟨fM2, ⟨e3, hM2⟩, e9, hdM2⟩ := hw
  subst e9
  have K : ∀ ls1 : Array Slot, lv_has ls1 7 [(6, .int r2), (5, .int r1), (0, .ref b), (1, .ref (N 0 0)), (2, .ref mm), (3, .ref ou), (4, .int x4)] → W p l e room_1 s m #[Value.ref b] below meth c H locs (cells + 1 + 0 + 0) (slots + 6 + 0 + 0) Q (F0 m 1265 ls1 []) := fun ls1 hl1 => W.widen (by omega) (by omega) (kk _ H locs ls1 ⟨N1, I1, _, fG1, fM2, y1, tk1, ⟨e1, hR1, hd1, hS1⟩, hM2, hdM2, rfl⟩ hI (lv_sub hl1 [2, 3, 4, 5, 6] rfl))
  refine lv_iload hx hb dL_law_1126 (lv_at hl 1 rfl) ?_
  refine lv_icmp_eq (tgt := 1133) hx hb dL_law_1128 (by decide) (fun k1 => ?_) (fun k1 => absurd (e3.trans h00) k1)
  refine lv_iload hx hb dL_law_1133 (lv_at hl 1 rfl) ?_
  refine lv_if_ne (tgt := 1150) hx hb dL_law_1135 (by decide) (fun k2 => ?_) (fun k2 => ?_)
  · refine lv_goto (tgt := 1265) hx hb dL_law_1150 (by decide) ?_
    exact K ls hl
  · have hz := hZ k2
    rw [← e2] at hz
    refine lv_aload_n hx hb dL_law_1138 rfl (lv_at hl 5 rfl) ?_
    refine lv_iconst (v := 0) hx hb dL_law_1139 (by decide) ?_
    refine g_lald (n := 1) (x := y1) hx hb hI (gJ_l (gO_at hd1)) (by unfold vp_in; decide) dL_law_1140 ?_
    refine lv_iload hx hb dL_law_1141 (lv_at hl 0 rfl) ?_
    refine lv_i2l (v := Int32.toInt64 r2) hx hb dL_law_1143 rfl ?_
    refine W.lcmp hx hb dL_law_1144 ?_
    refine lv_if_eq (tgt := 1150) hx hb dL_law_1145 (by decide) (fun k3 => ?_) (fun k3 => absurd ((lg_cmp_eq _ _).mpr (hz)) k3)
    refine lv_goto (tgt := 1265) hx hb dL_law_1150 (by decide) ?_
    exact K ls hl
set_option maxHeartbeats 4000000 in
set_option maxRecDepth 100000 in
theorem lw_spent {p : Program} {l : Launch} {e : Env} {s : State} {m : MethodId} {below : List Frame} {meth : Method} {c : Code} {H : Heap} {locs : List Loc} {cells slots : Nat} {Q : State → Prop} {D : va_G} {cy : Nat → ClassId} {de b L : Nat} {xs : Nat → Int32} {ls : Array Slot} {tg mm ou T : Nat} {ma : Nat → Nat} {x4 : Int32} (hl0 : l.stackTraces = false) (C0 : lwC p s m c b L xs x4) (hT : T < 520) (hc : cells + 20 ≤ 601024) (hs : slots + 300 ≤ 7293034) {f : gFm} (hW : lwW cy de ou tg mm ma T f) (hI : gI D cy de (lwA s) s f H locs) (hl : lv_has ls 7 [(0, .ref b), (1, .ref tg), (2, .ref mm), (3, .ref ou), (4, .int x4)])
    (kk : ∀ (f1 : gFm) (H1 : Heap) (locs1 : List Loc) (ls1 : Array Slot), lwW cy de ou tg mm ma (T + 1) f1 → gI D cy de (lwA s) s f1 H1 locs1 → lv_has ls1 7 [(0, .ref b), (1, .ref tg), (2, .ref mm), (3, .ref ou), (4, .int x4)] → W p l e room_1 s m #[Value.ref b] below meth c H1 locs1 (cells + 20) (slots + 300) Q (F0 m 1265 ls1 [])) : W p l e room_1 s m #[Value.ref b] below meth c H locs cells slots Q (F0 m 1153 ls []) := by
  obtain ⟨hx, hb, hml, hown, hts, hX, hbl, v1, v2, v3, v4⟩ := C0
  obtain ⟨N, I, M, fG, fM, y, tk, ⟨e0, hR, hd, hS⟩, hM, hdM, rfl⟩ := hW
  subst e0
  have hbA : ¬ lwA s b := Nat.not_le.mpr hbl
  obtain ⟨p1, q1⟩ : ∃ z : Int32, xs (x4 + 1).toNatClampNeg = z := ⟨_, rfl⟩
  refine lv_aload_n hx hb dL_law_1153 rfl (lv_at hl 1 rfl) ?_
  refine lv_aload_n hx hb dL_law_1154 rfl (lv_at hl 0 rfl) ?_
  refine lv_iload hx hb dL_law_1155 (lv_at hl 4 rfl) ?_
  refine lv_iconst (v := 1) hx hb dL_law_1157 (by decide) ?_
  refine lv_iadd hx hb dL_law_1158 ?_
  refine lw_ld hx hb hX hbl hbA hI.2.1 v1 q1 dL_law_1159 ?_
  refine lv_aload_n hx hb dL_law_1160 rfl (lv_at hl 3 rfl) ?_
  refine g_calli hI (vx_runSW (As := [.ref (N 0 0), .int p1, .ref ou]) (rest := []) ⟨hx, hb, hml, hown, hts⟩ (gMi_frame (d_spent l hl0 D cy de fG ou y N I p1 hR hd hS hT) hdM H.size) (vx_cwSW 3 hts gL_law_L_spent rfl rfl rfl (by decide +kernel) ⟨Nat.le_of_ble_eq_true rfl, Nat.le_of_ble_eq_true rfl⟩) (g_preS hI) rfl rfl hl.1 rfl (lv_room (Nat.le_of_ble_eq_true rfl)) dL_law_1161 ⟨by show cells + 1 ≤ 601024; omega, by show slots + 6 ≤ 7293034; omega⟩) (fun r1 f1 H locs hw hI => ?_)
  obtain ⟨a9, hA, e9, hdA⟩ := hw
  obtain ⟨N1, I1, fG1, y1, tk1, ⟨e1, hR1, hd1, e8⟩, hS1, h00, hZ⟩ := hA
  subst e8
  subst e9
  refine lv_istore (lv' := [(5, .int r1), (0, .ref b), (1, .ref (N 0 0)), (2, .ref mm), (3, .ref ou), (4, .int x4)]) hx hb dL_law_1164 hl (by decide) rfl (fun ls hl => ?_)
  refine lv_aload_n hx hb dL_law_1166 rfl (lv_at hl 3 rfl) ?_
  refine lv_aload_n hx hb dL_law_1167 rfl (lv_at hl 1 rfl) ?_
  refine lv_iload hx hb dL_law_1168 (lv_at hl 5 rfl) ?_
  refine lv_iconst (v := 1) hx hb dL_law_1170 (by decide) ?_
  refine lv_iadd hx hb dL_law_1171 ?_
  refine lw_ld hx hb hX hbl hbA hI.2.1 v1 q1 dL_law_1172 ?_
  refine g_calli hI (va_runV (As := [.int p1]) (rest := []) ⟨hx, hb, hml, hown, hts⟩ (gMi_frameR (c_X5_spent l D cy de fM mm ma M p1 (N 0 7) (N 0 8) (Sim_ok hS) hM) hdA H.size) (cwV 1 hts gL_law_X5_spent rfl rfl rfl (by decide +kernel) ⟨Nat.le_of_ble_eq_true rfl, Nat.le_of_ble_eq_true rfl⟩) (g_preV hI (lw_mm hM hdA) rfl) rfl rfl hl.1 rfl (lv_room (Nat.le_of_ble_eq_true rfl)) dL_law_1173 ⟨by show cells + 1 + 0 ≤ 601024; omega, by show slots + 6 + 0 ≤ 7293034; omega⟩) (fun r2 f2 H locs hw hI => ?_)
  obtain ⟨fM1, ⟨e2, hM1⟩, e9, hdM1⟩ := hw
  subst e9
  refine lv_istore (lv' := [(6, .int r2), (5, .int r1), (0, .ref b), (1, .ref (N 0 0)), (2, .ref mm), (3, .ref ou), (4, .int x4)]) hx hb dL_law_1176 hl (by decide) rfl (fun ls hl => ?_)
  refine lv_aload_n hx hb dL_law_1178 rfl (lv_at hl 4 rfl) ?_
  refine g_calli hI (va_runV (As := []) (rest := []) ⟨hx, hb, hml, hown, hts⟩ (gMi_frameR (c_X5_thrown l D cy de fM1 mm ma _ hM1) hdM1 H.size) (cwV 0 hts gL_law_X5_thrown rfl rfl rfl (by decide +kernel) ⟨Nat.le_of_ble_eq_true rfl, Nat.le_of_ble_eq_true rfl⟩) (g_preV hI (lw_mm hM1 hdM1) rfl) rfl rfl hl.1 rfl (lv_room (Nat.le_of_ble_eq_true rfl)) dL_law_1179 ⟨by show cells + 1 + 0 + 0 ≤ 601024; omega, by show slots + 6 + 0 + 0 ≤ 7293034; omega⟩) (fun r3 f3 H locs hw hI => ?_)
  obtain ⟨fM2, ⟨e3, hM2⟩, e9, hdM2⟩ := hw
  subst e9
  have K : ∀ ls1 : Array Slot, lv_has ls1 7 [(6, .int r2), (5, .int r1), (0, .ref b), (1, .ref (N 0 0)), (2, .ref mm), (3, .ref ou), (4, .int x4)] → W p l e room_1 s m #[Value.ref b] below meth c H locs (cells + 1 + 0 + 0) (slots + 6 + 0 + 0) Q (F0 m 1265 ls1 []) := fun ls1 hl1 => W.widen (by omega) (by omega) (kk _ H locs ls1 ⟨N1, I1, _, fG1, fM2, y1, tk1, ⟨e1, hR1, hd1, hS1⟩, hM2, hdM2, rfl⟩ hI (lv_sub hl1 [2, 3, 4, 5, 6] rfl))
  refine lv_iload hx hb dL_law_1182 (lv_at hl 1 rfl) ?_
  refine lv_icmp_eq (tgt := 1189) hx hb dL_law_1184 (by decide) (fun k1 => ?_) (fun k1 => absurd (e3.trans h00) k1)
  refine lv_iload hx hb dL_law_1189 (lv_at hl 1 rfl) ?_
  refine lv_if_ne (tgt := 1206) hx hb dL_law_1191 (by decide) (fun k2 => ?_) (fun k2 => ?_)
  · refine lv_goto (tgt := 1265) hx hb dL_law_1206 (by decide) ?_
    exact K ls hl
  · have hz := hZ k2
    rw [← e2] at hz
    refine lv_aload_n hx hb dL_law_1194 rfl (lv_at hl 5 rfl) ?_
    refine lv_iconst (v := 0) hx hb dL_law_1195 (by decide) ?_
    refine g_lald (n := 1) (x := y1) hx hb hI (gJ_l (gO_at hd1)) (by unfold vp_in; decide) dL_law_1196 ?_
    refine lv_iload hx hb dL_law_1197 (lv_at hl 0 rfl) ?_
    refine lv_i2l (v := Int32.toInt64 r2) hx hb dL_law_1199 rfl ?_
    refine W.lcmp hx hb dL_law_1200 ?_
    refine lv_if_eq (tgt := 1206) hx hb dL_law_1201 (by decide) (fun k3 => ?_) (fun k3 => absurd ((lg_cmp_eq _ _).mpr (hz)) k3)
    refine lv_goto (tgt := 1265) hx hb dL_law_1206 (by decide) ?_
    exact K ls hl
set_option maxHeartbeats 4000000 in
set_option maxRecDepth 100000 in
theorem lw_paid {p : Program} {l : Launch} {e : Env} {s : State} {m : MethodId} {below : List Frame} {meth : Method} {c : Code} {H : Heap} {locs : List Loc} {cells slots : Nat} {Q : State → Prop} {D : va_G} {cy : Nat → ClassId} {de b L : Nat} {xs : Nat → Int32} {ls : Array Slot} {tg mm ou T : Nat} {ma : Nat → Nat} {x4 : Int32} (hl0 : l.stackTraces = false) (C0 : lwC p s m c b L xs x4) (hT : T < 520) (hc : cells + 20 ≤ 601024) (hs : slots + 300 ≤ 7293034) {f : gFm} (hW : lwW cy de ou tg mm ma T f) (hI : gI D cy de (lwA s) s f H locs) (hl : lv_has ls 7 [(0, .ref b), (1, .ref tg), (2, .ref mm), (3, .ref ou), (4, .int x4)])
    (kk : ∀ (f1 : gFm) (H1 : Heap) (locs1 : List Loc) (ls1 : Array Slot), lwW cy de ou tg mm ma (T + 1) f1 → gI D cy de (lwA s) s f1 H1 locs1 → lv_has ls1 7 [(0, .ref b), (1, .ref tg), (2, .ref mm), (3, .ref ou), (4, .int x4)] → W p l e room_1 s m #[Value.ref b] below meth c H1 locs1 (cells + 20) (slots + 300) Q (F0 m 1265 ls1 [])) : W p l e room_1 s m #[Value.ref b] below meth c H locs cells slots Q (F0 m 1209 ls []) := by
  obtain ⟨hx, hb, hml, hown, hts, hX, hbl, v1, v2, v3, v4⟩ := C0
  obtain ⟨N, I, M, fG, fM, y, tk, ⟨e0, hR, hd, hS⟩, hM, hdM, rfl⟩ := hW
  subst e0
  have hbA : ¬ lwA s b := Nat.not_le.mpr hbl
  obtain ⟨p1, q1⟩ : ∃ z : Int32, xs (x4 + 1).toNatClampNeg = z := ⟨_, rfl⟩
  refine lv_aload_n hx hb dL_law_1209 rfl (lv_at hl 1 rfl) ?_
  refine lv_aload_n hx hb dL_law_1210 rfl (lv_at hl 0 rfl) ?_
  refine lv_iload hx hb dL_law_1211 (lv_at hl 4 rfl) ?_
  refine lv_iconst (v := 1) hx hb dL_law_1213 (by decide) ?_
  refine lv_iadd hx hb dL_law_1214 ?_
  refine lw_ld hx hb hX hbl hbA hI.2.1 v1 q1 dL_law_1215 ?_
  refine lv_aload_n hx hb dL_law_1216 rfl (lv_at hl 3 rfl) ?_
  refine g_calli hI (vx_runSW (As := [.ref (N 0 0), .int p1, .ref ou]) (rest := []) ⟨hx, hb, hml, hown, hts⟩ (gMi_frame (d_paid l hl0 D cy de fG ou y N I p1 hR hd hS hT) hdM H.size) (vx_cwSW 3 hts gL_law_L_paid rfl rfl rfl (by decide +kernel) ⟨Nat.le_of_ble_eq_true rfl, Nat.le_of_ble_eq_true rfl⟩) (g_preS hI) rfl rfl hl.1 rfl (lv_room (Nat.le_of_ble_eq_true rfl)) dL_law_1217 ⟨by show cells + 1 ≤ 601024; omega, by show slots + 6 ≤ 7293034; omega⟩) (fun r1 f1 H locs hw hI => ?_)
  obtain ⟨a9, hA, e9, hdA⟩ := hw
  obtain ⟨N1, I1, fG1, y1, tk1, ⟨e1, hR1, hd1, e8⟩, hS1, h00, hZ⟩ := hA
  subst e8
  subst e9
  refine lv_istore (lv' := [(5, .int r1), (0, .ref b), (1, .ref (N 0 0)), (2, .ref mm), (3, .ref ou), (4, .int x4)]) hx hb dL_law_1220 hl (by decide) rfl (fun ls hl => ?_)
  refine lv_aload_n hx hb dL_law_1222 rfl (lv_at hl 3 rfl) ?_
  refine lv_aload_n hx hb dL_law_1223 rfl (lv_at hl 1 rfl) ?_
  refine lv_iload hx hb dL_law_1224 (lv_at hl 5 rfl) ?_
  refine lv_iconst (v := 1) hx hb dL_law_1226 (by decide) ?_
  refine lv_iadd hx hb dL_law_1227 ?_
  refine lw_ld hx hb hX hbl hbA hI.2.1 v1 q1 dL_law_1228 ?_
  refine g_calli hI (va_runV (As := [.int p1]) (rest := []) ⟨hx, hb, hml, hown, hts⟩ (gMi_frameR (c_X5_paid l D cy de fM mm ma M p1 (N 0 7) (N 0 8) (Sim_ok hS) hM) hdA H.size) (cwV 1 hts gL_law_X5_paid rfl rfl rfl (by decide +kernel) ⟨Nat.le_of_ble_eq_true rfl, Nat.le_of_ble_eq_true rfl⟩) (g_preV hI (lw_mm hM hdA) rfl) rfl rfl hl.1 rfl (lv_room (Nat.le_of_ble_eq_true rfl)) dL_law_1229 ⟨by show cells + 1 + 0 ≤ 601024; omega, by show slots + 6 + 0 ≤ 7293034; omega⟩) (fun r2 f2 H locs hw hI => ?_)
  obtain ⟨fM1, ⟨e2, hM1⟩, e9, hdM1⟩ := hw
  subst e9
  refine lv_istore (lv' := [(6, .int r2), (5, .int r1), (0, .ref b), (1, .ref (N 0 0)), (2, .ref mm), (3, .ref ou), (4, .int x4)]) hx hb dL_law_1232 hl (by decide) rfl (fun ls hl => ?_)
  refine lv_aload_n hx hb dL_law_1234 rfl (lv_at hl 4 rfl) ?_
  refine g_calli hI (va_runV (As := []) (rest := []) ⟨hx, hb, hml, hown, hts⟩ (gMi_frameR (c_X5_thrown l D cy de fM1 mm ma _ hM1) hdM1 H.size) (cwV 0 hts gL_law_X5_thrown rfl rfl rfl (by decide +kernel) ⟨Nat.le_of_ble_eq_true rfl, Nat.le_of_ble_eq_true rfl⟩) (g_preV hI (lw_mm hM1 hdM1) rfl) rfl rfl hl.1 rfl (lv_room (Nat.le_of_ble_eq_true rfl)) dL_law_1235 ⟨by show cells + 1 + 0 + 0 ≤ 601024; omega, by show slots + 6 + 0 + 0 ≤ 7293034; omega⟩) (fun r3 f3 H locs hw hI => ?_)
  obtain ⟨fM2, ⟨e3, hM2⟩, e9, hdM2⟩ := hw
  subst e9
  have K : ∀ ls1 : Array Slot, lv_has ls1 7 [(6, .int r2), (5, .int r1), (0, .ref b), (1, .ref (N 0 0)), (2, .ref mm), (3, .ref ou), (4, .int x4)] → W p l e room_1 s m #[Value.ref b] below meth c H locs (cells + 1 + 0 + 0) (slots + 6 + 0 + 0) Q (F0 m 1265 ls1 []) := fun ls1 hl1 => W.widen (by omega) (by omega) (kk _ H locs ls1 ⟨N1, I1, _, fG1, fM2, y1, tk1, ⟨e1, hR1, hd1, hS1⟩, hM2, hdM2, rfl⟩ hI (lv_sub hl1 [2, 3, 4, 5, 6] rfl))
  refine lv_iload hx hb dL_law_1238 (lv_at hl 1 rfl) ?_
  refine lv_icmp_eq (tgt := 1245) hx hb dL_law_1240 (by decide) (fun k1 => ?_) (fun k1 => absurd (e3.trans h00) k1)
  refine lv_iload hx hb dL_law_1245 (lv_at hl 1 rfl) ?_
  refine lv_if_ne (tgt := 1262) hx hb dL_law_1247 (by decide) (fun k2 => ?_) (fun k2 => ?_)
  · refine lv_goto (tgt := 1265) hx hb dL_law_1262 (by decide) ?_
    exact K ls hl
  · have hz := hZ k2
    rw [← e2] at hz
    refine lv_aload_n hx hb dL_law_1250 rfl (lv_at hl 5 rfl) ?_
    refine lv_iconst (v := 0) hx hb dL_law_1251 (by decide) ?_
    refine g_lald (n := 1) (x := y1) hx hb hI (gJ_l (gO_at hd1)) (by unfold vp_in; decide) dL_law_1252 ?_
    refine lv_iload hx hb dL_law_1253 (lv_at hl 0 rfl) ?_
    refine lv_i2l (v := Int32.toInt64 r2) hx hb dL_law_1255 rfl ?_
    refine W.lcmp hx hb dL_law_1256 ?_
    refine lv_if_eq (tgt := 1262) hx hb dL_law_1257 (by decide) (fun k3 => ?_) (fun k3 => absurd ((lg_cmp_eq _ _).mpr (hz)) k3)
    refine lv_goto (tgt := 1265) hx hb dL_law_1262 (by decide) ?_
    exact K ls hl
