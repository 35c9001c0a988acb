set_option maxHeartbeats 4000000 in
set_option maxRecDepth 100000 in
theorem lw_setPlan {p : Program} {l : Launch} {e : Env} {s : State} {m : MethodId} {below : List Frame} {meth : Method} {c : Code} {H : Heap} {locs : List Loc} {cells slots : Nat} {Q : State → Prop} {D : va_G} {cy : Nat → ClassId} {de b L : Nat} {xs : Nat → Int32} {ls : Array Slot} {tg mm ou T : Nat} {ma : Nat → Nat} {x4 : Int32} (hl0 : l.stackTraces = false) (C0 : lwC p s m c b L xs x4) (hT : T < 520) (hc : cells + 20 ≤ 601024) (hs : slots + 300 ≤ 7293034) {f : gFm} (hW : lwW cy de ou tg mm ma T f) (hI : gI D cy de (lwA s) s f H locs) (hl : lv_has ls 7 [(0, .ref b), (1, .ref tg), (2, .ref mm), (3, .ref ou), (4, .int x4)])
    (kk : ∀ (f1 : gFm) (H1 : Heap) (locs1 : List Loc) (ls1 : Array Slot), lwW cy de ou tg mm ma (T + 1) f1 → gI D cy de (lwA s) s f1 H1 locs1 → lv_has ls1 7 [(0, .ref b), (1, .ref tg), (2, .ref mm), (3, .ref ou), (4, .int x4)] → W p l e room_1 s m #[Value.ref b] below meth c H1 locs1 (cells + 20) (slots + 300) Q (F0 m 1265 ls1 [])) : W p l e room_1 s m #[Value.ref b] below meth c H locs cells slots Q (F0 m 132 ls []) := by
  obtain ⟨hx, hb, hml, hown, hts, hX, hbl, v1, v2, v3, v4⟩ := C0
  obtain ⟨N, I, M, fG, fM, y, tk, ⟨e0, hR, hd, hS⟩, hM, hdM, rfl⟩ := hW
  subst e0
  have hbA : ¬ lwA s b := Nat.not_le.mpr hbl
  obtain ⟨p1, q1⟩ : ∃ z : Int32, xs (x4 + 1).toNatClampNeg = z := ⟨_, rfl⟩
  obtain ⟨p2, q2⟩ : ∃ z : Int32, xs (x4 + 2).toNatClampNeg = z := ⟨_, rfl⟩
  obtain ⟨p3, q3⟩ : ∃ z : Int32, xs (x4 + 3).toNatClampNeg = z := ⟨_, rfl⟩
  obtain ⟨p4, q4⟩ : ∃ z : Int32, xs (x4 + 4).toNatClampNeg = z := ⟨_, rfl⟩
  refine lv_aload_n hx hb dL_law_132 rfl (lv_at hl 1 rfl) ?_
  refine lv_aload_n hx hb dL_law_133 rfl (lv_at hl 0 rfl) ?_
  refine lv_iload hx hb dL_law_134 (lv_at hl 4 rfl) ?_
  refine lv_iconst (v := 1) hx hb dL_law_136 (by decide) ?_
  refine lv_iadd hx hb dL_law_137 ?_
  refine lw_ld hx hb hX hbl hbA hI.2.1 v1 q1 dL_law_138 ?_
  refine lv_aload_n hx hb dL_law_139 rfl (lv_at hl 0 rfl) ?_
  refine lv_iload hx hb dL_law_140 (lv_at hl 4 rfl) ?_
  refine lv_iconst (v := 2) hx hb dL_law_142 (by decide) ?_
  refine lv_iadd hx hb dL_law_143 ?_
  refine lw_ld hx hb hX hbl hbA hI.2.1 v2 q2 dL_law_144 ?_
  refine lv_aload_n hx hb dL_law_145 rfl (lv_at hl 0 rfl) ?_
  refine lv_iload hx hb dL_law_146 (lv_at hl 4 rfl) ?_
  refine lv_iconst (v := 3) hx hb dL_law_148 (by decide) ?_
  refine lv_iadd hx hb dL_law_149 ?_
  refine lw_ld hx hb hX hbl hbA hI.2.1 v3 q3 dL_law_150 ?_
  refine lv_aload_n hx hb dL_law_151 rfl (lv_at hl 0 rfl) ?_
  refine lv_iload hx hb dL_law_152 (lv_at hl 4 rfl) ?_
  refine lv_iconst (v := 4) hx hb dL_law_154 (by decide) ?_
  refine lv_iadd hx hb dL_law_155 ?_
  refine lw_ld hx hb hX hbl hbA hI.2.1 v4 q4 dL_law_156 ?_
  refine g_calli hI (vx_runSW (As := [.ref (N 0 0), .int p1, .int p2, .int p3, .int p4]) (rest := []) ⟨hx, hb, hml, hown, hts⟩ (gMi_frame (d_setPlan l hl0 D cy de fG ou y N I p1 p2 p3 p4 hR hd hS hT) hdM H.size) (vx_cwSW 5 hts gL_law_L_setPlan rfl rfl rfl (by decide +kernel) ⟨Nat.le_of_ble_eq_true rfl, Nat.le_of_ble_eq_true rfl⟩) (g_preS hI) rfl rfl hl.1 rfl (lv_room (Nat.le_of_ble_eq_true rfl)) dL_law_157 ⟨by show cells + 4 ≤ 601024; omega, by show slots + 24 ≤ 7293034; omega⟩) (fun r1 f1 H locs hw hI => ?_)
  obtain ⟨a9, hA, e9, hdA⟩ := hw
  obtain ⟨N1, I1, fG1, y1, tk1, ⟨e1, hR1, hd1, e8⟩, hS1, h00, hZ⟩ := hA
  subst e8
  subst e9
  refine lv_istore (lv' := [(5, .int r1), (0, .ref b), (1, .ref (N 0 0)), (2, .ref mm), (3, .ref ou), (4, .int x4)]) hx hb dL_law_160 hl (by decide) rfl (fun ls hl => ?_)
  refine lv_aload_n hx hb dL_law_162 rfl (lv_at hl 3 rfl) ?_
  refine lv_aload_n hx hb dL_law_163 rfl (lv_at hl 1 rfl) ?_
  refine lv_iload hx hb dL_law_164 (lv_at hl 5 rfl) ?_
  refine lv_iconst (v := 1) hx hb dL_law_166 (by decide) ?_
  refine lv_iadd hx hb dL_law_167 ?_
  refine lw_ld hx hb hX hbl hbA hI.2.1 v1 q1 dL_law_168 ?_
  refine lv_aload_n hx hb dL_law_169 rfl (lv_at hl 1 rfl) ?_
  refine lv_iload hx hb dL_law_170 (lv_at hl 5 rfl) ?_
  refine lv_iconst (v := 2) hx hb dL_law_172 (by decide) ?_
  refine lv_iadd hx hb dL_law_173 ?_
  refine lw_ld hx hb hX hbl hbA hI.2.1 v2 q2 dL_law_174 ?_
  refine lv_aload_n hx hb dL_law_175 rfl (lv_at hl 1 rfl) ?_
  refine lv_iload hx hb dL_law_176 (lv_at hl 5 rfl) ?_
  refine lv_iconst (v := 3) hx hb dL_law_178 (by decide) ?_
  refine lv_iadd hx hb dL_law_179 ?_
  refine lw_ld hx hb hX hbl hbA hI.2.1 v3 q3 dL_law_180 ?_
  refine lv_aload_n hx hb dL_law_181 rfl (lv_at hl 1 rfl) ?_
  refine lv_iload hx hb dL_law_182 (lv_at hl 5 rfl) ?_
  refine lv_iconst (v := 4) hx hb dL_law_184 (by decide) ?_
  refine lv_iadd hx hb dL_law_185 ?_
  refine lw_ld hx hb hX hbl hbA hI.2.1 v4 q4 dL_law_186 ?_
  refine g_callv hI (va_runV (As := [.int p1, .int p2, .int p3, .int p4]) (rest := []) ⟨hx, hb, hml, hown, hts⟩ (gMv_frameR (c_X5_setPlan l D cy de fM mm ma M p1 p2 p3 p4 hM) hdA H.size) (cwV 4 hts gL_law_X5_setPlan rfl rfl rfl (by decide +kernel) ⟨Nat.le_of_ble_eq_true rfl, Nat.le_of_ble_eq_true rfl⟩) (g_preV hI (lw_mm hM hdA) rfl) rfl rfl hl.1 rfl (lv_room (Nat.le_of_ble_eq_true rfl)) dL_law_187 ⟨by show cells + 4 + 0 ≤ 601024; omega, by show slots + 24 + 0 ≤ 7293034; omega⟩) (fun f2 H locs hw hI => ?_)
  obtain ⟨fM1, hM1, e9, hdM1⟩ := hw
  subst e9
  refine lv_aload_n hx hb dL_law_190 rfl (lv_at hl 3 rfl) ?_
  refine g_calli hI (va_runV (As := []) (rest := []) ⟨hx, hb, hml, hown, hts⟩ (gMi_frameR (c_X5_thrown l D cy de fM1 mm ma _ hM1) hdM1 H.size) (cwV 0 hts gL_law_X5_thrown rfl rfl rfl (by decide +kernel) ⟨Nat.le_of_ble_eq_true rfl, Nat.le_of_ble_eq_true rfl⟩) (g_preV hI (lw_mm hM1 hdM1) rfl) rfl rfl hl.1 rfl (lv_room (Nat.le_of_ble_eq_true rfl)) dL_law_191 ⟨by show cells + 4 + 0 + 0 ≤ 601024; omega, by show slots + 24 + 0 + 0 ≤ 7293034; omega⟩) (fun r3 f3 H locs hw hI => ?_)
  obtain ⟨fM2, ⟨e3, hM2⟩, e9, hdM2⟩ := hw
  subst e9
  have K : ∀ ls1 : Array Slot, lv_has ls1 7 [(5, .int r1), (0, .ref b), (1, .ref (N 0 0)), (2, .ref mm), (3, .ref ou), (4, .int x4)] → W p l e room_1 s m #[Value.ref b] below meth c H locs (cells + 4 + 0 + 0) (slots + 24 + 0 + 0) Q (F0 m 1265 ls1 []) := fun ls1 hl1 => W.widen (by omega) (by omega) (kk _ H locs ls1 ⟨N1, I1, _, fG1, fM2, y1, tk1, ⟨e1, hR1, hd1, hS1⟩, hM2, hdM2, rfl⟩ hI (lv_sub hl1 [1, 2, 3, 4, 5] rfl))
  refine lv_iload hx hb dL_law_194 (lv_at hl 0 rfl) ?_
  refine lv_icmp_eq (tgt := 201) hx hb dL_law_196 (by decide) (fun k1 => ?_) (fun k1 => absurd (e3.trans h00) k1)
  refine lv_goto (tgt := 1265) hx hb dL_law_201 (by decide) ?_
  exact K ls hl
set_option maxHeartbeats 4000000 in
set_option maxRecDepth 100000 in
theorem lw_setRoute {p : Program} {l : Launch} {e : Env} {s : State} {m : MethodId} {below : List Frame} {meth : Method} {c : Code} {H : Heap} {locs : List Loc} {cells slots : Nat} {Q : State → Prop} {D : va_G} {cy : Nat → ClassId} {de b L : Nat} {xs : Nat → Int32} {ls : Array Slot} {tg mm ou T : Nat} {ma : Nat → Nat} {x4 : Int32} (hl0 : l.stackTraces = false) (C0 : lwC p s m c b L xs x4) (hT : T < 520) (hc : cells + 20 ≤ 601024) (hs : slots + 300 ≤ 7293034) {f : gFm} (hW : lwW cy de ou tg mm ma T f) (hI : gI D cy de (lwA s) s f H locs) (hl : lv_has ls 7 [(0, .ref b), (1, .ref tg), (2, .ref mm), (3, .ref ou), (4, .int x4)])
    (kk : ∀ (f1 : gFm) (H1 : Heap) (locs1 : List Loc) (ls1 : Array Slot), lwW cy de ou tg mm ma (T + 1) f1 → gI D cy de (lwA s) s f1 H1 locs1 → lv_has ls1 7 [(0, .ref b), (1, .ref tg), (2, .ref mm), (3, .ref ou), (4, .int x4)] → W p l e room_1 s m #[Value.ref b] below meth c H1 locs1 (cells + 20) (slots + 300) Q (F0 m 1265 ls1 [])) : W p l e room_1 s m #[Value.ref b] below meth c H locs cells slots Q (F0 m 204 ls []) := by
  obtain ⟨hx, hb, hml, hown, hts, hX, hbl, v1, v2, v3, v4⟩ := C0
  obtain ⟨N, I, M, fG, fM, y, tk, ⟨e0, hR, hd, hS⟩, hM, hdM, rfl⟩ := hW
  subst e0
  have hbA : ¬ lwA s b := Nat.not_le.mpr hbl
  obtain ⟨p1, q1⟩ : ∃ z : Int32, xs (x4 + 1).toNatClampNeg = z := ⟨_, rfl⟩
  obtain ⟨p2, q2⟩ : ∃ z : Int32, xs (x4 + 2).toNatClampNeg = z := ⟨_, rfl⟩
  obtain ⟨p3, q3⟩ : ∃ z : Int32, xs (x4 + 3).toNatClampNeg = z := ⟨_, rfl⟩
  refine lv_aload_n hx hb dL_law_204 rfl (lv_at hl 1 rfl) ?_
  refine lv_aload_n hx hb dL_law_205 rfl (lv_at hl 0 rfl) ?_
  refine lv_iload hx hb dL_law_206 (lv_at hl 4 rfl) ?_
  refine lv_iconst (v := 1) hx hb dL_law_208 (by decide) ?_
  refine lv_iadd hx hb dL_law_209 ?_
  refine lw_ld hx hb hX hbl hbA hI.2.1 v1 q1 dL_law_210 ?_
  refine lv_aload_n hx hb dL_law_211 rfl (lv_at hl 0 rfl) ?_
  refine lv_iload hx hb dL_law_212 (lv_at hl 4 rfl) ?_
  refine lv_iconst (v := 2) hx hb dL_law_214 (by decide) ?_
  refine lv_iadd hx hb dL_law_215 ?_
  refine lw_ld hx hb hX hbl hbA hI.2.1 v2 q2 dL_law_216 ?_
  refine lv_aload_n hx hb dL_law_217 rfl (lv_at hl 0 rfl) ?_
  refine lv_iload hx hb dL_law_218 (lv_at hl 4 rfl) ?_
  refine lv_iconst (v := 3) hx hb dL_law_220 (by decide) ?_
  refine lv_iadd hx hb dL_law_221 ?_
  refine lw_ld hx hb hX hbl hbA hI.2.1 v3 q3 dL_law_222 ?_
  refine g_calli hI (vx_runSW (As := [.ref (N 0 0), .int p1, .int p2, .int p3]) (rest := []) ⟨hx, hb, hml, hown, hts⟩ (gMi_frame (d_setRoute l hl0 D cy de fG ou y N I p1 p2 p3 hR hd hS hT) hdM H.size) (vx_cwSW 4 hts gL_law_L_setRoute rfl rfl rfl (by decide +kernel) ⟨Nat.le_of_ble_eq_true rfl, Nat.le_of_ble_eq_true rfl⟩) (g_preS hI) rfl rfl hl.1 rfl (lv_room (Nat.le_of_ble_eq_true rfl)) dL_law_223 ⟨by show cells + 3 ≤ 601024; omega, by show slots + 18 ≤ 7293034; omega⟩) (fun r1 f1 H locs hw hI => ?_)
  obtain ⟨a9, hA, e9, hdA⟩ := hw
  obtain ⟨N1, I1, fG1, y1, tk1, ⟨e1, hR1, hd1, e8⟩, hS1, h00, hZ⟩ := hA
  subst e8
  subst e9
  refine lv_istore (lv' := [(5, .int r1), (0, .ref b), (1, .ref (N 0 0)), (2, .ref mm), (3, .ref ou), (4, .int x4)]) hx hb dL_law_226 hl (by decide) rfl (fun ls hl => ?_)
  refine lv_aload_n hx hb dL_law_228 rfl (lv_at hl 3 rfl) ?_
  refine lv_aload_n hx hb dL_law_229 rfl (lv_at hl 1 rfl) ?_
  refine lv_iload hx hb dL_law_230 (lv_at hl 5 rfl) ?_
  refine lv_iconst (v := 1) hx hb dL_law_232 (by decide) ?_
  refine lv_iadd hx hb dL_law_233 ?_
  refine lw_ld hx hb hX hbl hbA hI.2.1 v1 q1 dL_law_234 ?_
  refine lv_aload_n hx hb dL_law_235 rfl (lv_at hl 1 rfl) ?_
  refine lv_iload hx hb dL_law_236 (lv_at hl 5 rfl) ?_
  refine lv_iconst (v := 2) hx hb dL_law_238 (by decide) ?_
  refine lv_iadd hx hb dL_law_239 ?_
  refine lw_ld hx hb hX hbl hbA hI.2.1 v2 q2 dL_law_240 ?_
  refine lv_aload_n hx hb dL_law_241 rfl (lv_at hl 1 rfl) ?_
  refine lv_iload hx hb dL_law_242 (lv_at hl 5 rfl) ?_
  refine lv_iconst (v := 3) hx hb dL_law_244 (by decide) ?_
  refine lv_iadd hx hb dL_law_245 ?_
  refine lw_ld hx hb hX hbl hbA hI.2.1 v3 q3 dL_law_246 ?_
  refine g_callv hI (va_runV (As := [.int p1, .int p2, .int p3]) (rest := []) ⟨hx, hb, hml, hown, hts⟩ (gMv_frameR (c_X5_setRoute l D cy de fM mm ma M p1 p2 p3 hM) hdA H.size) (cwV 3 hts gL_law_X5_setRoute rfl rfl rfl (by decide +kernel) ⟨Nat.le_of_ble_eq_true rfl, Nat.le_of_ble_eq_true rfl⟩) (g_preV hI (lw_mm hM hdA) rfl) rfl rfl hl.1 rfl (lv_room (Nat.le_of_ble_eq_true rfl)) dL_law_247 ⟨by show cells + 3 + 0 ≤ 601024; omega, by show slots + 18 + 0 ≤ 7293034; omega⟩) (fun f2 H locs hw hI => ?_)
  obtain ⟨fM1, hM1, e9, hdM1⟩ := hw
  subst e9
  refine lv_aload_n hx hb dL_law_250 rfl (lv_at hl 3 rfl) ?_
  refine g_calli hI (va_runV (As := []) (rest := []) ⟨hx, hb, hml, hown, hts⟩ (gMi_frameR (c_X5_thrown l D cy de fM1 mm ma _ hM1) hdM1 H.size) (cwV 0 hts gL_law_X5_thrown rfl rfl rfl (by decide +kernel) ⟨Nat.le_of_ble_eq_true rfl, Nat.le_of_ble_eq_true rfl⟩) (g_preV hI (lw_mm hM1 hdM1) rfl) rfl rfl hl.1 rfl (lv_room (Nat.le_of_ble_eq_true rfl)) dL_law_251 ⟨by show cells + 3 + 0 + 0 ≤ 601024; omega, by show slots + 18 + 0 + 0 ≤ 7293034; omega⟩) (fun r3 f3 H locs hw hI => ?_)
  obtain ⟨fM2, ⟨e3, hM2⟩, e9, hdM2⟩ := hw
  subst e9
  have K : ∀ ls1 : Array Slot, lv_has ls1 7 [(5, .int r1), (0, .ref b), (1, .ref (N 0 0)), (2, .ref mm), (3, .ref ou), (4, .int x4)] → W p l e room_1 s m #[Value.ref b] below meth c H locs (cells + 3 + 0 + 0) (slots + 18 + 0 + 0) Q (F0 m 1265 ls1 []) := fun ls1 hl1 => W.widen (by omega) (by omega) (kk _ H locs ls1 ⟨N1, I1, _, fG1, fM2, y1, tk1, ⟨e1, hR1, hd1, hS1⟩, hM2, hdM2, rfl⟩ hI (lv_sub hl1 [1, 2, 3, 4, 5] rfl))
  refine lv_iload hx hb dL_law_254 (lv_at hl 0 rfl) ?_
  refine lv_icmp_eq (tgt := 261) hx hb dL_law_256 (by decide) (fun k1 => ?_) (fun k1 => absurd (e3.trans h00) k1)
  refine lv_goto (tgt := 1265) hx hb dL_law_261 (by decide) ?_
  exact K ls hl
set_option maxHeartbeats 4000000 in
set_option maxRecDepth 100000 in
theorem lw_addKey {p : Program} {l : Launch} {e : Env} {s : State} {m : MethodId} {below : List Frame} {meth : Method} {c : Code} {H : Heap} {locs : List Loc} {cells slots : Nat} {Q : State → Prop} {D : va_G} {cy : Nat → ClassId} {de b L : Nat} {xs : Nat → Int32} {ls : Array Slot} {tg mm ou T : Nat} {ma : Nat → Nat} {x4 : Int32} (hl0 : l.stackTraces = false) (C0 : lwC p s m c b L xs x4) (hT : T < 520) (hc : cells + 20 ≤ 601024) (hs : slots + 300 ≤ 7293034) {f : gFm} (hW : lwW cy de ou tg mm ma T f) (hI : gI D cy de (lwA s) s f H locs) (hl : lv_has ls 7 [(0, .ref b), (1, .ref tg), (2, .ref mm), (3, .ref ou), (4, .int x4)])
    (kk : ∀ (f1 : gFm) (H1 : Heap) (locs1 : List Loc) (ls1 : Array Slot), lwW cy de ou tg mm ma (T + 1) f1 → gI D cy de (lwA s) s f1 H1 locs1 → lv_has ls1 7 [(0, .ref b), (1, .ref tg), (2, .ref mm), (3, .ref ou), (4, .int x4)] → W p l e room_1 s m #[Value.ref b] below meth c H1 locs1 (cells + 20) (slots + 300) Q (F0 m 1265 ls1 [])) : W p l e room_1 s m #[Value.ref b] below meth c H locs cells slots Q (F0 m 264 ls []) := by
  obtain ⟨hx, hb, hml, hown, hts, hX, hbl, v1, v2, v3, v4⟩ := C0
  obtain ⟨N, I, M, fG, fM, y, tk, ⟨e0, hR, hd, hS⟩, hM, hdM, rfl⟩ := hW
  subst e0
  have hbA : ¬ lwA s b := Nat.not_le.mpr hbl
  obtain ⟨p1, q1⟩ : ∃ z : Int32, xs (x4 + 1).toNatClampNeg = z := ⟨_, rfl⟩
  refine lv_aload_n hx hb dL_law_264 rfl (lv_at hl 1 rfl) ?_
  refine lv_aload_n hx hb dL_law_265 rfl (lv_at hl 0 rfl) ?_
  refine lv_iload hx hb dL_law_266 (lv_at hl 4 rfl) ?_
  refine lv_iconst (v := 1) hx hb dL_law_268 (by decide) ?_
  refine lv_iadd hx hb dL_law_269 ?_
  refine lw_ld hx hb hX hbl hbA hI.2.1 v1 q1 dL_law_270 ?_
  refine lv_aload_n hx hb dL_law_271 rfl (lv_at hl 3 rfl) ?_
  refine g_calli hI (vx_runSW (As := [.ref (N 0 0), .int p1, .ref ou]) (rest := []) ⟨hx, hb, hml, hown, hts⟩ (gMi_frame (d_addKey l hl0 D cy de fG ou y N I p1 hR hd hS hT) hdM H.size) (vx_cwSW 3 hts gL_law_L_addKey rfl rfl rfl (by decide +kernel) ⟨Nat.le_of_ble_eq_true rfl, Nat.le_of_ble_eq_true rfl⟩) (g_preS hI) rfl rfl hl.1 rfl (lv_room (Nat.le_of_ble_eq_true rfl)) dL_law_272 ⟨by show cells + 3 ≤ 601024; omega, by show slots + 215 ≤ 7293034; omega⟩) (fun r1 f1 H locs hw hI => ?_)
  obtain ⟨a9, hA, e9, hdA⟩ := hw
  obtain ⟨N1, I1, fG1, y1, tk1, ⟨e1, hR1, hd1, e8⟩, hS1, h00, hZ⟩ := hA
  subst e8
  subst e9
  refine lv_istore (lv' := [(5, .int r1), (0, .ref b), (1, .ref (N 0 0)), (2, .ref mm), (3, .ref ou), (4, .int x4)]) hx hb dL_law_275 hl (by decide) rfl (fun ls hl => ?_)
  refine lv_aload_n hx hb dL_law_277 rfl (lv_at hl 3 rfl) ?_
  refine lv_aload_n hx hb dL_law_278 rfl (lv_at hl 1 rfl) ?_
  refine lv_iload hx hb dL_law_279 (lv_at hl 5 rfl) ?_
  refine lv_iconst (v := 1) hx hb dL_law_281 (by decide) ?_
  refine lv_iadd hx hb dL_law_282 ?_
  refine lw_ld hx hb hX hbl hbA hI.2.1 v1 q1 dL_law_283 ?_
  refine g_calli hI (va_runV (As := [.int p1]) (rest := []) ⟨hx, hb, hml, hown, hts⟩ (gMi_frameR (c_X5_addKey l D cy de fM mm ma M p1 (N 0 7) (N 0 8) (Sim_ok hS) hM) hdA H.size) (cwV 1 hts gL_law_X5_addKey rfl rfl rfl (by decide +kernel) ⟨Nat.le_of_ble_eq_true rfl, Nat.le_of_ble_eq_true rfl⟩) (g_preV hI (lw_mm hM hdA) rfl) rfl rfl hl.1 rfl (lv_room (Nat.le_of_ble_eq_true rfl)) dL_law_284 ⟨by show cells + 3 + 0 ≤ 601024; omega, by show slots + 215 + 0 ≤ 7293034; omega⟩) (fun r2 f2 H locs hw hI => ?_)
  obtain ⟨fM1, ⟨e2, hM1⟩, e9, hdM1⟩ := hw
  subst e9
  refine lv_istore (lv' := [(6, .int r2), (5, .int r1), (0, .ref b), (1, .ref (N 0 0)), (2, .ref mm), (3, .ref ou), (4, .int x4)]) hx hb dL_law_287 hl (by decide) rfl (fun ls hl => ?_)
  refine lv_aload_n hx hb dL_law_289 rfl (lv_at hl 4 rfl) ?_
  refine g_calli hI (va_runV (As := []) (rest := []) ⟨hx, hb, hml, hown, hts⟩ (gMi_frameR (c_X5_thrown l D cy de fM1 mm ma _ hM1) hdM1 H.size) (cwV 0 hts gL_law_X5_thrown rfl rfl rfl (by decide +kernel) ⟨Nat.le_of_ble_eq_true rfl, Nat.le_of_ble_eq_true rfl⟩) (g_preV hI (lw_mm hM1 hdM1) rfl) rfl rfl hl.1 rfl (lv_room (Nat.le_of_ble_eq_true rfl)) dL_law_290 ⟨by show cells + 3 + 0 + 0 ≤ 601024; omega, by show slots + 215 + 0 + 0 ≤ 7293034; omega⟩) (fun r3 f3 H locs hw hI => ?_)
  obtain ⟨fM2, ⟨e3, hM2⟩, e9, hdM2⟩ := hw
  subst e9
  have K : ∀ ls1 : Array Slot, lv_has ls1 7 [(6, .int r2), (5, .int r1), (0, .ref b), (1, .ref (N 0 0)), (2, .ref mm), (3, .ref ou), (4, .int x4)] → W p l e room_1 s m #[Value.ref b] below meth c H locs (cells + 3 + 0 + 0) (slots + 215 + 0 + 0) Q (F0 m 1265 ls1 []) := fun ls1 hl1 => W.widen (by omega) (by omega) (kk _ H locs ls1 ⟨N1, I1, _, fG1, fM2, y1, tk1, ⟨e1, hR1, hd1, hS1⟩, hM2, hdM2, rfl⟩ hI (lv_sub hl1 [2, 3, 4, 5, 6] rfl))
  refine lv_iload hx hb dL_law_293 (lv_at hl 1 rfl) ?_
  refine lv_icmp_eq (tgt := 300) hx hb dL_law_295 (by decide) (fun k1 => ?_) (fun k1 => absurd (e3.trans h00) k1)
  refine lv_iload hx hb dL_law_300 (lv_at hl 1 rfl) ?_
  refine lv_if_ne (tgt := 317) hx hb dL_law_302 (by decide) (fun k2 => ?_) (fun k2 => ?_)
  · refine lv_goto (tgt := 1265) hx hb dL_law_317 (by decide) ?_
    exact K ls hl
  · have hz := hZ k2
    rw [← e2] at hz
    refine lv_aload_n hx hb dL_law_305 rfl (lv_at hl 5 rfl) ?_
    refine lv_iconst (v := 0) hx hb dL_law_306 (by decide) ?_
    refine g_lald (n := 1) (x := y1) hx hb hI (gJ_l (gO_at hd1)) (by unfold vp_in; decide) dL_law_307 ?_
    refine lv_iload hx hb dL_law_308 (lv_at hl 0 rfl) ?_
    refine lv_i2l (v := Int32.toInt64 r2) hx hb dL_law_310 rfl ?_
    refine W.lcmp hx hb dL_law_311 ?_
    refine lv_if_eq (tgt := 317) hx hb dL_law_312 (by decide) (fun k3 => ?_) (fun k3 => absurd ((lg_cmp_eq _ _).mpr (hz)) k3)
    refine lv_goto (tgt := 1265) hx hb dL_law_317 (by decide) ?_
    exact K ls hl
set_option maxHeartbeats 4000000 in
set_option maxRecDepth 100000 in
theorem lw_setKeyPlan {p : Program} {l : Launch} {e : Env} {s : State} {m : MethodId} {below : List Frame} {meth : Method} {c : Code} {H : Heap} {locs : List Loc} {cells slots : Nat} {Q : State → Prop} {D : va_G} {cy : Nat → ClassId} {de b L : Nat} {xs : Nat → Int32} {ls : Array Slot} {tg mm ou T : Nat} {ma : Nat → Nat} {x4 : Int32} (hl0 : l.stackTraces = false) (C0 : lwC p s m c b L xs x4) (hT : T < 520) (hc : cells + 20 ≤ 601024) (hs : slots + 300 ≤ 7293034) {f : gFm} (hW : lwW cy de ou tg mm ma T f) (hI : gI D cy de (lwA s) s f H locs) (hl : lv_has ls 7 [(0, .ref b), (1, .ref tg), (2, .ref mm), (3, .ref ou), (4, .int x4)])
    (kk : ∀ (f1 : gFm) (H1 : Heap) (locs1 : List Loc) (ls1 : Array Slot), lwW cy de ou tg mm ma (T + 1) f1 → gI D cy de (lwA s) s f1 H1 locs1 → lv_has ls1 7 [(0, .ref b), (1, .ref tg), (2, .ref mm), (3, .ref ou), (4, .int x4)] → W p l e room_1 s m #[Value.ref b] below meth c H1 locs1 (cells + 20) (slots + 300) Q (F0 m 1265 ls1 [])) : W p l e room_1 s m #[Value.ref b] below meth c H locs cells slots Q (F0 m 320 ls []) := by
  obtain ⟨hx, hb, hml, hown, hts, hX, hbl, v1, v2, v3, v4⟩ := C0
  obtain ⟨N, I, M, fG, fM, y, tk, ⟨e0, hR, hd, hS⟩, hM, hdM, rfl⟩ := hW
  subst e0
  have hbA : ¬ lwA s b := Nat.not_le.mpr hbl
  obtain ⟨p1, q1⟩ : ∃ z : Int32, xs (x4 + 1).toNatClampNeg = z := ⟨_, rfl⟩
  obtain ⟨p2, q2⟩ : ∃ z : Int32, xs (x4 + 2).toNatClampNeg = z := ⟨_, rfl⟩
  refine lv_aload_n hx hb dL_law_320 rfl (lv_at hl 1 rfl) ?_
  refine lv_aload_n hx hb dL_law_321 rfl (lv_at hl 0 rfl) ?_
  refine lv_iload hx hb dL_law_322 (lv_at hl 4 rfl) ?_
  refine lv_iconst (v := 1) hx hb dL_law_324 (by decide) ?_
  refine lv_iadd hx hb dL_law_325 ?_
  refine lw_ld hx hb hX hbl hbA hI.2.1 v1 q1 dL_law_326 ?_
  refine lv_aload_n hx hb dL_law_327 rfl (lv_at hl 0 rfl) ?_
  refine lv_iload hx hb dL_law_328 (lv_at hl 4 rfl) ?_
  refine lv_iconst (v := 2) hx hb dL_law_330 (by decide) ?_
  refine lv_iadd hx hb dL_law_331 ?_
  refine lw_ld hx hb hX hbl hbA hI.2.1 v2 q2 dL_law_332 ?_
  refine lv_aload_n hx hb dL_law_333 rfl (lv_at hl 3 rfl) ?_
  refine g_calli hI (vx_runSW (As := [.ref (N 0 0), .int p1, .int p2, .ref ou]) (rest := []) ⟨hx, hb, hml, hown, hts⟩ (gMi_frame (d_setKeyPlan l hl0 D cy de fG ou y N I p1 p2 hR hd hS hT) hdM H.size) (vx_cwSW 4 hts gL_law_L_setKeyPlan rfl rfl rfl (by decide +kernel) ⟨Nat.le_of_ble_eq_true rfl, Nat.le_of_ble_eq_true rfl⟩) (g_preS hI) rfl rfl hl.1 rfl (lv_room (Nat.le_of_ble_eq_true rfl)) dL_law_334 ⟨by show cells + 2 ≤ 601024; omega, by show slots + 12 ≤ 7293034; omega⟩) (fun r1 f1 H locs hw hI => ?_)
  obtain ⟨a9, hA, e9, hdA⟩ := hw
  obtain ⟨N1, I1, fG1, y1, tk1, ⟨e1, hR1, hd1, e8⟩, hS1, h00, hZ⟩ := hA
  subst e8
  subst e9
  refine lv_istore (lv' := [(5, .int r1), (0, .ref b), (1, .ref (N 0 0)), (2, .ref mm), (3, .ref ou), (4, .int x4)]) hx hb dL_law_337 hl (by decide) rfl (fun ls hl => ?_)
  refine lv_aload_n hx hb dL_law_339 rfl (lv_at hl 3 rfl) ?_
  refine lv_aload_n hx hb dL_law_340 rfl (lv_at hl 1 rfl) ?_
  refine lv_iload hx hb dL_law_341 (lv_at hl 5 rfl) ?_
  refine lv_iconst (v := 1) hx hb dL_law_343 (by decide) ?_
  refine lv_iadd hx hb dL_law_344 ?_
  refine lw_ld hx hb hX hbl hbA hI.2.1 v1 q1 dL_law_345 ?_
  refine lv_aload_n hx hb dL_law_346 rfl (lv_at hl 1 rfl) ?_
  refine lv_iload hx hb dL_law_347 (lv_at hl 5 rfl) ?_
  refine lv_iconst (v := 2) hx hb dL_law_349 (by decide) ?_
  refine lv_iadd hx hb dL_law_350 ?_
  refine lw_ld hx hb hX hbl hbA hI.2.1 v2 q2 dL_law_351 ?_
  refine g_calli hI (va_runV (As := [.int p1, .int p2]) (rest := []) ⟨hx, hb, hml, hown, hts⟩ (gMi_frameR (c_X5_setKeyPlan l D cy de fM mm ma M p1 p2 (N 0 7) (N 0 8) (Sim_ok hS) hM) hdA H.size) (cwV 2 hts gL_law_X5_setKeyPlan rfl rfl rfl (by decide +kernel) ⟨Nat.le_of_ble_eq_true rfl, Nat.le_of_ble_eq_true rfl⟩) (g_preV hI (lw_mm hM hdA) rfl) rfl rfl hl.1 rfl (lv_room (Nat.le_of_ble_eq_true rfl)) dL_law_352 ⟨by show cells + 2 + 0 ≤ 601024; omega, by show slots + 12 + 0 ≤ 7293034; omega⟩) (fun r2 f2 H locs hw hI => ?_)
  obtain ⟨fM1, ⟨e2, hM1⟩, e9, hdM1⟩ := hw
  subst e9
  refine lv_istore (lv' := [(6, .int r2), (5, .int r1), (0, .ref b), (1, .ref (N 0 0)), (2, .ref mm), (3, .ref ou), (4, .int x4)]) hx hb dL_law_355 hl (by decide) rfl (fun ls hl => ?_)
  refine lv_aload_n hx hb dL_law_357 rfl (lv_at hl 4 rfl) ?_
  refine g_calli hI (va_runV (As := []) (rest := []) ⟨hx, hb, hml, hown, hts⟩ (gMi_frameR (c_X5_thrown l D cy de fM1 mm ma _ hM1) hdM1 H.size) (cwV 0 hts gL_law_X5_thrown rfl rfl rfl (by decide +kernel) ⟨Nat.le_of_ble_eq_true rfl, Nat.le_of_ble_eq_true rfl⟩) (g_preV hI (lw_mm hM1 hdM1) rfl) rfl rfl hl.1 rfl (lv_room (Nat.le_of_ble_eq_true rfl)) dL_law_358 ⟨by show cells + 2 + 0 + 0 ≤ 601024; omega, by show slots + 12 + 0 + 0 ≤ 7293034; omega⟩) (fun r3 f3 H locs hw hI => ?_)
  obtain ⟨fM2, ⟨e3, hM2⟩, e9, hdM2⟩ := hw
  subst e9
  have K : ∀ ls1 : Array Slot, lv_has ls1 7 [(6, .int r2), (5, .int r1), (0, .ref b), (1, .ref (N 0 0)), (2, .ref mm), (3, .ref ou), (4, .int x4)] → W p l e room_1 s m #[Value.ref b] below meth c H locs (cells + 2 + 0 + 0) (slots + 12 + 0 + 0) Q (F0 m 1265 ls1 []) := fun ls1 hl1 => W.widen (by omega) (by omega) (kk _ H locs ls1 ⟨N1, I1, _, fG1, fM2, y1, tk1, ⟨e1, hR1, hd1, hS1⟩, hM2, hdM2, rfl⟩ hI (lv_sub hl1 [2, 3, 4, 5, 6] rfl))
  refine lv_iload hx hb dL_law_361 (lv_at hl 1 rfl) ?_
  refine lv_icmp_eq (tgt := 368) hx hb dL_law_363 (by decide) (fun k1 => ?_) (fun k1 => absurd (e3.trans h00) k1)
  refine lv_iload hx hb dL_law_368 (lv_at hl 1 rfl) ?_
  refine lv_if_ne (tgt := 385) hx hb dL_law_370 (by decide) (fun k2 => ?_) (fun k2 => ?_)
  · refine lv_goto (tgt := 1265) hx hb dL_law_385 (by decide) ?_
    exact K ls hl
  · have hz := hZ k2
    rw [← e2] at hz
    refine lv_aload_n hx hb dL_law_373 rfl (lv_at hl 5 rfl) ?_
    refine lv_iconst (v := 0) hx hb dL_law_374 (by decide) ?_
    refine g_lald (n := 1) (x := y1) hx hb hI (gJ_l (gO_at hd1)) (by unfold vp_in; decide) dL_law_375 ?_
    refine lv_iload hx hb dL_law_376 (lv_at hl 0 rfl) ?_
    refine lv_i2l (v := Int32.toInt64 r2) hx hb dL_law_378 rfl ?_
    refine W.lcmp hx hb dL_law_379 ?_
    refine lv_if_eq (tgt := 385) hx hb dL_law_380 (by decide) (fun k3 => ?_) (fun k3 => absurd ((lg_cmp_eq _ _).mpr (hz)) k3)
    refine lv_goto (tgt := 1265) hx hb dL_law_385 (by decide) ?_
    exact K ls hl
set_option maxHeartbeats 4000000 in
set_option maxRecDepth 100000 in
theorem lw_setTrust {p : Program} {l : Launch} {e : Env} {s : State} {m : MethodId} {below : List Frame} {meth : Method} {c : Code} {H : Heap} {locs : List Loc} {cells slots : Nat} {Q : State → Prop} {D : va_G} {cy : Nat → ClassId} {de b L : Nat} {xs : Nat → Int32} {ls : Array Slot} {tg mm ou T : Nat} {ma : Nat → Nat} {x4 : Int32} (hl0 : l.stackTraces = false) (C0 : lwC p s m c b L xs x4) (hT : T < 520) (hc : cells + 20 ≤ 601024) (hs : slots + 300 ≤ 7293034) {f : gFm} (hW : lwW cy de ou tg mm ma T f) (hI : gI D cy de (lwA s) s f H locs) (hl : lv_has ls 7 [(0, .ref b), (1, .ref tg), (2, .ref mm), (3, .ref ou), (4, .int x4)])
    (kk : ∀ (f1 : gFm) (H1 : Heap) (locs1 : List Loc) (ls1 : Array Slot), lwW cy de ou tg mm ma (T + 1) f1 → gI D cy de (lwA s) s f1 H1 locs1 → lv_has ls1 7 [(0, .ref b), (1, .ref tg), (2, .ref mm), (3, .ref ou), (4, .int x4)] → W p l e room_1 s m #[Value.ref b] below meth c H1 locs1 (cells + 20) (slots + 300) Q (F0 m 1265 ls1 [])) : W p l e room_1 s m #[Value.ref b] below meth c H locs cells slots Q (F0 m 388 ls []) := by
  obtain ⟨hx, hb, hml, hown, hts, hX, hbl, v1, v2, v3, v4⟩ := C0
  obtain ⟨N, I, M, fG, fM, y, tk, ⟨e0, hR, hd, hS⟩, hM, hdM, rfl⟩ := hW
  subst e0
  have hbA : ¬ lwA s b := Nat.not_le.mpr hbl
  obtain ⟨p1, q1⟩ : ∃ z : Int32, xs (x4 + 1).toNatClampNeg = z := ⟨_, rfl⟩
  obtain ⟨p2, q2⟩ : ∃ z : Int32, xs (x4 + 2).toNatClampNeg = z := ⟨_, rfl⟩
  refine lv_aload_n hx hb dL_law_388 rfl (lv_at hl 1 rfl) ?_
  refine lv_aload_n hx hb dL_law_389 rfl (lv_at hl 0 rfl) ?_
  refine lv_iload hx hb dL_law_390 (lv_at hl 4 rfl) ?_
  refine lv_iconst (v := 1) hx hb dL_law_392 (by decide) ?_
  refine lv_iadd hx hb dL_law_393 ?_
  refine lw_ld hx hb hX hbl hbA hI.2.1 v1 q1 dL_law_394 ?_
  refine lv_aload_n hx hb dL_law_395 rfl (lv_at hl 0 rfl) ?_
  refine lv_iload hx hb dL_law_396 (lv_at hl 4 rfl) ?_
  refine lv_iconst (v := 2) hx hb dL_law_398 (by decide) ?_
  refine lv_iadd hx hb dL_law_399 ?_
  refine lw_ld hx hb hX hbl hbA hI.2.1 v2 q2 dL_law_400 ?_
  refine lv_aload_n hx hb dL_law_401 rfl (lv_at hl 3 rfl) ?_
  refine g_calli hI (vx_runSW (As := [.ref (N 0 0), .int p1, .int p2, .ref ou]) (rest := []) ⟨hx, hb, hml, hown, hts⟩ (gMi_frame (d_setTrust l hl0 D cy de fG ou y N I p1 p2 hR hd hS hT) hdM H.size) (vx_cwSW 4 hts gL_law_L_setTrust rfl rfl rfl (by decide +kernel) ⟨Nat.le_of_ble_eq_true rfl, Nat.le_of_ble_eq_true rfl⟩) (g_preS hI) rfl rfl hl.1 rfl (lv_room (Nat.le_of_ble_eq_true rfl)) dL_law_402 ⟨by show cells + 2 ≤ 601024; omega, by show slots + 12 ≤ 7293034; omega⟩) (fun r1 f1 H locs hw hI => ?_)
  obtain ⟨a9, hA, e9, hdA⟩ := hw
  obtain ⟨N1, I1, fG1, y1, tk1, ⟨e1, hR1, hd1, e8⟩, hS1, h00, hZ⟩ := hA
  subst e8
  subst e9
  refine lv_istore (lv' := [(5, .int r1), (0, .ref b), (1, .ref (N 0 0)), (2, .ref mm), (3, .ref ou), (4, .int x4)]) hx hb dL_law_405 hl (by decide) rfl (fun ls hl => ?_)
  refine lv_aload_n hx hb dL_law_407 rfl (lv_at hl 3 rfl) ?_
  refine lv_aload_n hx hb dL_law_408 rfl (lv_at hl 1 rfl) ?_
  refine lv_iload hx hb dL_law_409 (lv_at hl 5 rfl) ?_
  refine lv_iconst (v := 1) hx hb dL_law_411 (by decide) ?_
  refine lv_iadd hx hb dL_law_412 ?_
  refine lw_ld hx hb hX hbl hbA hI.2.1 v1 q1 dL_law_413 ?_
  refine lv_aload_n hx hb dL_law_414 rfl (lv_at hl 1 rfl) ?_
  refine lv_iload hx hb dL_law_415 (lv_at hl 5 rfl) ?_
  refine lv_iconst (v := 2) hx hb dL_law_417 (by decide) ?_
  refine lv_iadd hx hb dL_law_418 ?_
  refine lw_ld hx hb hX hbl hbA hI.2.1 v2 q2 dL_law_419 ?_
  refine g_calli hI (va_runV (As := [.int p1, .int p2]) (rest := []) ⟨hx, hb, hml, hown, hts⟩ (gMi_frameR (c_X5_setTrust l D cy de fM mm ma M p1 p2 (N 0 7) (N 0 8) (Sim_ok hS) hM) hdA H.size) (cwV 2 hts gL_law_X5_setTrust rfl rfl rfl (by decide +kernel) ⟨Nat.le_of_ble_eq_true rfl, Nat.le_of_ble_eq_true rfl⟩) (g_preV hI (lw_mm hM hdA) rfl) rfl rfl hl.1 rfl (lv_room (Nat.le_of_ble_eq_true rfl)) dL_law_420 ⟨by show cells + 2 + 0 ≤ 601024; omega, by show slots + 12 + 0 ≤ 7293034; omega⟩) (fun r2 f2 H locs hw hI => ?_)
  obtain ⟨fM1, ⟨e2, hM1⟩, e9, hdM1⟩ := hw
  subst e9
  refine lv_istore (lv' := [(6, .int r2), (5, .int r1), (0, .ref b), (1, .ref (N 0 0)), (2, .ref mm), (3, .ref ou), (4, .int x4)]) hx hb dL_law_423 hl (by decide) rfl (fun ls hl => ?_)
  refine lv_aload_n hx hb dL_law_425 rfl (lv_at hl 4 rfl) ?_
  refine g_calli hI (va_runV (As := []) (rest := []) ⟨hx, hb, hml, hown, hts⟩ (gMi_frameR (c_X5_thrown l D cy de fM1 mm ma _ hM1) hdM1 H.size) (cwV 0 hts gL_law_X5_thrown rfl rfl rfl (by decide +kernel) ⟨Nat.le_of_ble_eq_true rfl, Nat.le_of_ble_eq_true rfl⟩) (g_preV hI (lw_mm hM1 hdM1) rfl) rfl rfl hl.1 rfl (lv_room (Nat.le_of_ble_eq_true rfl)) dL_law_426 ⟨by show cells + 2 + 0 + 0 ≤ 601024; omega, by show slots + 12 + 0 + 0 ≤ 7293034; omega⟩) (fun r3 f3 H locs hw hI => ?_)
  obtain ⟨fM2, ⟨e3, hM2⟩, e9, hdM2⟩ := hw
  subst e9
  have K : ∀ ls1 : Array Slot, lv_has ls1 7 [(6, .int r2), (5, .int r1), (0, .ref b), (1, .ref (N 0 0)), (2, .ref mm), (3, .ref ou), (4, .int x4)] → W p l e room_1 s m #[Value.ref b] below meth c H locs (cells + 2 + 0 + 0) (slots + 12 + 0 + 0) Q (F0 m 1265 ls1 []) := fun ls1 hl1 => W.widen (by omega) (by omega) (kk _ H locs ls1 ⟨N1, I1, _, fG1, fM2, y1, tk1, ⟨e1, hR1, hd1, hS1⟩, hM2, hdM2, rfl⟩ hI (lv_sub hl1 [2, 3, 4, 5, 6] rfl))
  refine lv_iload hx hb dL_law_429 (lv_at hl 1 rfl) ?_
  refine lv_icmp_eq (tgt := 436) hx hb dL_law_431 (by decide) (fun k1 => ?_) (fun k1 => absurd (e3.trans h00) k1)
  refine lv_iload hx hb dL_law_436 (lv_at hl 1 rfl) ?_
  refine lv_if_ne (tgt := 453) hx hb dL_law_438 (by decide) (fun k2 => ?_) (fun k2 => ?_)
  · refine lv_goto (tgt := 1265) hx hb dL_law_453 (by decide) ?_
    exact K ls hl
  · have hz := hZ k2
    rw [← e2] at hz
    refine lv_aload_n hx hb dL_law_441 rfl (lv_at hl 5 rfl) ?_
    refine lv_iconst (v := 0) hx hb dL_law_442 (by decide) ?_
    refine g_lald (n := 1) (x := y1) hx hb hI (gJ_l (gO_at hd1)) (by unfold vp_in; decide) dL_law_443 ?_
    refine lv_iload hx hb dL_law_444 (lv_at hl 0 rfl) ?_
    refine lv_i2l (v := Int32.toInt64 r2) hx hb dL_law_446 rfl ?_
    refine W.lcmp hx hb dL_law_447 ?_
    refine lv_if_eq (tgt := 453) hx hb dL_law_448 (by decide) (fun k3 => ?_) (fun k3 => absurd ((lg_cmp_eq _ _).mpr (hz)) k3)
    refine lv_goto (tgt := 1265) hx hb dL_law_453 (by decide) ?_
    exact K ls hl
