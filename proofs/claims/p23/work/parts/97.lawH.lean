-- ===== the law: its loops =====
/-! THE CLAIM OUT OF ONE WALK OF THE LAW'S BODY. Your part is whole_start (and what it stands on); all else here is the same for every law, but numbers. -/
def R_law : String := "TollGatewayLaw"
def lw_P (b : Addr) (xs : List Int32) (args : Array Value) (s : State) : Prop := args = #[.ref b] ∧ s.IntsAt b xs ∧ xs.length ≤ 260 ∧ (Jvm.Cond.and given_1 narrow_1).before args s = true
def lw_Q (_ : Array Value) (s : State) (o : Outcome) (t : State) : Prop := o = .returned (some (.int 1)) ∧ Framed s o t [] 600104 7301314
def lw_Z (below : List Frame) (a : Array Value) (s : State) : State → Prop := fun t => ∃ o, t.status = .running ∧ Ended t below o ∧ lw_Q a s o t
/-- the law's own end, with 1 on the stack, nothing written that was there before, its room as the claim has it -/
theorem lw_ret {p : Program} {l : Launch} {e : Env} {s : State} {m : MethodId} {below : List Frame} {meth : Method} {c : Code} {b : Nat} (hx : p.tables.exec = Jvm.exec) (hb : c.code = code) (hr : meth.sig.returnType = ret) (hlocks : meth.locks = false) {pc : Nat} {H : Heap} {ls : Array Slot} (hdg : decode code pc = .ok (.ireturn, 1)) : W p l e room_1 s m #[Value.ref b] below meth c H [] 600104 7301314 (lw_Z below #[Value.ref b] s) (F0 m pc ls [.int 1]) := by
  intro T hT X
  obtain ⟨fs, hret, hrun, hended, hW, hframe⟩ := X.leave (v := some (.int 1)) (hlocks := hlocks) (fun h => by rw [hr] at h; cases h)
  have hmeth' : T.vm.method? m = some meth := X.method'
  refine ⟨T.setFrames fs, ?_, .returned (some (.int 1)), hrun, hended, rfl, ⟨_, rfl⟩, hW, hframe⟩
  jvm_step X.here [X.here.top, hx, hb, hdg, hmeth', hr, ret, narrow_b1]
  (try refine ⟨rfl, ?_⟩); (try refine ⟨rfl, ?_⟩)
  first | (intro acts; rw [hret _ acts rfl rfl rfl]) | rw [hret _ _ rfl rfl rfl]
  exact Steps.refl _
/-- what holds at the law's entry: the machine, the code, the tables' words (any of lw_tbl by 'hts w (by decide +kernel)'), the script of L ints xs at the cell b, what the Statement gives of the start (any of its parts by flat_of_before) -/
def lw_At (p : Program) (s : State) (m : MethodId) (meth : Method) (c : Code) (b L : Nat) (xs : Nat → Int32) : Prop :=
  p.tables.exec = Jvm.exec ∧ c.code = code ∧ meth.sig.returnType = ret ∧ c.maxLocals = 6 ∧ s.vm.findClass R_law = some m.cls ∧ (∀ w ∈ lw_tbl, w.before #[Value.ref b] s = true) ∧ va_X b L xs s s.heap ∧ b < s.heap.size ∧ meth.locks = false ∧ (Jvm.Cond.and given_1 narrow_1).before #[Value.ref b] s = true

theorem cost_neg {N : gNm} {I M : gMd} {tk T : Nat} (h : Sim N I M tk T) {i : Nat} (hi : i < N 0 8) : I 18 i < 0 ↔ I 18 i = -1 := by
  rcases (h.2.2.2.2.2.1 i hi).2.2.2.2 with d | d
  · rw [d.2.1]; decide
  · obtain ⟨j, hj, e⟩ := d.2.2.2.1
    rw [d.2.1, e]
    constructor
    · intro z
      exact absurd z (nI_pos (by omega))
    · intro z
      have := congrArg Int32.toInt z
      rw [nI_toInt (by omega), show (-1 : Int32).toInt = -1 by decide] at this
      omega
/-- behind the last pass: all is settled -/
theorem all_out {N : gNm} {I M : gMd} {tk T : Nat} (h : Sim N I M tk T) (hm : mon N I) (hT : T < 520) : ∃ M1, Sim N (iPassL N (ix 20) 0 I).2 M1 (tk + 20) (T + 1) ∧ mon N (iPassL N (ix 20) 0 I).2 ∧ (iPassL N (ix 20) 0 I).1 = sL (wN I) (N 0 8) ∧ ∀ k, k < N 0 7 → (iPassL N (ix 20) 0 I).2 11 k = 0 := by
  obtain ⟨M1, k1, k2⟩ := Sim_last h hT
  have h80 := h.2.1.2.2.2.1
  obtain ⟨c1, c2⟩ := cnt_passL (N := N) h.2.1.2.2.2.2.2 h80 (ix 20) 0 I (Sim_nx h) hm (Sim_15 h)
  refine ⟨M1, k1, c1, ?_, fun k hk => ?_⟩
  · have z : sL (wN (iPassL N (ix 20) 0 I).2) (N 0 8) = 0 := sL_zero _ (fun i hi => by
      refine if_neg (fun q => ?_)
      rcases (k1.2.2.2.2.2.1 i hi).2.2.2.2 with d | d
      · rw [k2 i hi] at d; exact absurd d.1 (by decide)
      · obtain ⟨j, hj, e⟩ := d.2.2.2.1
        rw [d.2.1, e] at q
        have := congrArg Int32.toInt q
        rw [nI_toInt (by omega), show (-1 : Int32).toInt = -1 by decide] at this
        omega)
    rw [z, Int32.add_zero, Int32.zero_add] at c2
    exact c2
  · obtain ⟨-, ⟨b1, -, -⟩, -⟩ := k1.2.2.2.2.1 k hk
    rw [b1]
    refine sL_zero _ (fun i hi => ?_)
    show (if M1 14 i = nI k then (if M1 20 i = 0 then M1 15 i else 0) else 0) = 0
    rw [k2 i hi, if_neg (show ¬ (1 : Int32) = 0 by decide)]
    split <;> rfl
theorem r_pass (l : Launch) (hl0 : l.stackTraces = false) (D : va_G) (cy : Nat → ClassId) (de : Nat) (f : gFm) (N : gNm) (I : gMd) (hR : gR cy de N I f) (hN : gNx N I) : gMi l yX4_pass wsX4_pass { frames := 7, cells := 1, slots := 6, locals := 104 } D cy de [.ref (N 0 0), .int 20] f (fun r9 f9 => r9 = (iPassL N (ix 20) 0 I).1 ∧ gR cy de N (iPassL N (ix 20) 0 I).2 f9) 1 6 :=
  gXi_gMi (c_X4_pass l hl0 D cy de f N I 20 hR hN) (fun E z => z.2 (by decide)) (fun r g q => q.2)
set_option maxHeartbeats 4000000 in
set_option maxRecDepth 100000 in
theorem open_loop {p : Program} {l : Launch} {e : Env} {s : State} {m : MethodId} {below : List Frame} {meth : Method} {c : Code} {D : va_G} {cy : Nat → ClassId} {de b L : Nat} {xs : Nat → Int32} {Q : State → Prop} (hl0 : l.stackTraces = false) (C0 : lw_At p s m meth c b L xs) {fo fp : gFm} {No : gNm} {Io M : gMd} {tk T : Nat} (hRo : gR cy de No Io fo) (hd : gDj fo fp) (ho : Sim No Io M tk T) (kk : ∀ (H : Heap) (locs : List Loc) (ls : Array Slot), gI D cy de (lwA s) s (gJ fo fp) H locs → lv_has ls 6 [(0, .ref b), (1, .ref (No 0 0)), (3, .int (sL (wN Io) (No 0 8)))] → W p l e room_1 s m #[Value.ref b] below meth c H locs (60100) (500600) Q (F0 m 124 ls [])) : ∀ (n k : Nat), k + n = No 0 8 → ∀ (H : Heap) (locs : List Loc) (ls : Array Slot), gI D cy de (lwA s) s (gJ fo fp) H locs → lv_has ls 6 [(0, .ref b), (1, .ref (No 0 0)), (3, .int (sL (wN Io) k)), (4, .int (nI k))] → W p l e room_1 s m #[Value.ref b] below meth c H locs (60000 + 1 * k) (500000 + 6 * k) Q (F0 m 92 ls [])
  | 0, k, hn, H, locs, ls, hI, hl => by
    obtain ⟨hx, hb, hr, hml, hown, hts0, hX, hbl, hlocks, hgv⟩ := id C0
    have hts : ∀ w ∈ wsL_law, w.before #[Value.ref b] s = true := fun w h => hts0 w (wsL_law_in w h)
    have h80 := gR_nc hRo
    have e9 : k = No 0 8 := hn
    have hk8 : ¬ nI k < nI (No 0 8) := by
      rw [e9]
      exact Int32.lt_irrefl
    refine lv_iload hx hb dL_law_92 (lv_at hl 3 rfl) ?_
    refine lv_aload_n hx hb dL_law_94 rfl (lv_at hl 1 rfl) ?_
    refine g_calli hI (va_runV (As := []) (rest := [.int (nI k)]) ⟨hx, hb, hml, hown, hts⟩ (gMi_rL (c_X4_calls l D cy de fo No Io hRo) hd H.size) (cwV 0 hts gL_law_X4_calls rfl rfl rfl (by decide +kernel) ⟨Nat.le_of_ble_eq_true rfl, Nat.le_of_ble_eq_true rfl⟩) (g_preV hI (gJ_l (gR_tg hRo)) rfl) rfl rfl hl.1 rfl (lv_room (Nat.le_of_ble_eq_true rfl)) dL_law_95 ⟨by show 60000 + 1 * k + 0 ≤ 600104; omega, by show 500000 + 6 * k + 0 ≤ 7301314; omega⟩) (fun r1 f1 H locs hw hI => ?_)
    obtain ⟨hw1, hw2⟩ := hw
    rw [hw1]
    rw [hw2] at hI
    refine lv_icmp_ge (tgt := 124) hx hb dL_law_98 (by decide) (fun _ => ?_) (fun z => absurd (Int32.not_le.mp z) hk8)
    refine W.widen (k := 60100) (n := 500600) (by omega) (by omega) ?_
    rw [e9] at hl
    exact kk H locs ls hI (lv_sub hl [0, 1, 2] rfl)
  | n + 1, k, hn, H, locs, ls, hI, hl => by
    obtain ⟨hx, hb, hr, hml, hown, hts0, hX, hbl, hlocks, hgv⟩ := id C0
    have hts : ∀ w ∈ wsL_law, w.before #[Value.ref b] s = true := fun w h => hts0 w (wsL_law_in w h)
    have h80 := gR_nc hRo
    have hko : k < No 0 8 := by omega
    have hk8 : nI k < nI (No 0 8) := nI_lt hko (by omega)
    by_cases hc : Io 18 k < 0
    · have hM : sL (wN Io) k + 1 = sL (wN Io) (k + 1) := by
        show _ = sL (wN Io) k + wN Io k
        rw [show wN Io k = 1 from if_pos ((cost_neg ho hko).mp hc)]
      refine lv_iload hx hb dL_law_92 (lv_at hl 3 rfl) ?_
      refine lv_aload_n hx hb dL_law_94 rfl (lv_at hl 1 rfl) ?_
      refine g_calli hI (va_runV (As := []) (rest := [.int (nI k)]) ⟨hx, hb, hml, hown, hts⟩ (gMi_rL (c_X4_calls l D cy de fo No Io hRo) hd H.size) (cwV 0 hts gL_law_X4_calls rfl rfl rfl (by decide +kernel) ⟨Nat.le_of_ble_eq_true rfl, Nat.le_of_ble_eq_true rfl⟩) (g_preV hI (gJ_l (gR_tg hRo)) rfl) rfl rfl hl.1 rfl (lv_room (Nat.le_of_ble_eq_true rfl)) dL_law_95 ⟨by show 60000 + 1 * k + 0 ≤ 600104; omega, by show 500000 + 6 * k + 0 ≤ 7301314; omega⟩) (fun r1 f1 H locs hw hI => ?_)
      obtain ⟨hw1, hw2⟩ := hw
      rw [hw1]
      rw [hw2] at hI
      refine lv_icmp_ge (tgt := 124) hx hb dL_law_98 (by decide) (fun z => absurd hk8 (Int32.not_lt.mpr z)) (fun _ => ?_)
      refine lv_iload_n hx hb dL_law_101 rfl (lv_at hl 2 rfl) ?_
      refine lv_aload_n hx hb dL_law_102 rfl (lv_at hl 1 rfl) ?_
      refine lv_iload hx hb dL_law_103 (lv_at hl 3 rfl) ?_
      refine g_calli hI (va_runV (As := [.int (nI k)]) (rest := [.int (sL (wN Io) k)]) ⟨hx, hb, hml, hown, hts⟩ (gMi_rL (r_cost l hl0 D cy de fo No Io hRo hko) hd H.size) (cwV 1 hts gL_law_X4_cost rfl rfl rfl (by decide +kernel) ⟨Nat.le_of_ble_eq_true rfl, Nat.le_of_ble_eq_true rfl⟩) (g_preV hI (gJ_l (gR_tg hRo)) rfl) rfl rfl hl.1 rfl (lv_room (Nat.le_of_ble_eq_true rfl)) dL_law_105 ⟨by show 60000 + 1 * k + 0 + 1 ≤ 600104; omega, by show 500000 + 6 * k + 0 + 6 ≤ 7301314; omega⟩) (fun r1 f1 H locs hw hI => ?_)
      obtain ⟨hw1, hw2⟩ := hw
      rw [hw1]
      rw [hw2] at hI
      refine lv_if_ge (tgt := 115) hx hb dL_law_108 (by decide) (fun z => absurd hc (Int32.not_lt.mpr z)) (fun _ => ?_)
      refine lv_iconst (v := 1) hx hb dL_law_111 (by decide) ?_
      refine lv_goto (tgt := 116) hx hb dL_law_112 (by decide) ?_
      refine lv_iadd hx hb dL_law_116 ?_
      refine lv_istore_n (lv' := [(3, .int ((sL (wN Io) k) + 1)), (0, .ref b), (1, .ref (No 0 0)), (4, .int (nI k))]) hx hb dL_law_117 rfl hl (by decide) rfl (fun ls hl => ?_)
      refine lv_iinc (v := (nI k) + 1) (lv' := [(4, .int ((nI k) + 1)), (3, .int ((sL (wN Io) k) + 1)), (0, .ref b), (1, .ref (No 0 0))]) hx hb dL_law_118 hl (k := 3) rfl rfl (by decide) rfl (fun ls hl => ?_)
      refine lv_goto (tgt := 92) hx hb dL_law_121 (by decide) ?_
      rw [nI_1, hM] at hl
      refine W.widen (k := 60000 + 1 * (k + 1)) (n := 500000 + 6 * (k + 1)) (by omega) (by omega) ?_
      exact open_loop hl0 C0 hRo hd ho kk n (k + 1) (by omega) H locs ls hI (lv_sub hl [2, 3, 1, 0] rfl)
    · have hM : sL (wN Io) k + 0 = sL (wN Io) (k + 1) := by
        show _ = sL (wN Io) k + wN Io k
        rw [show wN Io k = 0 from if_neg (fun z => hc ((cost_neg ho hko).mpr z))]
      refine lv_iload hx hb dL_law_92 (lv_at hl 3 rfl) ?_
      refine lv_aload_n hx hb dL_law_94 rfl (lv_at hl 1 rfl) ?_
      refine g_calli hI (va_runV (As := []) (rest := [.int (nI k)]) ⟨hx, hb, hml, hown, hts⟩ (gMi_rL (c_X4_calls l D cy de fo No Io hRo) hd H.size) (cwV 0 hts gL_law_X4_calls rfl rfl rfl (by decide +kernel) ⟨Nat.le_of_ble_eq_true rfl, Nat.le_of_ble_eq_true rfl⟩) (g_preV hI (gJ_l (gR_tg hRo)) rfl) rfl rfl hl.1 rfl (lv_room (Nat.le_of_ble_eq_true rfl)) dL_law_95 ⟨by show 60000 + 1 * k + 0 ≤ 600104; omega, by show 500000 + 6 * k + 0 ≤ 7301314; omega⟩) (fun r1 f1 H locs hw hI => ?_)
      obtain ⟨hw1, hw2⟩ := hw
      rw [hw1]
      rw [hw2] at hI
      refine lv_icmp_ge (tgt := 124) hx hb dL_law_98 (by decide) (fun z => absurd hk8 (Int32.not_lt.mpr z)) (fun _ => ?_)
      refine lv_iload_n hx hb dL_law_101 rfl (lv_at hl 2 rfl) ?_
      refine lv_aload_n hx hb dL_law_102 rfl (lv_at hl 1 rfl) ?_
      refine lv_iload hx hb dL_law_103 (lv_at hl 3 rfl) ?_
      refine g_calli hI (va_runV (As := [.int (nI k)]) (rest := [.int (sL (wN Io) k)]) ⟨hx, hb, hml, hown, hts⟩ (gMi_rL (r_cost l hl0 D cy de fo No Io hRo hko) hd H.size) (cwV 1 hts gL_law_X4_cost rfl rfl rfl (by decide +kernel) ⟨Nat.le_of_ble_eq_true rfl, Nat.le_of_ble_eq_true rfl⟩) (g_preV hI (gJ_l (gR_tg hRo)) rfl) rfl rfl hl.1 rfl (lv_room (Nat.le_of_ble_eq_true rfl)) dL_law_105 ⟨by show 60000 + 1 * k + 0 + 1 ≤ 600104; omega, by show 500000 + 6 * k + 0 + 6 ≤ 7301314; omega⟩) (fun r1 f1 H locs hw hI => ?_)
      obtain ⟨hw1, hw2⟩ := hw
      rw [hw1]
      rw [hw2] at hI
      refine lv_if_ge (tgt := 115) hx hb dL_law_108 (by decide) (fun _ => ?_) (fun z => absurd (Int32.not_le.mp z) hc)
      refine lv_iconst (v := 0) hx hb dL_law_115 (by decide) ?_
      refine lv_iadd hx hb dL_law_116 ?_
      refine lv_istore_n (lv' := [(3, .int ((sL (wN Io) k) + 0)), (0, .ref b), (1, .ref (No 0 0)), (4, .int (nI k))]) hx hb dL_law_117 rfl hl (by decide) rfl (fun ls hl => ?_)
      refine lv_iinc (v := (nI k) + 1) (lv' := [(4, .int ((nI k) + 1)), (3, .int ((sL (wN Io) k) + 0)), (0, .ref b), (1, .ref (No 0 0))]) hx hb dL_law_118 hl (k := 3) rfl rfl (by decide) rfl (fun ls hl => ?_)
      refine lv_goto (tgt := 92) hx hb dL_law_121 (by decide) ?_
      rw [nI_1, hM] at hl
      refine W.widen (k := 60000 + 1 * (k + 1)) (n := 500000 + 6 * (k + 1)) (by omega) (by omega) ?_
      exact open_loop hl0 C0 hRo hd ho kk n (k + 1) (by omega) H locs ls hI (lv_sub hl [2, 3, 1, 0] rfl)

set_option maxHeartbeats 4000000 in
set_option maxRecDepth 100000 in
theorem held_loop {p : Program} {l : Launch} {e : Env} {s : State} {m : MethodId} {below : List Frame} {meth : Method} {c : Code} {D : va_G} {cy : Nat → ClassId} {de b L : Nat} {xs : Nat → Int32} {Q : State → Prop} {x3 x4 : Int32} (hl0 : l.stackTraces = false) (C0 : lw_At p s m meth c b L xs) {fo fp : gFm} {No : gNm} {Io M : gMd} {tk T : Nat} (hRo : gR cy de No Io fo) (hd : gDj fo fp) (ho : Sim No Io M tk T) (h0 : ∀ k, k < No 0 7 → Io 11 k = 0) (kk : ∀ (H : Heap) (locs : List Loc) (ls : Array Slot), gI D cy de (lwA s) s (gJ fo fp) H locs → lv_has ls 6 [(0, .ref b), (1, .ref (No 0 0)), (3, .int x3), (4, .int x4)] → W p l e room_1 s m #[Value.ref b] below meth c H locs (60300) (500900) Q (F0 m 168 ls [])) : ∀ (n k : Nat), k + n = 8 → ∀ (H : Heap) (locs : List Loc) (ls : Array Slot), gI D cy de (lwA s) s (gJ fo fp) H locs → lv_has ls 6 [(0, .ref b), (1, .ref (No 0 0)), (3, .int x3), (4, .int x4), (5, .int (nI k))] → W p l e room_1 s m #[Value.ref b] below meth c H locs (60200 + 2 * k) (500700 + 12 * k) Q (F0 m 135 ls [])
  | 0, k, hn, H, locs, ls, hI, hl => by
    obtain ⟨hx, hb, hr, hml, hown, hts0, hX, hbl, hlocks, hgv⟩ := id C0
    have hts : ∀ w ∈ wsL_law, w.before #[Value.ref b] s = true := fun w h => hts0 w (wsL_law_in w h)
    have hk8 : ¬ nI k < 8 := by
      rw [show k = 8 by omega]
      decide
    refine lv_iload hx hb dL_law_135 (lv_at hl 4 rfl) ?_
    refine lv_bipush (v := 8) hx hb dL_law_137 (by decide) ?_
    refine lv_icmp_ge (tgt := 168) hx hb dL_law_139 (by decide) (fun _ => ?_) (fun z => absurd (Int32.not_le.mp z) hk8)
    refine W.widen (k := 60300) (n := 500900) (by omega) (by omega) ?_
    exact kk H locs ls hI (lv_sub hl [0, 1, 2, 3] rfl)
  | n + 1, k, hn, H, locs, ls, hI, hl => by
    obtain ⟨hx, hb, hr, hml, hown, hts0, hX, hbl, hlocks, hgv⟩ := id C0
    have hts : ∀ w ∈ wsL_law, w.before #[Value.ref b] s = true := fun w h => hts0 w (wsL_law_in w h)
    have hk8 : nI k < 8 := nI_lt (show k < 8 by omega) (by decide)
    by_cases hko : k < No 0 7
    · obtain ⟨h9, -⟩ := Sim_ge ho hko
      have h11 := h0 k hko
      refine lv_iload hx hb dL_law_135 (lv_at hl 4 rfl) ?_
      refine lv_bipush (v := 8) hx hb dL_law_137 (by decide) ?_
      refine lv_icmp_ge (tgt := 168) hx hb dL_law_139 (by decide) (fun z => absurd hk8 (Int32.not_lt.mpr z)) (fun _ => ?_)
      refine lv_aload_n hx hb dL_law_142 rfl (lv_at hl 1 rfl) ?_
      refine lv_iload hx hb dL_law_143 (lv_at hl 4 rfl) ?_
      refine g_calli hI (vx_runSW (As := [.ref (No 0 0), .int (nI k)]) (rest := []) ⟨hx, hb, hml, hown, hts⟩ (gMi_rL (r_creditI l hl0 D cy de fo No Io hRo hko ho) hd H.size) (vx_cwSW 2 hts gL_law_L_credit rfl rfl rfl (by decide +kernel) ⟨Nat.le_of_ble_eq_true rfl, Nat.le_of_ble_eq_true rfl⟩) (g_preS hI) rfl rfl hl.1 rfl (lv_room (Nat.le_of_ble_eq_true rfl)) dL_law_145 ⟨by show 60200 + 2 * k + 1 ≤ 600104; omega, by show 500700 + 12 * k + 6 ≤ 7301314; omega⟩) (fun r1 f1 H locs hw hI => ?_)
      obtain ⟨hw1, hw2⟩ := hw
      rw [hw1]
      rw [hw2] at hI
      refine lv_if_lt (tgt := 168) hx hb dL_law_148 (by decide) (fun z => absurd z h9) (fun _ => ?_)
      refine lv_aload_n hx hb dL_law_151 rfl (lv_at hl 1 rfl) ?_
      refine lv_iload hx hb dL_law_152 (lv_at hl 4 rfl) ?_
      refine g_calli hI (va_runV (As := [.int (nI k)]) (rest := []) ⟨hx, hb, hml, hown, hts⟩ (gMi_rL (r_held l hl0 D cy de fo No Io hRo hko) hd H.size) (cwV 1 hts gL_law_X4_held rfl rfl rfl (by decide +kernel) ⟨Nat.le_of_ble_eq_true rfl, Nat.le_of_ble_eq_true rfl⟩) (g_preV hI (gJ_l (gR_tg hRo)) rfl) rfl rfl hl.1 rfl (lv_room (Nat.le_of_ble_eq_true rfl)) dL_law_154 ⟨by show 60200 + 2 * k + 1 + 1 ≤ 600104; omega, by show 500700 + 12 * k + 6 + 6 ≤ 7301314; omega⟩) (fun r1 f1 H locs hw hI => ?_)
      obtain ⟨hw1, hw2⟩ := hw
      rw [hw1]
      rw [hw2] at hI
      refine lv_if_eq (tgt := 162) hx hb dL_law_157 (by decide) (fun _ => ?_) (fun z => absurd h11 z)
      refine lv_iinc (v := (nI k) + 1) (lv' := [(5, .int ((nI k) + 1)), (0, .ref b), (1, .ref (No 0 0)), (3, .int x3), (4, .int x4)]) hx hb dL_law_162 hl (k := 4) rfl rfl (by decide) rfl (fun ls hl => ?_)
      refine lv_goto (tgt := 135) hx hb dL_law_165 (by decide) ?_
      rw [nI_1] at hl
      refine W.widen (k := 60200 + 2 * (k + 1)) (n := 500700 + 12 * (k + 1)) (by omega) (by omega) ?_
      exact held_loop hl0 C0 hRo hd ho h0 kk n (k + 1) (by omega) H locs ls hI (lv_sub hl [1, 2, 3, 4, 0] rfl)
    · refine lv_iload hx hb dL_law_135 (lv_at hl 4 rfl) ?_
      refine lv_bipush (v := 8) hx hb dL_law_137 (by decide) ?_
      refine lv_icmp_ge (tgt := 168) hx hb dL_law_139 (by decide) (fun z => absurd hk8 (Int32.not_lt.mpr z)) (fun _ => ?_)
      refine lv_aload_n hx hb dL_law_142 rfl (lv_at hl 1 rfl) ?_
      refine lv_iload hx hb dL_law_143 (lv_at hl 4 rfl) ?_
      refine g_calli hI (vx_runSW (As := [.ref (No 0 0), .int (nI k)]) (rest := []) ⟨hx, hb, hml, hown, hts⟩ (gMi_rL (r_creditO l hl0 D cy de fo No Io hRo hko (by omega) ho) hd H.size) (vx_cwSW 2 hts gL_law_L_credit rfl rfl rfl (by decide +kernel) ⟨Nat.le_of_ble_eq_true rfl, Nat.le_of_ble_eq_true rfl⟩) (g_preS hI) rfl rfl hl.1 rfl (lv_room (Nat.le_of_ble_eq_true rfl)) dL_law_145 ⟨by show 60200 + 2 * k + 1 ≤ 600104; omega, by show 500700 + 12 * k + 6 ≤ 7301314; omega⟩) (fun r1 f1 H locs hw hI => ?_)
      obtain ⟨hw1, hw2⟩ := hw
      rw [hw1]
      rw [hw2] at hI
      refine lv_if_lt (tgt := 168) hx hb dL_law_148 (by decide) (fun _ => ?_) (fun z => absurd z (by decide))
      refine W.widen (k := 60300) (n := 500900) (by omega) (by omega) ?_
      exact kk H locs ls hI (lv_sub hl [0, 1, 2, 3] rfl)

/-- the law's world after T events: two gateways, one reference's state beside them -/
def lwV (cy : Nat → ClassId) (de to tp T : Nat) (f : gFm) : Prop := ∃ (No Np : gNm) (Io Ip M : gMd) (fo fp : gFm) (tk1 tk2 : Nat), (No 0 0 = to ∧ Np 0 0 = tp) ∧ (gR cy de No Io fo ∧ gR cy de Np Ip fp ∧ gDj fo fp ∧ f = gJ fo fp) ∧ Sim No Io M tk1 T ∧ Sim Np Ip M tk2 T ∧ mon No Io ∧ mon Np Ip

set_option maxHeartbeats 4000000 in
set_option maxRecDepth 100000 in
theorem law_tail {p : Program} {l : Launch} {e : Env} {s : State} {m : MethodId} {below : List Frame} {meth : Method} {c : Code} {D : va_G} {cy : Nat → ClassId} {de b L : Nat} {xs : Nat → Int32} {to tp : Nat} (hl0 : l.stackTraces = false) (C0 : lw_At p s m meth c b L xs) : ∀ (f : gFm) (H : Heap) (locs : List Loc) (ls : Array Slot), lwV cy de to tp 90 f → gI D cy de (lwA s) s f H locs → lv_has ls 6 [(0, .ref b), (1, .ref to)] → W p l e room_1 s m #[Value.ref b] below meth c H locs (54100) (452000) (lw_Z below #[Value.ref b] s) (F0 m 87 ls []) := by
  intro f H locs ls hV hI hl
  obtain ⟨No, Np, Io, Ip, M, fo, fp, tk1, tk2, ⟨e1, e2⟩, ⟨hRo, hRp, hd, e3⟩, ho, hp, hmo, hmp⟩ := hV
  subst e1
  rw [e3] at hI
  obtain ⟨hx, hb, hr, hml, hown, hts0, hX, hbl, hlocks, hgv⟩ := id C0
  have hts : ∀ w ∈ wsL_law, w.before #[Value.ref b] s = true := fun w h => hts0 w (wsL_law_in w h)
  refine lv_iconst (v := 0) hx hb dL_law_87 (by decide) ?_
  refine lv_istore_n (lv' := [(3, .int 0), (0, .ref b), (1, .ref (No 0 0))]) hx hb dL_law_88 rfl hl (by decide) rfl (fun ls hl => ?_)
  refine lv_iconst (v := 0) hx hb dL_law_89 (by decide) ?_
  refine lv_istore (lv' := [(4, .int 0), (3, .int 0), (0, .ref b), (1, .ref (No 0 0))]) hx hb dL_law_90 hl (by decide) rfl (fun ls hl => ?_)
  refine W.widen (k := 60000 + 1 * 0) (n := 500000 + 6 * 0) (by omega) (by omega) ?_
  refine open_loop hl0 C0 hRo hd ho (fun H locs ls hI hl => ?_) (No 0 8) 0 (Nat.zero_add _) _ _ ls hI (lv_sub (show lv_has ls 6 [(4, .int (nI 0)), (3, .int (sL (wN Io) 0)), (0, .ref b), (1, .ref (No 0 0))] from by rw [nI_0]; exact hl) [2, 3, 1, 0] rfl)
  obtain ⟨M1, q1, q2, q3, q4⟩ := all_out ho hmo (by decide)
  refine lv_aload_n hx hb dL_law_124 rfl (lv_at hl 1 rfl) ?_
  refine lv_bipush (v := 20) hx hb dL_law_125 (by decide) ?_
  refine g_calli hI (va_runV (As := [.int 20]) (rest := []) ⟨hx, hb, hml, hown, hts⟩ ((gMi_frame (r_pass l hl0 D cy de fo No Io hRo (Sim_nx ho)) hd) H.size) (cwV 1 hts gL_law_X4_pass rfl rfl rfl (by decide +kernel) ⟨Nat.le_of_ble_eq_true rfl, Nat.le_of_ble_eq_true rfl⟩) (g_preV hI (gJ_l (gR_tg hRo)) rfl) rfl rfl hl.1 rfl (lv_room (Nat.le_of_ble_eq_true rfl)) dL_law_127 ⟨by show 60100 + 1 ≤ 600104; omega, by show 500600 + 6 ≤ 7301314; omega⟩) (fun r1 f1 H locs hw hI => ?_)
  obtain ⟨g9, ⟨hr1, hR1⟩, e4, hd1⟩ := hw
  rw [e4] at hI
  rw [hr1, q3]
  refine lv_istore (lv' := [(4, .int (sL (wN Io) (No 0 8))), (0, .ref b), (1, .ref (No 0 0)), (3, .int (sL (wN Io) (No 0 8)))]) hx hb dL_law_130 hl (by decide) rfl (fun ls hl => ?_)
  refine lv_iconst (v := 0) hx hb dL_law_132 (by decide) ?_
  refine lv_istore (lv' := [(5, .int 0), (4, .int (sL (wN Io) (No 0 8))), (0, .ref b), (1, .ref (No 0 0)), (3, .int (sL (wN Io) (No 0 8)))]) hx hb dL_law_133 hl (by decide) rfl (fun ls hl => ?_)
  refine W.widen (k := 60200 + 2 * 0) (n := 500700 + 12 * 0) (by omega) (by omega) ?_
  refine held_loop hl0 C0 hR1 hd1 q1 q4 (fun H locs ls hI hl => ?_) 8 0 rfl _ _ ls hI (lv_sub (show lv_has ls 6 [(5, .int (nI 0)), (4, .int (sL (wN Io) (No 0 8))), (0, .ref b), (1, .ref (No 0 0)), (3, .int (sL (wN Io) (No 0 8)))] from by rw [nI_0]; exact hl) [2, 3, 4, 1, 0] rfl)
  refine lv_iload hx hb dL_law_168 (lv_at hl 3 rfl) ?_
  refine lv_iload_n hx hb dL_law_170 rfl (lv_at hl 2 rfl) ?_
  refine lv_icmp_ne (tgt := 185) hx hb dL_law_171 (by decide) (fun z => absurd rfl z) (fun _ => ?_)
  refine lv_aload_n hx hb dL_law_174 rfl (lv_at hl 1 rfl) ?_
  refine g_calli hI (va_runS (As := [.ref (No 0 0)]) (rest := []) ⟨hx, hb, hml, hown, hts⟩ ((gMi_rL (c_L_areKeysSo l hl0 D cy de g9 No (iPassL No (ix 20) 0 Io).2 hR1 q1 q2) hd1) H.size) (va_cwS 1 hts gL_law_L_areKeysSo rfl rfl rfl (by decide +kernel) ⟨Nat.le_of_ble_eq_true rfl, Nat.le_of_ble_eq_true rfl⟩) (g_preS hI) rfl rfl hl.1 rfl (lv_room (Nat.le_of_ble_eq_true rfl)) dL_law_175 ⟨by show 60300 + 320 ≤ 600104; omega, by show 500900 + 1920 ≤ 7301314; omega⟩) (fun r1 f1 H locs hw hI => ?_)
  obtain ⟨hw1, hw2⟩ := hw
  rw [hw1]
  rw [hw2] at hI
  refine lv_if_eq (tgt := 185) hx hb dL_law_178 (by decide) (fun z => absurd z (by decide)) (fun _ => ?_)
  refine lv_iconst (v := 1) hx hb dL_law_181 (by decide) ?_
  refine lv_goto (tgt := 186) hx hb dL_law_182 (by decide) ?_
  refine va_forget (fun q hq => hI.2.1.2.2 q hq) ?_
  refine W.widen (k := 600104) (n := 7301314) (by omega) (by omega) ?_
  exact lw_ret hx hb hr hlocks dL_law_186

set_option maxHeartbeats 4000000 in
set_option maxRecDepth 100000 in
theorem law_57 {p : Program} {l : Launch} {e : Env} {s : State} {m : MethodId} {below : List Frame} {meth : Method} {c : Code} {D : va_G} {cy : Nat → ClassId} {de b L : Nat} {xs : Nat → Int32} {to tp k : Nat} {Q : State → Prop} (hl0 : l.stackTraces = false) (C0 : lw_At p s m meth c b L xs) (hk : k < 90) (kk : ∀ (f : gFm) (H : Heap) (locs : List Loc) (ls : Array Slot), lwV cy de to tp (k + 1) f → gI D cy de (lwA s) s f H locs → lv_has ls 6 [(0, .ref b), (1, .ref to), (2, .ref tp), (3, .int (nI (k + 1)))] → W p l e room_1 s m #[Value.ref b] below meth c H locs (100 + 600 * (k + 1)) (2000 + 5000 * (k + 1)) Q (F0 m 18 ls [])) : ∀ (f : gFm) (H : Heap) (locs : List Loc) (ls : Array Slot), lwV cy de to tp (k + 1) f → gI D cy de (lwA s) s f H locs → lv_has ls 6 [(0, .ref b), (1, .ref to), (2, .ref tp), (3, .int (nI k))] → W p l e room_1 s m #[Value.ref b] below meth c H locs (100 + 600 * k + 10) (2000 + 5000 * k + 450) Q (F0 m 57 ls []) := by
  intro f H locs ls hV hI hl
  have hV0 := hV
  obtain ⟨No, Np, Io, Ip, M, fo, fp, tk1, tk2, ⟨e1, e2⟩, ⟨hRo, hRp, hd, e3⟩, ho, hp, hmo, hmp⟩ := hV
  subst e1
  subst e2
  rw [e3] at hI
  rw [e3] at hV0
  obtain ⟨hx, hb, hr, hml, hown, hts0, hX, hbl, hlocks, hgv⟩ := id C0
  have hts : ∀ w ∈ wsL_law, w.before #[Value.ref b] s = true := fun w h => hts0 w (wsL_law_in w h)
  refine lv_aload_n hx hb dL_law_57 rfl (lv_at hl 1 rfl) ?_
  refine lv_aload_n hx hb dL_law_58 rfl (lv_at hl 2 rfl) ?_
  refine g_calli hI (va_runS (As := [.ref (No 0 0), .ref (Np 0 0)]) (rest := []) ⟨hx, hb, hml, hown, hts⟩ ((c_L_areAlike l hl0 D cy de fo fp No Np Io Ip hRo hRp hd ho hp) H.size) (va_cwS 2 hts gL_law_L_areAlike rfl rfl rfl (by decide +kernel) ⟨Nat.le_of_ble_eq_true rfl, Nat.le_of_ble_eq_true rfl⟩) (g_preS hI) rfl rfl hl.1 rfl (lv_room (Nat.le_of_ble_eq_true rfl)) dL_law_59 ⟨by show 100 + 600 * k + 10 + 200 ≤ 600104; omega, by show 2000 + 5000 * k + 450 + 1200 ≤ 7301314; omega⟩) (fun r1 f1 H locs hw hI => ?_)
  obtain ⟨hw1, hw2⟩ := hw
  rw [hw1]
  rw [hw2] at hI
  refine lv_if_eq (tgt := 79) hx hb dL_law_62 (by decide) (fun z => absurd z (by decide)) (fun _ => ?_)
  refine lv_iload_n hx hb dL_law_65 rfl (lv_at hl 3 rfl) ?_
  refine lv_iconst (v := 5) hx hb dL_law_66 (by decide) ?_
  refine lv_irem hx hb dL_law_67 (by decide) ?_
  refine lv_iconst (v := 4) hx hb dL_law_68 (by decide) ?_
  refine lv_icmp_ne (tgt := 81) hx hb dL_law_69 (by decide) (fun z => ?_) (fun z => ?_)
  · refine lv_iinc (v := nI k + 1) (lv' := [(3, .int (nI k + 1)), (0, .ref b), (1, .ref (No 0 0)), (2, .ref (Np 0 0))]) hx hb dL_law_81 hl (k := 3) rfl rfl (by decide) rfl (fun ls hl => ?_)
    rw [nI_1] at hl
    refine lv_goto (tgt := 18) hx hb dL_law_84 (by decide) ?_
    refine W.widen (k := 100 + 600 * (k + 1)) (n := 2000 + 5000 * (k + 1)) (by omega) (by omega) ?_
    exact kk _ H locs ls hV0 hI (lv_sub hl [1, 2, 3, 0] rfl)
  · refine lv_aload_n hx hb dL_law_72 rfl (lv_at hl 1 rfl) ?_
    refine g_calli hI (va_runS (As := [.ref (No 0 0)]) (rest := []) ⟨hx, hb, hml, hown, hts⟩ ((gMi_rL (c_L_areKeysSo l hl0 D cy de fo No Io hRo ho hmo) hd) H.size) (va_cwS 1 hts gL_law_L_areKeysSo rfl rfl rfl (by decide +kernel) ⟨Nat.le_of_ble_eq_true rfl, Nat.le_of_ble_eq_true rfl⟩) (g_preS hI) rfl rfl hl.1 rfl (lv_room (Nat.le_of_ble_eq_true rfl)) dL_law_73 ⟨by show 100 + 600 * k + 10 + 200 + 320 ≤ 600104; omega, by show 2000 + 5000 * k + 450 + 1200 + 1920 ≤ 7301314; omega⟩) (fun r1 f1 H locs hw hI => ?_)
    obtain ⟨hw1, hw2⟩ := hw
    rw [hw1]
    rw [hw2] at hI
    refine lv_if_ne (tgt := 81) hx hb dL_law_76 (by decide) (fun _ => ?_) (fun z => absurd z (by decide))
    refine lv_iinc (v := nI k + 1) (lv' := [(3, .int (nI k + 1)), (0, .ref b), (1, .ref (No 0 0)), (2, .ref (Np 0 0))]) hx hb dL_law_81 hl (k := 3) rfl rfl (by decide) rfl (fun ls hl => ?_)
    rw [nI_1] at hl
    refine lv_goto (tgt := 18) hx hb dL_law_84 (by decide) ?_
    refine W.widen (k := 100 + 600 * (k + 1)) (n := 2000 + 5000 * (k + 1)) (by omega) (by omega) ?_
    exact kk _ H locs ls hV0 hI (lv_sub hl [1, 2, 3, 0] rfl)

set_option maxHeartbeats 4000000 in
set_option maxRecDepth 100000 in
/-- THE LAW'S LOOP -/
theorem law_loop {p : Program} {l : Launch} {e : Env} {s : State} {m : MethodId} {below : List Frame} {meth : Method} {c : Code} {D : va_G} {cy : Nat → ClassId} {de b L : Nat} {xs : Nat → Int32} {to tp : Nat} (hl0 : l.stackTraces = false) (C0 : lw_At p s m meth c b L xs) (hL : L ≤ 260) : ∀ (n k : Nat), k + n = 90 → ∀ (f : gFm) (H : Heap) (locs : List Loc) (ls : Array Slot), lwV cy de to tp k f → gI D cy de (lwA s) s f H locs → lv_has ls 6 [(0, .ref b), (1, .ref to), (2, .ref tp), (3, .int (nI k))] → W p l e room_1 s m #[Value.ref b] below meth c H locs (100 + 600 * k) (2000 + 5000 * k) (lw_Z below #[Value.ref b] s) (F0 m 18 ls [])
  | 0, k, hn, f, H, locs, ls, hV, hI, hl => by
    obtain ⟨hx, hb, hr, hml, hown, hts0, hX, hbl, hlocks, hgv⟩ := id C0
    have hts : ∀ w ∈ wsL_law, w.before #[Value.ref b] s = true := fun w h => hts0 w (wsL_law_in w h)
    have e9 : k = 90 := hn
    subst e9
    refine lv_iload_n hx hb dL_law_18 rfl (lv_at hl 3 rfl) ?_
    refine lv_bipush (v := 90) hx hb dL_law_19 (by decide) ?_
    refine lv_icmp_ge (tgt := 87) hx hb dL_law_21 (by decide) (fun _ => ?_) (fun z => absurd (show (90 : Int32) ≤ nI 90 by decide) z)
    refine W.widen (k := 54100) (n := 452000) (by omega) (by omega) ?_
    exact law_tail hl0 C0 f H locs ls hV hI (lv_sub hl [0, 1] rfl)
  | n + 1, k, hn, f, H, locs, ls, hV, hI, hl => by
    obtain ⟨hx, hb, hr, hml, hown, hts0, hX, hbl, hlocks, hgv⟩ := id C0
    have hts : ∀ w ∈ wsL_law, w.before #[Value.ref b] s = true := fun w h => hts0 w (wsL_law_in w h)
    have hwc := hts (.constant RL 16 (-99999)) (by decide +kernel)
    have hk : k < 90 := by omega
    have hbA : ¬ lwA s b := Nat.not_le.mpr hbl
    obtain ⟨No, Np, Io, Ip, M, fo, fp, tk1, tk2, ⟨e1, e2⟩, ⟨hRo, hRp, hd, e3⟩, ho, hp, hmo, hmp⟩ := hV
    subst e1
    subst e2
    rw [e3] at hI
    have hfb : gJ fo fp b = none := by
      cases z : gJ fo fp b with
      | none => rfl
      | some x => exact absurd (hI.2.2.2.2.1 b x z).2 hbA
    refine lv_iload_n hx hb dL_law_18 rfl (lv_at hl 3 rfl) ?_
    refine lv_bipush (v := 90) hx hb dL_law_19 (by decide) ?_
    refine lv_icmp_ge (tgt := 87) hx hb dL_law_21 (by decide) (fun z => absurd (show nI k < 90 from nI_lt hk (by decide)) (Int32.not_lt.mpr z)) (fun _ => ?_)
    refine lv_aload_n hx hb dL_law_24 rfl (lv_at hl 0 rfl) ?_
    refine lv_iload_n hx hb dL_law_25 rfl (lv_at hl 3 rfl) ?_
    refine g_calli hI (va_runS (As := [.ref b, .int (nI k)]) (rest := []) ⟨hx, hb, hml, hown, hts⟩ ((c_L_cell l D cy de b L xs k (gJ fo fp) (by omega) (by omega) hfb) H.size) (va_cwS 2 hts gL_law_L_cell rfl rfl rfl (by decide +kernel) ⟨Nat.le_of_ble_eq_true rfl, Nat.le_of_ble_eq_true rfl⟩) (g_preCell hI hX hbl hbA) rfl rfl hl.1 rfl (lv_room (Nat.le_of_ble_eq_true rfl)) dL_law_26 ⟨by show 100 + 600 * k + 0 ≤ 600104; omega, by show 2000 + 5000 * k + 0 ≤ 7301314; omega⟩) (fun v f1 H locs hw hI => ?_)
    rw [hw] at hI
    refine lv_istore (lv' := [(4, .int v), (0, .ref b), (1, .ref (No 0 0)), (2, .ref (Np 0 0)), (3, .int (nI k))]) hx hb dL_law_29 hl (by decide) rfl (fun ls hl => ?_)
    refine lv_aload_n hx hb dL_law_31 rfl (lv_at hl 2 rfl) ?_
    refine lv_iload hx hb dL_law_32 (lv_at hl 0 rfl) ?_
    refine g_calli hI (va_runS (As := [.ref (No 0 0), .int v]) (rest := []) ⟨hx, hb, hml, hown, hts⟩ ((gMi_frame (c_L_act l hl0 D cy de fo No Io v hRo ho (by omega) hmo) hd) H.size) (va_cwS 2 hts gL_law_L_act rfl rfl rfl (by decide +kernel) ⟨Nat.le_of_ble_eq_true rfl, Nat.le_of_ble_eq_true rfl⟩) (g_preS hI) rfl rfl hl.1 rfl (lv_room (Nat.le_of_ble_eq_true rfl)) dL_law_34 ⟨by show 100 + 600 * k + 0 + 5 ≤ 600104; omega, by show 2000 + 5000 * k + 0 + 225 ≤ 7301314; omega⟩) (fun r1 f1 H locs hw hI => ?_)
    obtain ⟨g9, ⟨N1, I1, tk3, ⟨z0, hR1⟩, ⟨hS1, hm1⟩, hr1, hb1⟩, e9, hd1⟩ := hw
    rw [e9] at hI
    refine lv_istore (lv' := [(5, .int r1), (4, .int v), (0, .ref b), (1, .ref (No 0 0)), (2, .ref (Np 0 0)), (3, .int (nI k))]) hx hb dL_law_37 hl (by decide) rfl (fun ls hl => ?_)
    refine lv_iload hx hb dL_law_39 (lv_at hl 0 rfl) ?_
    refine lv_ldc (v := -99999) hx hb hown hwc dL_law_41 ?_
    refine lv_icmp_eq (tgt := 57) hx hb dL_law_43 (by decide) (fun c1 => ?_) (fun c1 => ?_)
    · obtain ⟨w9, ew⟩ := hb1 c1
      refine W.widen (k := 100 + 600 * k + 10) (n := 2000 + 5000 * k + 450) (by omega) (by omega) ?_
      refine law_57 hl0 C0 hk (fun f H locs ls hV hI hl => law_loop hl0 C0 hL n (k + 1) (by omega) f H locs ls hV hI hl) _ H locs ls ⟨N1, Np, I1, Ip, (aX M v).2, g9, fp, tk3, tk2, ⟨z0, rfl⟩, ⟨hR1, hRp, hd1, rfl⟩, hS1, ?_, hm1, hmp⟩ hI (lv_sub hl [2, 3, 4, 5] rfl)
      rw [ew]
      exact Sim_well w9 (Sim_T hp (by omega))
    · refine lv_aload_n hx hb dL_law_46 rfl (lv_at hl 4 rfl) ?_
      refine lv_iload hx hb dL_law_47 (lv_at hl 1 rfl) ?_
      refine g_calli hI (va_runS (As := [.ref (Np 0 0), .int v]) (rest := []) ⟨hx, hb, hml, hown, hts⟩ ((gMi_frameR (c_L_act l hl0 D cy de fp Np Ip v hRp hp (by omega) hmp) hd1) H.size) (va_cwS 2 hts gL_law_L_act rfl rfl rfl (by decide +kernel) ⟨Nat.le_of_ble_eq_true rfl, Nat.le_of_ble_eq_true rfl⟩) (g_preS hI) rfl rfl hl.1 rfl (lv_room (Nat.le_of_ble_eq_true rfl)) dL_law_49 ⟨by show 100 + 600 * k + 0 + 5 + 5 ≤ 600104; omega, by show 2000 + 5000 * k + 0 + 225 + 225 ≤ 7301314; omega⟩) (fun r2 f2 H locs hw hI => ?_)
      obtain ⟨g8, ⟨N2, I2, tk4, ⟨z2, hR2⟩, ⟨hS2, hm2⟩, hr2, -⟩, e8, hd2⟩ := hw
      rw [e8] at hI
      refine lv_iload hx hb dL_law_52 (lv_at hl 0 rfl) ?_
      refine lv_icmp_ne (tgt := 79) hx hb dL_law_54 (by decide) (fun z => absurd (hr2.trans hr1.symm) z) (fun _ => ?_)
      refine W.widen (k := 100 + 600 * k + 10) (n := 2000 + 5000 * k + 450) (by omega) (by omega) ?_
      exact law_57 hl0 C0 hk (fun f H locs ls hV hI hl => law_loop hl0 C0 hL n (k + 1) (by omega) f H locs ls hV hI hl) _ H locs ls ⟨N1, N2, I1, I2, (aX M v).2, g9, g8, tk3, tk4, ⟨z0, z2⟩, ⟨hR1, hR2, hd2, rfl⟩, hS1, hS2, hm1, hm2⟩ hI (lv_sub hl [2, 3, 4, 5] rfl)
