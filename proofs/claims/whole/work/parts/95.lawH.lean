/-! THE CLAIM OUT OF ONE WALK OF THE LAW'S BODY. Your part is whole_start (and what it stands on); all else here is the same for every law, but numbers. -/
def R_law : String := "TollGatewayLaw"
def lw_P (b : Addr) (xs : List Int32) (args : Array Value) (s : State) : Prop := args = #[.ref b] ∧ s.IntsAt b xs ∧ xs.length ≤ 2560 ∧ (Jvm.Cond.and given_1 narrow_1).before args s = true
def lw_Q (_ : Array Value) (s : State) (o : Outcome) (t : State) : Prop := o = .returned (some (.int 1)) ∧ Framed s o t [] 601024 7293034
def lw_Z (below : List Frame) (a : Array Value) (s : State) : State → Prop := fun t => ∃ o, t.status = .running ∧ Ended t below o ∧ lw_Q a s o t
/-- the law's own end, with 1 on the stack, nothing written that was there before, its room as the claim has it -/
theorem lw_ret {p : Program} {l : Launch} {e : Env} {s : State} {m : MethodId} {below : List Frame} {meth : Method} {c : Code} {b : Nat} (hx : p.tables.exec = Jvm.exec) (hb : c.code = code) (hr : meth.sig.returnType = ret) (hlocks : meth.locks = false) {pc : Nat} {H : Heap} {ls : Array Slot} (hdg : decode code pc = .ok (.ireturn, 1)) : W p l e room_1 s m #[Value.ref b] below meth c H [] 601024 7293034 (lw_Z below #[Value.ref b] s) (F0 m pc ls [.int 1]) := by
  intro T hT X
  obtain ⟨fs, hret, hrun, hended, hW, hframe⟩ := X.leave (v := some (.int 1)) (hlocks := hlocks) (fun h => by rw [hr] at h; cases h)
  have hmeth' : T.vm.method? m = some meth := X.method'
  refine ⟨T.setFrames fs, ?_, .returned (some (.int 1)), hrun, hended, rfl, ⟨_, rfl⟩, hW, hframe⟩
  jvm_step X.here [X.here.top, hx, hb, hdg, hmeth', hr, ret, narrow_b1]
  (try refine ⟨rfl, ?_⟩); (try refine ⟨rfl, ?_⟩)
  first | (intro acts; rw [hret _ acts rfl rfl rfl]) | rw [hret _ _ rfl rfl rfl]
  exact Steps.refl _
/-- what holds at the law's entry: the machine, the code, the tables' words (any of lw_tbl by 'hts w (by decide +kernel)'), the script of L ints xs at the cell b, what the Statement gives of the start (any of its parts by flat_of_before) -/
def lw_At (p : Program) (s : State) (m : MethodId) (meth : Method) (c : Code) (b L : Nat) (xs : Nat → Int32) : Prop :=
  p.tables.exec = Jvm.exec ∧ c.code = code ∧ meth.sig.returnType = ret ∧ c.maxLocals = 7 ∧ s.vm.findClass R_law = some m.cls ∧ (∀ w ∈ lw_tbl, w.before #[Value.ref b] s = true) ∧ va_X b L xs s s.heap ∧ b < s.heap.size ∧ meth.locks = false ∧ (Jvm.Cond.and given_1 narrow_1).before #[Value.ref b] s = true
theorem lw_sw (x : Int32) : (x.toInt < 0 ∨ 19 < x.toInt) ∨ ∃ k, k < 20 ∧ x = nI k := by
  by_cases h : x < 0
  · have h2 := Int32.lt_iff_toInt_lt.mp h
    rw [show (0 : Int32).toInt = 0 by decide] at h2
    exact Or.inl (Or.inl h2)
  · obtain ⟨j, hj, rfl⟩ := nI_of h
    by_cases z : j < 20
    · exact Or.inr ⟨j, z, rfl⟩
    · exact Or.inl (Or.inr (by rw [nI_toInt hj]; omega))
theorem lw_len {L T : Nat} (hL : L ≤ 2560) (hT : 5 * T ≤ L) (h : ¬ (Int32.ofNat L - 5 < nI (5 * T))) : 5 * T + 5 ≤ L := by
  rcases Nat.lt_or_ge L 5 with q | q
  · refine absurd ?_ h
    rcases (show L = 0 ∨ L = 1 ∨ L = 2 ∨ L = 3 ∨ L = 4 by omega) with rfl | rfl | rfl | rfl | rfl <;> exact Int32.lt_of_lt_of_le (show _ < (0 : Int32) by decide) (nI_pos' (by omega))
  · rcases Nat.lt_or_ge (L - 5) (5 * T) with z | z
    · refine absurd ?_ h
      have e : Int32.ofNat L - 5 = nI (L - 5) := pk_sub (b := 5) q
      rw [e]
      exact nI_lt z (by omega)
    · omega
theorem lwW_T {cy : Nat → ClassId} {de ou tg mm : Nat} {ma : Nat → Nat} {T : Nat} {f : gFm} (h : lwW cy de ou tg mm ma T f) (hT : T < 520) : lwW cy de ou tg mm ma (T + 1) f := by
  obtain ⟨N, I, M, fG, fM, y, tk, ⟨e0, hR, hd, hS⟩, h2⟩ := h
  exact ⟨N, I, M, fG, fM, y, tk, ⟨e0, hR, hd, Sim_T hS hT⟩, h2⟩
set_option maxHeartbeats 4000000 in
set_option maxRecDepth 100000 in
/-- THE LAW'S LOOP: T calls done, the class and the reference agree -/
theorem law_loop {p : Program} {l : Launch} {e : Env} {s : State} {m : MethodId} {below : List Frame} {meth : Method} {c : Code} {D : va_G} {cy : Nat → ClassId} {de b L : Nat} {xs : Nat → Int32} {tg mm ou : Nat} {ma : Nat → Nat} (hl0 : l.stackTraces = false) (hL : L ≤ 2560) (C0 : lw_At p s m meth c b L xs) :
    ∀ (n T : Nat), 513 ≤ T + n → 5 * T ≤ L → ∀ (x4 : Int32), x4 = nI (5 * T) → ∀ (f : gFm) (H : Heap) (locs : List Loc) (ls : Array Slot), lwW cy de ou tg mm ma T f → gI D cy de (lwA s) s f H locs → lv_has ls 7 [(0, .ref b), (1, .ref tg), (2, .ref mm), (3, .ref ou), (4, .int x4)] → W p l e room_1 s m #[Value.ref b] below meth c H locs (40 + 20 * T) (800 + 300 * T) (lw_Z below #[Value.ref b] s) (F0 m 23 ls []) := by
  obtain ⟨hx, hb, hr, hml, hown, hts0, hX, hbl, hlocks, hgv⟩ := C0
  have hts : ∀ w ∈ wsL_law, w.before #[Value.ref b] s = true := fun w h => hts0 w (wsL_law_in w h)
  have hbA : ¬ lwA s b := Nat.not_le.mpr hbl
  intro n
  induction n with
  | zero =>
    intro T h1 h2
    exact absurd h1 (by omega)
  | succ n ih =>
    intro T hn hT x4 ex4 f H locs ls hW hI hl
    refine lv_iload hx hb dL_law_23 (lv_at hl 4 rfl) ?_
    refine lv_aload_n hx hb dL_law_25 rfl (lv_at hl 0 rfl) ?_
    refine va_slen hx hb hX hbl hbA hI.2.1 dL_law_26 ?_
    refine lv_iconst (v := 5) hx hb dL_law_27 (by decide) ?_
    refine lv_isub hx hb dL_law_28 ?_
    refine lv_icmp_gt (tgt := 1271) hx hb dL_law_29 (by decide) (fun c1 => ?_) (fun c1 => ?_)
    · refine lv_iconst (v := 1) hx hb dL_law_1271 (by decide) ?_
      refine va_forget (fun q hq => hI.2.1.2.2 q hq) ?_
      refine W.widen (k := 601024) (n := 7293034) (by omega) (by omega) ?_
      exact lw_ret hx hb hr hlocks dL_law_1272
    · have hlt : 5 * T + 5 ≤ L := lw_len hL hT (by rw [← ex4]; exact c1)
      have v0 : vp_in x4 L := by rw [ex4]; exact vp_in_nI (by omega) (by omega)
      have v1 : vp_in (x4 + 1) L := by rw [ex4, show nI (5 * T) + 1 = nI (5 * T + 1) from nI_add _ 1]; exact vp_in_nI (by omega) (by omega)
      have v2 : vp_in (x4 + 2) L := by rw [ex4, show nI (5 * T) + 2 = nI (5 * T + 2) from nI_add _ 2]; exact vp_in_nI (by omega) (by omega)
      have v3 : vp_in (x4 + 3) L := by rw [ex4, show nI (5 * T) + 3 = nI (5 * T + 3) from nI_add _ 3]; exact vp_in_nI (by omega) (by omega)
      have v4 : vp_in (x4 + 4) L := by rw [ex4, show nI (5 * T) + 4 = nI (5 * T + 4) from nI_add _ 4]; exact vp_in_nI (by omega) (by omega)
      have C1 : lwC p s m c b L xs x4 := ⟨hx, hb, hml, hown, hts, hX, hbl, v1, v2, v3, v4⟩
      have kk : ∀ (f1 : gFm) (H1 : Heap) (locs1 : List Loc) (ls1 : Array Slot), lwW cy de ou tg mm ma (T + 1) f1 → gI D cy de (lwA s) s f1 H1 locs1 → lv_has ls1 7 [(0, .ref b), (1, .ref tg), (2, .ref mm), (3, .ref ou), (4, .int x4)] → W p l e room_1 s m #[Value.ref b] below meth c H1 locs1 (40 + 20 * T + 20) (800 + 300 * T + 300) (lw_Z below #[Value.ref b] s) (F0 m 1265 ls1 []) := by
        intro f1 H1 locs1 ls1 hW1 hI1 hl1
        obtain ⟨x5, ex5⟩ : ∃ y : Int32, y = x4 + 5 := ⟨_, rfl⟩
        refine lv_iinc (v := x5) (lv' := [(4, .int x5), (0, .ref b), (1, .ref tg), (2, .ref mm), (3, .ref ou)]) hx hb dL_law_1265 hl1 (k := 4) rfl (by rw [ex5]; rfl) (by decide) rfl (fun ls2 hl2 => ?_)
        refine lv_goto (tgt := 23) hx hb dL_law_1268 (by decide) ?_
        exact W.widen (k := 40 + 20 * (T + 1)) (n := 800 + 300 * (T + 1)) (by omega) (by omega) (ih (T + 1) (by omega) (by omega) x5 (by rw [ex5, ex4, show 5 * (T + 1) = 5 * T + 5 by omega]; exact nI_add _ 5) f1 H1 locs1 ls2 hW1 hI1 (lv_sub hl2 [1, 2, 3, 4, 0] rfl))
      refine lv_aload_n hx hb dL_law_32 rfl (lv_at hl 0 rfl) ?_
      refine lv_iload hx hb dL_law_33 (lv_at hl 4 rfl) ?_
      refine va_sld hx hb hX hbl hbA hI.2.1 v0 dL_law_35 ?_
      refine lv_bipush (v := 31) hx hb dL_law_36 (by decide) ?_
      refine lv_iand hx hb dL_law_38 ?_
      refine lv_topi (fun op eop => ?_)
      clear eop
      rcases lw_sw op with ho | ⟨k, hk, rfl⟩
      · refine lv_tableOut (tgt := 1265) hx hb dL_law_39 ho (by decide) ?_
        exact W.widen (by omega) (by omega) (kk f H locs ls (lwW_T hW (by omega)) hI hl)
      · rcases (show k = 0 ∨ k = 1 ∨ k = 2 ∨ k = 3 ∨ k = 4 ∨ k = 5 ∨ k = 6 ∨ k = 7 ∨ k = 8 ∨ k = 9 ∨ k = 10 ∨ k = 11 ∨ k = 12 ∨ k = 13 ∨ k = 14 ∨ k = 15 ∨ k = 16 ∨ k = 17 ∨ k = 18 ∨ k = 19 by omega) with rfl | rfl | rfl | rfl | rfl | rfl | rfl | rfl | rfl | rfl | rfl | rfl | rfl | rfl | rfl | rfl | rfl | rfl | rfl | rfl
        · refine lv_tableIn (off := 93) (tgt := 132) hx hb dL_law_39 (by decide) (by decide) (by decide) (by decide) ?_
          exact lw_setPlan hl0 C1 (by omega) (by omega) (by omega) hW hI hl kk
        · refine lv_tableIn (off := 165) (tgt := 204) hx hb dL_law_39 (by decide) (by decide) (by decide) (by decide) ?_
          exact lw_setRoute hl0 C1 (by omega) (by omega) (by omega) hW hI hl kk
        · refine lv_tableIn (off := 225) (tgt := 264) hx hb dL_law_39 (by decide) (by decide) (by decide) (by decide) ?_
          exact lw_addKey hl0 C1 (by omega) (by omega) (by omega) hW hI hl kk
        · refine lv_tableIn (off := 281) (tgt := 320) hx hb dL_law_39 (by decide) (by decide) (by decide) (by decide) ?_
          exact lw_setKeyPlan hl0 C1 (by omega) (by omega) (by omega) hW hI hl kk
        · refine lv_tableIn (off := 349) (tgt := 388) hx hb dL_law_39 (by decide) (by decide) (by decide) (by decide) ?_
          exact lw_setTrust hl0 C1 (by omega) (by omega) (by omega) hW hI hl kk
        · refine lv_tableIn (off := 417) (tgt := 456) hx hb dL_law_39 (by decide) (by decide) (by decide) (by decide) ?_
          exact lw_pay hl0 C1 (by omega) (by omega) (by omega) hW hI hl kk
        · refine lv_tableIn (off := 485) (tgt := 524) hx hb dL_law_39 (by decide) (by decide) (by decide) (by decide) ?_
          exact lw_call hl0 C1 (by omega) (by omega) (by omega) hW hI hl kk
        · refine lv_tableIn (off := 565) (tgt := 604) hx hb dL_law_39 (by decide) (by decide) (by decide) (by decide) ?_
          exact lw_end hl0 C1 (by omega) (by omega) (by omega) hW hI hl kk
        · refine lv_tableIn (off := 633) (tgt := 672) hx hb dL_law_39 (by decide) (by decide) (by decide) (by decide) ?_
          exact lw_dispute hl0 C1 (by omega) (by omega) (by omega) hW hI hl kk
        · refine lv_tableIn (off := 689) (tgt := 728) hx hb dL_law_39 (by decide) (by decide) (by decide) (by decide) ?_
          exact lw_pass hl0 C1 (by omega) (by omega) (by omega) hW hI hl kk
        · refine lv_tableIn (off := 745) (tgt := 784) hx hb dL_law_39 (by decide) (by decide) (by decide) (by decide) ?_
          exact lw_now hl0 C1 (by omega) (by omega) (by omega) hW hI hl kk
        · refine lv_tableIn (off := 758) (tgt := 797) hx hb dL_law_39 (by decide) (by decide) (by decide) (by decide) ?_
          exact lw_calls hl0 C1 (by omega) (by omega) (by omega) hW hI hl kk
        · refine lv_tableIn (off := 771) (tgt := 810) hx hb dL_law_39 (by decide) (by decide) (by decide) (by decide) ?_
          exact lw_credit hl0 C1 (by omega) (by omega) (by omega) hW hI hl kk
        · refine lv_tableIn (off := 827) (tgt := 866) hx hb dL_law_39 (by decide) (by decide) (by decide) (by decide) ?_
          exact lw_debt hl0 C1 (by omega) (by omega) (by omega) hW hI hl kk
        · refine lv_tableIn (off := 883) (tgt := 922) hx hb dL_law_39 (by decide) (by decide) (by decide) (by decide) ?_
          exact lw_held hl0 C1 (by omega) (by omega) (by omega) hW hI hl kk
        · refine lv_tableIn (off := 939) (tgt := 978) hx hb dL_law_39 (by decide) (by decide) (by decide) (by decide) ?_
          exact lw_tokens hl0 C1 (by omega) (by omega) (by omega) hW hI hl kk
        · refine lv_tableIn (off := 995) (tgt := 1034) hx hb dL_law_39 (by decide) (by decide) (by decide) (by decide) ?_
          exact lw_isSlowed hl0 C1 (by omega) (by omega) (by omega) hW hI hl kk
        · refine lv_tableIn (off := 1058) (tgt := 1097) hx hb dL_law_39 (by decide) (by decide) (by decide) (by decide) ?_
          exact lw_cost hl0 C1 (by omega) (by omega) (by omega) hW hI hl kk
        · refine lv_tableIn (off := 1114) (tgt := 1153) hx hb dL_law_39 (by decide) (by decide) (by decide) (by decide) ?_
          exact lw_spent hl0 C1 (by omega) (by omega) (by omega) hW hI hl kk
        · refine lv_tableIn (off := 1170) (tgt := 1209) hx hb dL_law_39 (by decide) (by decide) (by decide) (by decide) ?_
          exact lw_paid hl0 C1 (by omega) (by omega) (by omega) hW hI hl kk
