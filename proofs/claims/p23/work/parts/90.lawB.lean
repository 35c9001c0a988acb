-- ===== the wrappers, when the reference's state stands beside =====
/-- what the law is told -/
def tX (X : Int32 × gMd) : Int32 := if X.2 0 0 = 0 then X.1 else (-99999)
/-- behind a wrapper: X is what the reference says, and its state -/
def gZ (cy : Nat → ClassId) (de tg T : Nat) (M : gMd) (X : Int32 × gMd) (r9 : Int32) (f9 : gFm) : Prop :=
  ∃ (N : gNm) (I : gMd) (tk : Nat), (N 0 0 = tg ∧ gR cy de N I f9) ∧ (Sim N I X.2 tk (T + 1) ∧ mon N I) ∧ r9 = tX X ∧ (r9 = (-99999) → ∃ w, X.2 = mWell M w)
theorem nI_99 {n : Nat} (h : n ≤ 2 ^ 30) : ¬ nI n = (-99999) := fun z => by
  have := congrArg Int32.toInt z
  rw [nI_toInt (by omega), show (-99999 : Int32).toInt = -99999 by decide] at this
  omega
theorem pI_99 {v : Int32} {n : Nat} (h : pI v n) (hn : n ≤ 2 ^ 30) : ¬ v = (-99999) := by
  obtain ⟨j, hj, rfl⟩ := h
  exact nI_99 (by omega)
/-- the counts, by the reference's state -/
theorem Sim_nk {N : gNm} {I M : gMd} {tk T : Nat} (h : Sim N I M tk T) : ix (M 6 0) = N 0 7 := by
  rw [h.2.1.1]
  exact ix_nI (by have := h.2.1.2.2.1; omega)
theorem Sim_nc {N : gNm} {I M : gMd} {tk T : Nat} (h : Sim N I M tk T) : ix (M 13 0) = N 0 8 := by
  rw [h.2.1.2.1]
  exact ix_nI (by have := h.2.1.2.2.2.1; omega)
theorem sL_wN (I : gMd) : ∀ n, ∃ a, a ≤ n ∧ sL (wN I) n = nI a
  | 0 => ⟨0, Nat.le_refl _, nI_0.symm⟩
  | n + 1 => by
    obtain ⟨a, h1, h2⟩ := sL_wN I n
    by_cases e : I 18 n = -1
    · exact ⟨a + 1, by omega, by show sL (wN I) n + wN I n = _; rw [h2, show wN I n = 1 from if_pos e, nI_1]⟩
    · exact ⟨a, by omega, by show sL (wN I) n + wN I n = _; rw [h2, show wN I n = 0 from if_neg e, Int32.add_zero]⟩
theorem cnt_99 {v : Int32} {a b : Nat} (ha : a ≤ 80) (hb : b ≤ 80) (h : v + nI b = nI a) : ¬ v = (-99999) := fun z => by
  have e : nI b = nI (a + 99999) := by
    rw [← nI_add, ← h, z, show (99999 : Nat) = 99999 from rfl, show nI 99999 = (99999 : Int32) by decide]
    grind
  have := (nI_eq (by omega) (by omega)).mp e
  omega
theorem Sim_15 {N : gNm} {I M : gMd} {tk T : Nat} (h : Sim N I M tk T) : ∀ i, i < N 0 8 → ¬ I 15 i = -1 := fun i hi => by
  obtain ⟨⟨-, e, -, -⟩, -, ⟨w, h1, h2⟩, -, -⟩ := h.2.2.2.2.2.1 i hi
  rw [e, h2]
  intro z
  have := congrArg Int32.toInt z
  rw [nI_toInt (by omega), show (-1 : Int32).toInt = -1 by decide] at this
  omega
section GZF
variable {cy : Nat → ClassId} {de T : Nat} {N : gNm} {I M : gMd} {f : gFm} {tk : Nat}
theorem gZ_no (hR : gR cy de N I f) (h : Sim N I M tk T) (hT : T < 520) (hm : mon N I) {r v : Int32} (hr : ¬ r = 0) {X : Int32 × gMd} (e : X = (v, mWell M r)) : gZ cy de (N 0 0) T M X (-99999) f :=
  ⟨N, I, tk, ⟨rfl, hR⟩, ⟨by rw [e]; exact Sim_well r (Sim_T h hT), hm⟩, by rw [e]; unfold tX; rw [if_neg (by show ¬ mWell M r 0 0 = 0; rw [mwell_s]; exact hr)], fun _ => ⟨r, by rw [e]⟩⟩
theorem gZ_ok {N1 : gNm} {I1 M1 : gMd} {g9 : gFm} {tk1 : Nat} {v : Int32} (hR : gR cy de N1 I1 g9) (h0 : N1 0 0 = N 0 0) (h : Sim N1 I1 M1 tk1 (T + 1)) (hm : mon N1 I1) (h00 : M1 0 0 = 0) (hv : ¬ v = (-99999)) {X : Int32 × gMd} (e : X = (v, M1)) : gZ cy de (N 0 0) T M X v g9 :=
  ⟨N1, I1, tk1, ⟨h0, hR⟩, ⟨by rw [e]; exact h, hm⟩, by rw [e]; unfold tX; rw [if_pos h00], fun z => absurd z hv⟩
theorem gZ_rd (hR : gR cy de N I f) (h : Sim N I M tk T) (hT : T < 520) (hm : mon N I) {v : Int32} (hv : ¬ v = (-99999)) {X : Int32 × gMd} (e : X = (v, mWell M 0)) : gZ cy de (N 0 0) T M X v f :=
  gZ_ok (N := N) (N1 := N) hR rfl (Sim_well 0 (Sim_T h hT)) hm (mwell_s M 0) hv e
end GZF

set_option maxHeartbeats 4000000 in
theorem d_setPlan (l : Launch) (hl0 : l.stackTraces = false) (D : va_G) (cy : Nat → ClassId) (de : Nat) (f : gFm) (N : gNm) (I : gMd) (plan : Int32) (size : Int32) (refill : Int32) (slow : Int32) (hR : gR cy de N I f) {M : gMd} {tk T : Nat} (h : Sim N I M tk T) (hT : T < 520) (hm : mon N I) : gMi l yL_setPlan wsL_setPlan { frames := 8, cells := 4, slots := 24, locals := 129 } D cy de [.ref (N 0 0), .int plan, .int size, .int refill, .int slow] f (gZ cy de (N 0 0) T M ((0, mSetPlan M plan size refill slow))) 4 24 := by
  refine gMi_w (c_L_setPlan l hl0 D cy de f N I plan size refill slow hR) (fun r9 f9 q => ?_)
  dsimp only at q
  rcases q with ⟨q, rfl, rfl⟩ | ⟨rfl, j, hj, hk, h1, h2, h3, hR9⟩
  · rcases q with ⟨-, hk⟩ | ⟨j, hj, hk, ⟨-, h1⟩ | ⟨h1, ⟨-, h2⟩ | ⟨h2, -, h3⟩⟩⟩
    · exact gZ_no (v := 0) hR h hT hm (r := 1) (by decide) (by rw [X_setPlan plan size refill slow M (fun z => hk (mIn_p4.mp z.1))])
    · exact gZ_no (v := 0) hR h hT hm (r := 1) (by decide) (by rw [X_setPlan plan size refill slow M (fun z => h1 z.2.1)])
    · exact gZ_no (v := 0) hR h hT hm (r := 1) (by decide) (by rw [X_setPlan plan size refill slow M (fun z => h2 z.2.2.1)])
    · exact gZ_no (v := 0) hR h hT hm (r := 1) (by decide) (by rw [X_setPlan plan size refill slow M (fun z => h3 z.2.2.2)])
  · obtain ⟨k1, k2⟩ := P_setPlan h hT hj hk h1 h2 h3
    exact gZ_ok (N := N) hR9 rfl k2 (mon_iP hm _ _ _ _) k1 (by decide) rfl

set_option maxHeartbeats 4000000 in
theorem d_setRoute (l : Launch) (hl0 : l.stackTraces = false) (D : va_G) (cy : Nat → ClassId) (de : Nat) (f : gFm) (N : gNm) (I : gMd) (route : Int32) (price : Int32) (weight : Int32) (hR : gR cy de N I f) {M : gMd} {tk T : Nat} (h : Sim N I M tk T) (hT : T < 520) (hm : mon N I) : gMi l yL_setRoute wsL_setRoute { frames := 8, cells := 3, slots := 18, locals := 128 } D cy de [.ref (N 0 0), .int route, .int price, .int weight] f (gZ cy de (N 0 0) T M ((0, mSetRoute M route price weight))) 3 18 := by
  refine gMi_w (c_L_setRoute l hl0 D cy de f N I route price weight hR) (fun r9 f9 q => ?_)
  dsimp only at q
  rcases q with ⟨q, rfl, rfl⟩ | ⟨rfl, j, hj, hk, h1, h2, hR9⟩
  · rcases q with ⟨-, hk⟩ | ⟨j, hj, hk, ⟨-, h1⟩ | ⟨h1, -, h2⟩⟩
    · exact gZ_no (v := 0) hR h hT hm (r := 1) (by decide) (by rw [X_setRoute route price weight M (fun z => hk (mIn_p6.mp z.1))])
    · exact gZ_no (v := 0) hR h hT hm (r := 1) (by decide) (by rw [X_setRoute route price weight M (fun z => h1 z.2.1)])
    · exact gZ_no (v := 0) hR h hT hm (r := 1) (by decide) (by rw [X_setRoute route price weight M (fun z => h2 z.2.2)])
  · obtain ⟨k1, k2⟩ := P_setRoute h hT hj hk h1 h2
    exact gZ_ok (N := N) hR9 rfl k2 (mon_iRt hm _ _ _) k1 (by decide) rfl

set_option maxHeartbeats 4000000 in
theorem d_addKey (l : Launch) (hl0 : l.stackTraces = false) (D : va_G) (cy : Nat → ClassId) (de : Nat) (f : gFm) (N : gNm) (I : gMd) (plan : Int32) (hR : gR cy de N I f) {M : gMd} {tk T : Nat} (h : Sim N I M tk T) (hT : T < 520) (hm : mon N I) : gMi l yL_addKey wsL_addKey { frames := 8, cells := 3, slots := 215, locals := 233 } D cy de [.ref (N 0 0), .int plan] f (gZ cy de (N 0 0) T M (mAddKey M plan)) 3 215 := by
  refine gMi_w (c_L_addKey l hl0 D cy de f N I plan hR) (fun r9 f9 q => ?_)
  dsimp only at q
  rcases q with ⟨q, rfl, rfl⟩ | ⟨q, rfl, rfl⟩ | ⟨j, hj, hp, hn, ek, q9, rfl, hR9⟩
  · rcases q with ⟨-, hp⟩ | ⟨j, hj, hp, e9, -⟩
    · exact gZ_no hR h hT hm (by decide) (X_addKey1 hp)
    · exact absurd e9 (by decide)
  · rcases q with ⟨e9, -⟩ | ⟨j, hj, hp, -, hn⟩
    · exact absurd e9 (by decide)
    · exact gZ_no hR h hT hm (by decide) (X_addKey2 h hj hp hn)
  · obtain ⟨M1, k1, k2, k3⟩ := P_addKey h hT hj hp (g_lt8 h.2.1.2.2.1 hn) ek q9
    exact gZ_ok (N := N) (N1 := nKey N ek q9 j) hR9 rfl k3 (mon_addKey hm _ _ _ _) k2 (nI_99 (by have := h.2.1.2.2.1; omega)) k1

set_option maxHeartbeats 4000000 in
theorem d_setKeyPlan (l : Launch) (hl0 : l.stackTraces = false) (D : va_G) (cy : Nat → ClassId) (de : Nat) (f : gFm) (N : gNm) (I : gMd) (key : Int32) (plan : Int32) (hR : gR cy de N I f) {M : gMd} {tk T : Nat} (h : Sim N I M tk T) (hT : T < 520) (hm : mon N I) : gMi l yL_setKeyPlan wsL_setKeyPlan { frames := 8, cells := 2, slots := 12, locals := 128 } D cy de [.ref (N 0 0), .int key, .int plan] f (gZ cy de (N 0 0) T M (mSetKeyPlan M key plan)) 2 12 := by
  refine gMi_w (c_L_setKeyPlan l hl0 D cy de f N I key plan hR) (fun r9 f9 q => ?_)
  dsimp only at q
  rcases q with ⟨q, rfl, rfl⟩ | ⟨q, rfl, rfl⟩ | ⟨j, hj, hk, p0, hp0, hp, rfl, hR9⟩
  · rcases q with ⟨-, hk⟩ | ⟨j, hj, hk, e9, -⟩
    · exact gZ_no hR h hT hm (by decide) (X_setKeyPlan1 h hk)
    · exact absurd e9 (by decide)
  · rcases q with ⟨e9, -⟩ | ⟨j, hj, hk, -, hp⟩
    · exact absurd e9 (by decide)
    · exact gZ_no hR h hT hm (by decide) (X_setKeyPlan2 h hj hk hp)
  · obtain ⟨M1, k1, k2, k3⟩ := P_setKeyPlan h hT hj hk hp0 hp
    exact gZ_ok (N := N) (N1 := nPlan N j p0) hR9 rfl k3 (mon_same hm rfl (fun _ _ _ _ => rfl)) k2 (nI_99 (by have := h.2.1.2.2.2.2.1 j hj; omega)) k1

set_option maxHeartbeats 4000000 in
theorem d_setTrust (l : Launch) (hl0 : l.stackTraces = false) (D : va_G) (cy : Nat → ClassId) (de : Nat) (f : gFm) (N : gNm) (I : gMd) (key : Int32) (line : Int32) (hR : gR cy de N I f) {M : gMd} {tk T : Nat} (h : Sim N I M tk T) (hT : T < 520) (hm : mon N I) : gMi l yL_setTrust wsL_setTrust { frames := 8, cells := 2, slots := 12, locals := 128 } D cy de [.ref (N 0 0), .int key, .int line] f (gZ cy de (N 0 0) T M (mSetTrust M key line)) 2 12 := by
  refine gMi_w (c_L_setTrust l hl0 D cy de f N I key line hR) (fun r9 f9 q => ?_)
  dsimp only at q
  rcases q with ⟨q, rfl, rfl⟩ | ⟨q, rfl, rfl⟩ | ⟨j, hj, hk, hp, rfl, hR9⟩
  · rcases q with ⟨-, hk⟩ | ⟨j, hj, hk, e9, -⟩
    · exact gZ_no hR h hT hm (by decide) (X_setTrust1 h hk)
    · exact absurd e9 (by decide)
  · rcases q with ⟨e9, -⟩ | ⟨j, hj, hk, -, hp⟩
    · exact absurd e9 (by decide)
    · exact gZ_no hR h hT hm (by decide) (X_setTrust2 h hj hk hp)
  · obtain ⟨M1, k1, k2, k3⟩ := P_setTrust h hT hj hk hp
    obtain ⟨⟨-, -, a3, -⟩, -, -, -, -, c4⟩ := h.2.2.2.2.1 j hj
    exact gZ_ok (N := N) hR9 rfl k3 (mon_iK hm (fun _ _ _ _ => rfl) (hm j hj)) k2 (by rw [a3]; exact pI_99 c4 (by decide)) k1

set_option maxHeartbeats 4000000 in
theorem d_pay (l : Launch) (hl0 : l.stackTraces = false) (D : va_G) (cy : Nat → ClassId) (de : Nat) (f : gFm) (N : gNm) (I : gMd) (key : Int32) (money : Int32) (hR : gR cy de N I f) {M : gMd} {tk T : Nat} (h : Sim N I M tk T) (hT : T < 520) (hm : mon N I) : gMi l yL_pay wsL_pay { frames := 8, cells := 2, slots := 12, locals := 127 } D cy de [.ref (N 0 0), .int key, .int money] f (gZ cy de (N 0 0) T M (mPay M key money)) 2 12 := by
  refine gMi_w (c_L_pay l hl0 D cy de f N I key money hR) (fun r9 f9 q => ?_)
  dsimp only at q
  rcases q with ⟨q, rfl, rfl⟩ | ⟨q, rfl, rfl⟩ | ⟨j, hj, hk, hp, rfl, hR9⟩
  · rcases q with ⟨-, hk⟩ | ⟨j, hj, hk, e9, -⟩
    · exact gZ_no hR h hT hm (by decide) (X_pay1 h hk)
    · exact absurd e9 (by decide)
  · rcases q with ⟨e9, -⟩ | ⟨j, hj, hk, -, hp⟩
    · exact absurd e9 (by decide)
    · exact gZ_no hR h hT hm (by decide) (X_pay2 h hj hk hp)
  · obtain ⟨M1, k1, k2, k3⟩ := P_pay h hT hj hk hp
    have hv := k3.2.2.2.2.1 j hj
    obtain ⟨⟨-, -, -, a4, -⟩, -, c1, -⟩ := hv
    rw [(iK_s I j _ _ _ _ _ _ _ _).2.2.1] at a4
    exact gZ_ok (N := N) hR9 rfl k3 (mon_iK hm (fun _ _ _ _ => rfl) (mon_pay _ _ _ _ _ _ _ (hm j hj))) k2 (by rw [a4]; exact pI_99 c1 (by omega)) k1

set_option maxHeartbeats 4000000 in
theorem d_call (l : Launch) (hl0 : l.stackTraces = false) (D : va_G) (cy : Nat → ClassId) (de : Nat) (f : gFm) (N : gNm) (I : gMd) (key : Int32) (route : Int32) (size : Int32) (hR : gR cy de N I f) {M : gMd} {tk T : Nat} (h : Sim N I M tk T) (hT : T < 520) (hm : mon N I) : gMi l yL_call wsL_call { frames := 8, cells := 5, slots := 225, locals := 237 } D cy de [.ref (N 0 0), .int key, .int route, .int size] f (gZ cy de (N 0 0) T M (mCall M key route size)) 5 225 := by
  refine gMi_w (c_L_call l hl0 D cy de f N I key route size hR) (fun r9 f9 q => ?_)
  dsimp only at q
  rcases q with ⟨q, rfl, rfl⟩ | ⟨q, rfl, rfl⟩ | ⟨q, rfl, rfl⟩ | ⟨j, hj, hk, r, hr, hroute, hs, hn, q⟩
  · rcases q with ⟨-, hk⟩ | ⟨j, hj, hk, ⟨e9, -⟩ | ⟨r, hr, hroute, ⟨e9, -⟩ | ⟨hs, e9, -⟩⟩⟩
    · exact gZ_no hR h hT hm (by decide) (X_call1 h hk)
    · exact absurd e9 (by decide)
    · exact absurd e9 (by decide)
    · exact absurd e9 (by decide)
  · rcases q with ⟨e9, -⟩ | ⟨j, hj, hk, ⟨-, hroute⟩ | ⟨r, hr, hroute, ⟨-, hs⟩ | ⟨hs, e9, -⟩⟩⟩
    · exact absurd e9 (by decide)
    · exact gZ_no hR h hT hm (by decide) (X_call2 h hj hk (Or.inl (p6_f hroute)))
    · exact gZ_no hR h hT hm (by decide) (X_call2 h hj hk (Or.inr (b_f hs)))
    · exact absurd e9 (by decide)
  · rcases q with ⟨e9, -⟩ | ⟨j, hj, hk, ⟨e9, -⟩ | ⟨r, hr, hroute, ⟨e9, -⟩ | ⟨hs, -, hn⟩⟩⟩
    · exact absurd e9 (by decide)
    · exact absurd e9 (by decide)
    · exact absurd e9 (by decide)
    · exact gZ_no hR h hT hm (by decide) (X_call3 h hj hk hr hroute hs hn)
  · have hn9 := g_lt80 h.2.1.2.2.2.1 hn
    rcases q with ⟨ek, q9, h1, h2, rfl, hR9⟩ | ⟨h1, h2, rfl, rfl⟩ | ⟨h1, rfl, rfl⟩
    · obtain ⟨M1, k1, k2, k3⟩ := P_callA h hT hj hk hr hroute hs hn9 h1 h2 ek q9
      exact gZ_ok (N := N) (N1 := nCall N ek q9 j) hR9 rfl k3 (mon_iGo hm hj r _ ek q9) k2 (by decide) k1
    · exact gZ_rd hR h hT hm (by decide) (P_callB h hT hj hk hr hroute hs hn9 h1 h2)
    · exact gZ_rd hR h hT hm (by decide) (P_callC h hj hk hr hroute hs hn9 h1)

set_option maxHeartbeats 4000000 in
theorem d_end (l : Launch) (hl0 : l.stackTraces = false) (D : va_G) (cy : Nat → ClassId) (de : Nat) (f : gFm) (N : gNm) (I : gMd) (call : Int32) (oc : Int32) (hR : gR cy de N I f) {M : gMd} {tk T : Nat} (h : Sim N I M tk T) (hT : T < 520) (hm : mon N I) : gMi l yL_end wsL_end { frames := 8, cells := 3, slots := 18, locals := 127 } D cy de [.ref (N 0 0), .int call, .int oc] f (gZ cy de (N 0 0) T M (mEnd M call oc)) 3 18 := by
  refine gMi_w (c_L_end l hl0 D cy de f N I call oc hR) (fun r9 f9 q => ?_)
  dsimp only at q
  rcases q with ⟨q, rfl, rfl⟩ | ⟨q, rfl, rfl⟩ | ⟨q, rfl, rfl⟩ | ⟨j, hj, hk, hp, he, rfl, hR9⟩
  · rcases q with ⟨-, hk⟩ | ⟨j, hj, hk, ⟨e9, -⟩ | ⟨hp, e9, -⟩⟩
    · exact gZ_no hR h hT hm (by decide) (X_end1 h hk)
    · exact absurd e9 (by decide)
    · exact absurd e9 (by decide)
  · rcases q with ⟨e9, -⟩ | ⟨j, hj, hk, ⟨-, hp⟩ | ⟨hp, e9, -⟩⟩
    · exact absurd e9 (by decide)
    · exact gZ_no hR h hT hm (by decide) (X_end2 h hj hk hp)
    · exact absurd e9 (by decide)
  · rcases q with ⟨e9, -⟩ | ⟨j, hj, hk, ⟨e9, -⟩ | ⟨hp, -, he⟩⟩
    · exact absurd e9 (by decide)
    · exact absurd e9 (by decide)
    · exact gZ_no hR h hT hm (by decide) (X_end3 h hj hk hp he)
  · obtain ⟨M1, k1, k2, k3⟩ := P_end h hT hj hk hp he
    obtain ⟨⟨-, d2, -, -⟩, -, ⟨w0, d5, d6⟩, -, -⟩ := h.2.2.2.2.2.1 j hj
    obtain ⟨c0, e1, e2⟩ := cost_le (d2.trans d6) (by omega) oc
    exact gZ_ok (N := N) (I1 := iSettle N I j oc) hR9 rfl k3 (mon_settle hm (h.2.1.2.2.2.2.2 j hj) oc) k2 (by rw [e2]; exact nI_99 (by omega)) k1

set_option maxHeartbeats 4000000 in
theorem d_dispute (l : Launch) (hl0 : l.stackTraces = false) (D : va_G) (cy : Nat → ClassId) (de : Nat) (f : gFm) (N : gNm) (I : gMd) (call : Int32) (hR : gR cy de N I f) {M : gMd} {tk T : Nat} (h : Sim N I M tk T) (hT : T < 520) (hm : mon N I) : gMi l yL_dispute wsL_dispute { frames := 8, cells := 2, slots := 12, locals := 125 } D cy de [.ref (N 0 0), .int call] f (gZ cy de (N 0 0) T M (mDispute M call)) 2 12 := by
  refine gMi_w (c_L_dispute l hl0 D cy de f N I call hR) (fun r9 f9 q => ?_)
  dsimp only at q
  rcases q with ⟨q, rfl, rfl⟩ | ⟨q, rfl, rfl⟩ | ⟨j, hj, hk, n1, n2, n3, rfl, hR9⟩
  · rcases q with ⟨-, hk⟩ | ⟨j, hj, hk, ⟨e9, -⟩ | ⟨n1, ⟨e9, -⟩ | ⟨n2, e9, -⟩⟩⟩
    · exact gZ_no hR h hT hm (by decide) (X_dispute1 h hk)
    · exact absurd e9 (by decide)
    · exact absurd e9 (by decide)
    · exact absurd e9 (by decide)
  · rcases q with ⟨e9, -⟩ | ⟨j, hj, hk, ⟨-, n1⟩ | ⟨n1, ⟨-, n2⟩ | ⟨n2, -, n3⟩⟩⟩
    · exact absurd e9 (by decide)
    · exact gZ_no hR h hT hm (by decide) (X_dispute2 h hj hk (Or.inl (X_disA h hj n1)))
    · exact gZ_no hR h hT hm (by decide) (X_dispute2 h hj hk (Or.inr (Or.inl (X_disB h hj n2))))
    · exact gZ_no hR h hT hm (by decide) (X_dispute2 h hj hk (Or.inr (Or.inr (X_disC h hj n1 n3))))
  · obtain ⟨M1, k1, k2, k3⟩ := P_dispute h hT hj hk n1 n2 n3
    have hv : ¬ I 18 j = (-99999) := by
      rcases (h.2.2.2.2.2.1 j hj).2.2.2.2 with d | d
      · rw [d.2.1]; decide
      · rw [d.2.1]; exact pI_99 d.2.2.2.1 (by decide)
    exact gZ_ok (N := N) (I1 := iDis N I j) hR9 rfl k3 (mon_dis hm (h.2.1.2.2.2.2.2 j hj)) k2 hv k1

set_option maxHeartbeats 4000000 in
theorem d_pass (l : Launch) (hl0 : l.stackTraces = false) (D : va_G) (cy : Nat → ClassId) (de : Nat) (f : gFm) (N : gNm) (I : gMd) (ticks : Int32) (hR : gR cy de N I f) {M : gMd} {tk T : Nat} (h : Sim N I M tk T) (hT : T < 520) (hm : mon N I) : gMi l yL_pass wsL_pass { frames := 8, cells := 1, slots := 6, locals := 127 } D cy de [.ref (N 0 0), .int ticks] f (gZ cy de (N 0 0) T M (mPass (ix (M 6 0)) (ix (M 13 0)) M ticks)) 1 6 := by
  refine gMi_w (c_L_pass l hl0 D cy de f N I ticks hR (Sim_nx h)) (fun r9 f9 q => ?_)
  dsimp only at q
  rw [Sim_nk h, Sim_nc h]
  rcases q with ⟨⟨-, hp⟩, rfl, rfl⟩ | ⟨hp, rfl, hR9⟩
  · exact gZ_no hR h hT hm (by decide) (X_pass h hp)
  · obtain ⟨M1, tk1, k1, k2, k3⟩ := P_pass h hT hp
    have h80 := h.2.1.2.2.2.1
    obtain ⟨c1, c2⟩ := cnt_passL (N := N) h.2.1.2.2.2.2.2 h80 (ix ticks) 0 I (Sim_nx h) hm (Sim_15 h)
    obtain ⟨a, a1, a2⟩ := sL_wN I (N 0 8)
    obtain ⟨b, b1, b2⟩ := sL_wN (iPassL N (ix ticks) 0 I).2 (N 0 8)
    rw [a2, b2, Int32.zero_add] at c2
    exact gZ_ok (N := N) hR9 rfl k3 c1 k2 (cnt_99 (by omega) (by omega) c2) k1

theorem d_credit (l : Launch) (hl0 : l.stackTraces = false) (D : va_G) (cy : Nat → ClassId) (de : Nat) (f : gFm) (N : gNm) (I : gMd) (key : Int32) (hR : gR cy de N I f) {M : gMd} {tk T : Nat} (h : Sim N I M tk T) : gMi l yL_credit wsL_credit { frames := 8, cells := 1, slots := 6, locals := 124 } D cy de [.ref (N 0 0), .int key] f (fun r9 f9 => (f9 = f ∧ ((¬ pI key (N 0 7) ∧ r9 = (-1)) ∨ ∃ j, j < N 0 7 ∧ key = nI j ∧ r9 = I 9 j))) 1 6 := by
  refine gMi_w (c_L_credit l hl0 D cy de f N I key hR) (fun r9 f9 q => ?_)
  dsimp only at q
  rcases q with ⟨⟨-, hp⟩, rfl, rfl⟩ | ⟨j, hj, hk, rfl, rfl⟩
  · exact ⟨rfl, Or.inl ⟨hp, rfl⟩⟩
  · exact ⟨rfl, Or.inr ⟨j, hj, hk, rfl⟩⟩

