-- ===== the law's wrappers, when the two states agree =====
theorem gJ_comm {f g : gFm} (hd : gDj f g) : gJ f g = gJ g f := by
  funext a
  cases hf : f a with
  | none =>
    rw [gJ_r hf]
    cases hg : g a with
    | none => rw [gJ_r hg, hf]
    | some e => rw [gJ_l hg]
  | some e => rw [gJ_l hf, gJ_r (hd a (by rw [hf]; exact Option.some_ne_none e)), hf]
theorem gDj_symm {f g : gFm} (hd : gDj f g) : gDj g f := fun _ ha => gDj_r hd ha
theorem gMi_w {l : Launch} {y : MethodName} {ws : List Cond} {rm : Room} {D : va_G} {cy : Nat → ClassId} {de : Nat} {av : List Value} {f : gFm} {post post1 : Int32 → gFm → Prop} {mc ms : Nat} (h : gMi l y ws rm D cy de av f post mc ms) (k : ∀ r g, post r g → post1 r g) : gMi l y ws rm D cy de av f post1 mc ms :=
  fun sz => MetFree.mono (h sz) (fun _ _ h => h) (fun _ _ _ _ _ h => h) (fun _ _ _ _ _ q => by
    obtain ⟨⟨⟨r, u, h1, h2, h3⟩, h4⟩, L⟩ := q
    exact ⟨⟨⟨r, u, h1, k r u h2, h3⟩, h4⟩, L⟩)
theorem gMv_w {l : Launch} {y : MethodName} {ws : List Cond} {rm : Room} {D : va_G} {cy : Nat → ClassId} {de : Nat} {av : List Value} {f : gFm} {post post1 : gFm → Prop} {mc ms : Nat} (h : gMv l y ws rm D cy de av f post mc ms) (k : ∀ g, post g → post1 g) : gMv l y ws rm D cy de av f post1 mc ms :=
  fun sz => MetFree.mono (h sz) (fun _ _ h => h) (fun _ _ _ _ _ h => h) (fun _ _ _ _ _ q => by
    obtain ⟨⟨⟨u, h1, h2, h3⟩, h4⟩, L⟩ := q
    exact ⟨⟨⟨u, h1, k u h2, h3⟩, h4⟩, L⟩)
/-- the frame on the other side -/
theorem gMi_frameR {l : Launch} {y : MethodName} {ws : List Cond} {rm : Room} {D : va_G} {cy : Nat → ClassId} {de : Nat} {av : List Value} {f g : gFm} {post : Int32 → gFm → Prop} {mc ms : Nat} (h : gMi l y ws rm D cy de av g post mc ms) (hd : gDj f g) : gMi l y ws rm D cy de av (gJ f g) (fun r f9 => ∃ g9, post r g9 ∧ f9 = gJ f g9 ∧ gDj f g9) mc ms := by
  rw [gJ_comm hd]
  exact gMi_w (gMi_frame h (gDj_symm hd)) (fun r f9 q => by
    obtain ⟨g9, q1, q2, q3⟩ := q
    exact ⟨g9, q1, by rw [q2, gJ_comm q3], gDj_symm q3⟩)
theorem gMv_frameR {l : Launch} {y : MethodName} {ws : List Cond} {rm : Room} {D : va_G} {cy : Nat → ClassId} {de : Nat} {av : List Value} {f g : gFm} {post : gFm → Prop} {mc ms : Nat} (h : gMv l y ws rm D cy de av g post mc ms) (hd : gDj f g) : gMv l y ws rm D cy de av (gJ f g) (fun f9 => ∃ g9, post g9 ∧ f9 = gJ f g9 ∧ gDj f g9) mc ms := by
  rw [gJ_comm hd]
  exact gMv_w (gMv_frame h (gDj_symm hd)) (fun f9 q => by
    obtain ⟨g9, q1, q2, q3⟩ := q
    exact ⟨g9, q1, by rw [q2, gJ_comm q3], gDj_symm q3⟩)
/-- behind a call: r is the code of what the class threw (0: it returned), M9 the reference's state behind the same call -/
def gAf (cy : Nat → ClassId) (de ou tg T : Nat) (r : Int32) (M9 : gMd) (Z : (Nat → Int64) → Prop) (a9 : gFm) : Prop :=
  ∃ (N : gNm) (I : gMd) (fG : gFm) (y : Nat → Int64) (tk : Nat), (N 0 0 = tg ∧ gR cy de N I fG ∧ gDj fG (gO cy ou y) ∧ a9 = gJ fG (gO cy ou y)) ∧ Sim N I M9 tk T ∧ M9 0 0 = r ∧ Z y
section GAF
variable {cy : Nat → ClassId} {de ou T : Nat} {y : Nat → Int64} {N : gNm} {I M : gMd} {fG : gFm} {tk : Nat}
theorem gAf_no (hR : gR cy de N I fG) (hd : gDj fG (gO cy ou y)) (h : Sim N I M tk T) (hT : T < 520) {r : Int32} (hr : ¬ r = 0) {X : Int32 × gMd} (e : X = (0, mWell M r)) {Z : (Nat → Int64) → Prop} : gAf cy de ou (N 0 0) (T + 1) r X.2 (fun y => r = 0 → Z y) (gJ fG (gO cy ou y)) :=
  ⟨N, I, fG, y, tk, ⟨rfl, hR, hd, rfl⟩, by rw [e]; exact Sim_well r (Sim_T h hT), by rw [e]; exact mwell_s M r, fun z => absurd z hr⟩
theorem vp_updL0 (y : Nat → Int64) (v : Int64) : vp_updL y (Int32.toNatClampNeg 0) v 0 = v := if_pos rfl
theorem gAf_ok {N1 : gNm} {I1 M1 : gMd} {g9 : gFm} {tk1 T1 : Nat} (hR : gR cy de N1 I1 g9) (h0 : N1 0 0 = N 0 0) (hd : gDj g9 (gO cy ou y)) (h : Sim N1 I1 M1 tk1 T1) (h00 : M1 0 0 = 0) {X : Int32 × gMd} {v : Int32} (e : X = (v, M1)) : gAf cy de ou (N 0 0) T1 0 X.2 (fun y => (0 : Int32) = 0 → y 0 = Int32.toInt64 X.1) (gJ g9 (gO cy ou (vp_updL y (Int32.toNatClampNeg 0) (Int32.toInt64 v)))) :=
  ⟨N1, I1, g9, _, tk1, ⟨h0, hR, gO_dj hd, rfl⟩, by rw [e]; exact h, by rw [e]; exact h00, fun _ => by rw [e]; exact vp_updL0 _ _⟩
theorem gAf_rd (hR : gR cy de N I fG) (hd : gDj fG (gO cy ou y)) (h : Sim N I M tk T) (hT : T < 520) {X : Int32 × gMd} {v : Int32} (e : X = (v, mWell M 0)) : gAf cy de ou (N 0 0) (T + 1) 0 X.2 (fun y => (0 : Int32) = 0 → y 0 = Int32.toInt64 X.1) (gJ fG (gO cy ou (vp_updL y (Int32.toNatClampNeg 0) (Int32.toInt64 v)))) :=
  gAf_ok (N1 := N) hR rfl hd (Sim_well 0 (Sim_T h hT)) (mwell_s M 0) e
end GAF

set_option maxHeartbeats 4000000 in
theorem d_addKey (l : Launch) (hl0 : l.stackTraces = false) (D : va_G) (cy : Nat → ClassId) (de : Nat) (fG : gFm) (ou : Nat) (y : Nat → Int64) (N : gNm) (I : gMd) (plan : Int32) (hR : gR cy de N I fG) (hd : gDj fG (gO cy ou y)) {M : gMd} {tk T : Nat} (h : Sim N I M tk T) (hT : T < 520) : gMi l yL_addKey wsL_addKey { frames := 8, cells := 3, slots := 215, locals := 233 } D cy de [.ref (N 0 0), .int plan, .ref ou] (gJ fG (gO cy ou y)) (fun r9 f9 => gAf cy de ou (N 0 0) (T + 1) r9 (mAddKey M plan).2 (fun y => r9 = 0 → y 0 = Int32.toInt64 (mAddKey M plan).1) f9) 3 215 := by
  refine gMi_w (c_L_addKey l hl0 D cy de fG ou y N I plan hR hd) (fun r9 f9 q => ?_)
  dsimp only at q
  rcases q with ⟨q, rfl, rfl⟩ | ⟨q, rfl, rfl⟩ | ⟨rfl, v9, g9, ⟨j, hj, hp, hn, ek, q9, rfl, hR9⟩, rfl, hd9⟩
  · rcases q with ⟨-, hp⟩ | ⟨j, hj, hp, e9, -⟩
    · exact gAf_no hR hd h hT (by decide) (X_addKey1 hp)
    · exact absurd e9 (by decide)
  · rcases q with ⟨e9, -⟩ | ⟨j, hj, hp, -, hn⟩
    · exact absurd e9 (by decide)
    · exact gAf_no hR hd h hT (by decide) (X_addKey2 h hj hp hn)
  · obtain ⟨M1, k1, k2, k3⟩ := P_addKey h hT hj hp (g_lt8 h.2.1.2.2.1 hn) ek q9
    exact gAf_ok (N := N) (N1 := nKey N ek q9 j) hR9 rfl hd9 k3 k2 k1
set_option maxHeartbeats 4000000 in
theorem d_setKeyPlan (l : Launch) (hl0 : l.stackTraces = false) (D : va_G) (cy : Nat → ClassId) (de : Nat) (fG : gFm) (ou : Nat) (y : Nat → Int64) (N : gNm) (I : gMd) (key : Int32) (plan : Int32) (hR : gR cy de N I fG) (hd : gDj fG (gO cy ou y)) {M : gMd} {tk T : Nat} (h : Sim N I M tk T) (hT : T < 520) : gMi l yL_setKeyPlan wsL_setKeyPlan { frames := 8, cells := 2, slots := 12, locals := 128 } D cy de [.ref (N 0 0), .int key, .int plan, .ref ou] (gJ fG (gO cy ou y)) (fun r9 f9 => gAf cy de ou (N 0 0) (T + 1) r9 (mSetKeyPlan M key plan).2 (fun y => r9 = 0 → y 0 = Int32.toInt64 (mSetKeyPlan M key plan).1) f9) 2 12 := by
  refine gMi_w (c_L_setKeyPlan l hl0 D cy de fG ou y N I key plan hR hd) (fun r9 f9 q => ?_)
  dsimp only at q
  rcases q with ⟨q, rfl, rfl⟩ | ⟨q, rfl, rfl⟩ | ⟨rfl, v9, g9, ⟨j, hj, hk, p0, hp0, hp, rfl, hR9⟩, rfl, hd9⟩
  · rcases q with ⟨-, hk⟩ | ⟨j, hj, hk, e9, -⟩
    · exact gAf_no hR hd h hT (by decide) (X_setKeyPlan1 h hk)
    · exact absurd e9 (by decide)
  · rcases q with ⟨e9, -⟩ | ⟨j, hj, hk, -, hp⟩
    · exact absurd e9 (by decide)
    · exact gAf_no hR hd h hT (by decide) (X_setKeyPlan2 h hj hk hp)
  · obtain ⟨M1, k1, k2, k3⟩ := P_setKeyPlan h hT hj hk hp0 hp
    exact gAf_ok (N := N) (N1 := nPlan N j p0) hR9 rfl hd9 k3 k2 k1
set_option maxHeartbeats 4000000 in
theorem d_setTrust (l : Launch) (hl0 : l.stackTraces = false) (D : va_G) (cy : Nat → ClassId) (de : Nat) (fG : gFm) (ou : Nat) (y : Nat → Int64) (N : gNm) (I : gMd) (key : Int32) (line : Int32) (hR : gR cy de N I fG) (hd : gDj fG (gO cy ou y)) {M : gMd} {tk T : Nat} (h : Sim N I M tk T) (hT : T < 520) : gMi l yL_setTrust wsL_setTrust { frames := 8, cells := 2, slots := 12, locals := 128 } D cy de [.ref (N 0 0), .int key, .int line, .ref ou] (gJ fG (gO cy ou y)) (fun r9 f9 => gAf cy de ou (N 0 0) (T + 1) r9 (mSetTrust M key line).2 (fun y => r9 = 0 → y 0 = Int32.toInt64 (mSetTrust M key line).1) f9) 2 12 := by
  refine gMi_w (c_L_setTrust l hl0 D cy de fG ou y N I key line hR hd) (fun r9 f9 q => ?_)
  dsimp only at q
  rcases q with ⟨q, rfl, rfl⟩ | ⟨q, rfl, rfl⟩ | ⟨rfl, v9, g9, ⟨j, hj, hk, hp, rfl, hR9⟩, rfl, hd9⟩
  · rcases q with ⟨-, hk⟩ | ⟨j, hj, hk, e9, -⟩
    · exact gAf_no hR hd h hT (by decide) (X_setTrust1 h hk)
    · exact absurd e9 (by decide)
  · rcases q with ⟨e9, -⟩ | ⟨j, hj, hk, -, hp⟩
    · exact absurd e9 (by decide)
    · exact gAf_no hR hd h hT (by decide) (X_setTrust2 h hj hk hp)
  · obtain ⟨M1, k1, k2, k3⟩ := P_setTrust h hT hj hk hp
    exact gAf_ok (N := N) hR9 rfl hd9 k3 k2 k1
set_option maxHeartbeats 4000000 in
theorem d_pay (l : Launch) (hl0 : l.stackTraces = false) (D : va_G) (cy : Nat → ClassId) (de : Nat) (fG : gFm) (ou : Nat) (y : Nat → Int64) (N : gNm) (I : gMd) (key : Int32) (money : Int32) (hR : gR cy de N I fG) (hd : gDj fG (gO cy ou y)) {M : gMd} {tk T : Nat} (h : Sim N I M tk T) (hT : T < 520) : gMi l yL_pay wsL_pay { frames := 8, cells := 2, slots := 12, locals := 127 } D cy de [.ref (N 0 0), .int key, .int money, .ref ou] (gJ fG (gO cy ou y)) (fun r9 f9 => gAf cy de ou (N 0 0) (T + 1) r9 (mPay M key money).2 (fun y => r9 = 0 → y 0 = Int32.toInt64 (mPay M key money).1) f9) 2 12 := by
  refine gMi_w (c_L_pay l hl0 D cy de fG ou y N I key money hR hd) (fun r9 f9 q => ?_)
  dsimp only at q
  rcases q with ⟨q, rfl, rfl⟩ | ⟨q, rfl, rfl⟩ | ⟨rfl, v9, g9, ⟨j, hj, hk, hp, rfl, hR9⟩, rfl, hd9⟩
  · rcases q with ⟨-, hk⟩ | ⟨j, hj, hk, e9, -⟩
    · exact gAf_no hR hd h hT (by decide) (X_pay1 h hk)
    · exact absurd e9 (by decide)
  · rcases q with ⟨e9, -⟩ | ⟨j, hj, hk, -, hp⟩
    · exact absurd e9 (by decide)
    · exact gAf_no hR hd h hT (by decide) (X_pay2 h hj hk hp)
  · obtain ⟨M1, k1, k2, k3⟩ := P_pay h hT hj hk hp
    exact gAf_ok (N := N) hR9 rfl hd9 k3 k2 k1
set_option maxHeartbeats 4000000 in
theorem d_call (l : Launch) (hl0 : l.stackTraces = false) (D : va_G) (cy : Nat → ClassId) (de : Nat) (fG : gFm) (ou : Nat) (y : Nat → Int64) (N : gNm) (I : gMd) (key : Int32) (route : Int32) (size : Int32) (hR : gR cy de N I fG) (hd : gDj fG (gO cy ou y)) {M : gMd} {tk T : Nat} (h : Sim N I M tk T) (hT : T < 520) : gMi l yL_call wsL_call { frames := 8, cells := 5, slots := 225, locals := 237 } D cy de [.ref (N 0 0), .int key, .int route, .int size, .ref ou] (gJ fG (gO cy ou y)) (fun r9 f9 => gAf cy de ou (N 0 0) (T + 1) r9 (mCall M key route size).2 (fun y => r9 = 0 → y 0 = Int32.toInt64 (mCall M key route size).1) f9) 5 225 := by
  refine gMi_w (c_L_call l hl0 D cy de fG ou y N I key route size hR hd) (fun r9 f9 q => ?_)
  dsimp only at q
  rcases q with ⟨q, rfl, rfl⟩ | ⟨q, rfl, rfl⟩ | ⟨q, rfl, rfl⟩ | ⟨rfl, v9, g9, ⟨j, hj, hk, r, hr, hroute, hs, hn, q⟩, rfl, hd9⟩
  · rcases q with ⟨-, hk⟩ | ⟨j, hj, hk, ⟨e9, -⟩ | ⟨r, hr, hroute, ⟨e9, -⟩ | ⟨hs, e9, -⟩⟩⟩
    · exact gAf_no hR hd h hT (by decide) (X_call1 h hk)
    · exact absurd e9 (by decide)
    · exact absurd e9 (by decide)
    · exact absurd e9 (by decide)
  · rcases q with ⟨e9, -⟩ | ⟨j, hj, hk, ⟨-, hroute⟩ | ⟨r, hr, hroute, ⟨-, hs⟩ | ⟨hs, e9, -⟩⟩⟩
    · exact absurd e9 (by decide)
    · exact gAf_no hR hd h hT (by decide) (X_call2 h hj hk (Or.inl (p6_f hroute)))
    · exact gAf_no hR hd h hT (by decide) (X_call2 h hj hk (Or.inr (b_f hs)))
    · exact absurd e9 (by decide)
  · rcases q with ⟨e9, -⟩ | ⟨j, hj, hk, ⟨e9, -⟩ | ⟨r, hr, hroute, ⟨e9, -⟩ | ⟨hs, -, hn⟩⟩⟩
    · exact absurd e9 (by decide)
    · exact absurd e9 (by decide)
    · exact absurd e9 (by decide)
    · exact gAf_no hR hd h hT (by decide) (X_call3 h hj hk hr hroute hs hn)
  · have hn9 := g_lt80 h.2.1.2.2.2.1 hn
    rcases q with ⟨ek, q9, h1, h2, rfl, hR9⟩ | ⟨h1, h2, rfl, rfl⟩ | ⟨h1, rfl, rfl⟩
    · obtain ⟨M1, k1, k2, k3⟩ := P_callA h hT hj hk hr hroute hs hn9 h1 h2 ek q9
      exact gAf_ok (N := N) (N1 := nCall N ek q9 j) hR9 rfl hd9 k3 k2 k1
    · exact gAf_rd hR hd h hT (P_callB h hT hj hk hr hroute hs hn9 h1 h2)
    · exact gAf_rd hR hd h hT (P_callC h hj hk hr hroute hs hn9 h1)
set_option maxHeartbeats 4000000 in
theorem d_end (l : Launch) (hl0 : l.stackTraces = false) (D : va_G) (cy : Nat → ClassId) (de : Nat) (fG : gFm) (ou : Nat) (y : Nat → Int64) (N : gNm) (I : gMd) (call : Int32) (oc : Int32) (hR : gR cy de N I fG) (hd : gDj fG (gO cy ou y)) {M : gMd} {tk T : Nat} (h : Sim N I M tk T) (hT : T < 520) : gMi l yL_end wsL_end { frames := 8, cells := 3, slots := 18, locals := 127 } D cy de [.ref (N 0 0), .int call, .int oc, .ref ou] (gJ fG (gO cy ou y)) (fun r9 f9 => gAf cy de ou (N 0 0) (T + 1) r9 (mEnd M call oc).2 (fun y => r9 = 0 → y 0 = Int32.toInt64 (mEnd M call oc).1) f9) 3 18 := by
  refine gMi_w (c_L_end l hl0 D cy de fG ou y N I call oc hR hd) (fun r9 f9 q => ?_)
  dsimp only at q
  rcases q with ⟨q, rfl, rfl⟩ | ⟨q, rfl, rfl⟩ | ⟨q, rfl, rfl⟩ | ⟨rfl, v9, g9, ⟨j, hj, hk, hp, he, rfl, hR9⟩, rfl, hd9⟩
  · rcases q with ⟨-, hk⟩ | ⟨j, hj, hk, ⟨e9, -⟩ | ⟨hp, e9, -⟩⟩
    · exact gAf_no hR hd h hT (by decide) (X_end1 h hk)
    · exact absurd e9 (by decide)
    · exact absurd e9 (by decide)
  · rcases q with ⟨e9, -⟩ | ⟨j, hj, hk, ⟨-, hp⟩ | ⟨hp, e9, -⟩⟩
    · exact absurd e9 (by decide)
    · exact gAf_no hR hd h hT (by decide) (X_end2 h hj hk hp)
    · exact absurd e9 (by decide)
  · rcases q with ⟨e9, -⟩ | ⟨j, hj, hk, ⟨e9, -⟩ | ⟨hp, -, he⟩⟩
    · exact absurd e9 (by decide)
    · exact absurd e9 (by decide)
    · exact gAf_no hR hd h hT (by decide) (X_end3 h hj hk hp he)
  · obtain ⟨M1, k1, k2, k3⟩ := P_end h hT hj hk hp he
    exact gAf_ok (N := N) (I1 := iSettle N I j oc) hR9 rfl hd9 k3 k2 k1
set_option maxHeartbeats 4000000 in
theorem d_dispute (l : Launch) (hl0 : l.stackTraces = false) (D : va_G) (cy : Nat → ClassId) (de : Nat) (fG : gFm) (ou : Nat) (y : Nat → Int64) (N : gNm) (I : gMd) (call : Int32) (hR : gR cy de N I fG) (hd : gDj fG (gO cy ou y)) {M : gMd} {tk T : Nat} (h : Sim N I M tk T) (hT : T < 520) : gMi l yL_dispute wsL_dispute { frames := 8, cells := 2, slots := 12, locals := 125 } D cy de [.ref (N 0 0), .int call, .ref ou] (gJ fG (gO cy ou y)) (fun r9 f9 => gAf cy de ou (N 0 0) (T + 1) r9 (mDispute M call).2 (fun y => r9 = 0 → y 0 = Int32.toInt64 (mDispute M call).1) f9) 2 12 := by
  refine gMi_w (c_L_dispute l hl0 D cy de fG ou y N I call hR hd) (fun r9 f9 q => ?_)
  dsimp only at q
  rcases q with ⟨q, rfl, rfl⟩ | ⟨q, rfl, rfl⟩ | ⟨rfl, v9, g9, ⟨j, hj, hk, n1, n2, n3, rfl, hR9⟩, rfl, hd9⟩
  · rcases q with ⟨-, hk⟩ | ⟨j, hj, hk, ⟨e9, -⟩ | ⟨n1, ⟨e9, -⟩ | ⟨n2, e9, -⟩⟩⟩
    · exact gAf_no hR hd h hT (by decide) (X_dispute1 h hk)
    · exact absurd e9 (by decide)
    · exact absurd e9 (by decide)
    · exact absurd e9 (by decide)
  · rcases q with ⟨e9, -⟩ | ⟨j, hj, hk, ⟨-, n1⟩ | ⟨n1, ⟨-, n2⟩ | ⟨n2, -, n3⟩⟩⟩
    · exact absurd e9 (by decide)
    · exact gAf_no hR hd h hT (by decide) (X_dispute2 h hj hk (Or.inl (X_disA h hj n1)))
    · exact gAf_no hR hd h hT (by decide) (X_dispute2 h hj hk (Or.inr (Or.inl (X_disB h hj n2))))
    · exact gAf_no hR hd h hT (by decide) (X_dispute2 h hj hk (Or.inr (Or.inr (X_disC h hj n1 n3))))
  · obtain ⟨M1, k1, k2, k3⟩ := P_dispute h hT hj hk n1 n2 n3
    exact gAf_ok (N := N) (I1 := iDis N I j) hR9 rfl hd9 k3 k2 k1
set_option maxHeartbeats 4000000 in
theorem d_pass (l : Launch) (hl0 : l.stackTraces = false) (D : va_G) (cy : Nat → ClassId) (de : Nat) (fG : gFm) (ou : Nat) (y : Nat → Int64) (N : gNm) (I : gMd) (ticks : Int32) (hR : gR cy de N I fG) (hd : gDj fG (gO cy ou y)) {M : gMd} {tk T : Nat} (h : Sim N I M tk T) (hT : T < 520) : gMi l yL_pass wsL_pass { frames := 8, cells := 1, slots := 6, locals := 127 } D cy de [.ref (N 0 0), .int ticks, .ref ou] (gJ fG (gO cy ou y)) (fun r9 f9 => gAf cy de ou (N 0 0) (T + 1) r9 (mPass (N 0 7) (N 0 8) M ticks).2 (fun y => r9 = 0 → y 0 = Int32.toInt64 (mPass (N 0 7) (N 0 8) M ticks).1) f9) 1 6 := by
  refine gMi_w (c_L_pass l hl0 D cy de fG ou y N I ticks hR hd (Sim_nx h)) (fun r9 f9 q => ?_)
  dsimp only at q
  rcases q with ⟨⟨-, hp⟩, rfl, rfl⟩ | ⟨rfl, v9, g9, ⟨hp, rfl, hR9⟩, rfl, hd9⟩
  · exact gAf_no hR hd h hT (by decide) (X_pass h hp)
  · obtain ⟨M1, tk1, k1, k2, k3⟩ := P_pass h hT hp
    exact gAf_ok (N := N) hR9 rfl hd9 k3 k2 k1
set_option maxHeartbeats 4000000 in
theorem d_credit (l : Launch) (hl0 : l.stackTraces = false) (D : va_G) (cy : Nat → ClassId) (de : Nat) (fG : gFm) (ou : Nat) (y : Nat → Int64) (N : gNm) (I : gMd) (key : Int32) (hR : gR cy de N I fG) (hd : gDj fG (gO cy ou y)) {M : gMd} {tk T : Nat} (h : Sim N I M tk T) (hT : T < 520) : gMi l yL_credit wsL_credit { frames := 8, cells := 1, slots := 6, locals := 124 } D cy de [.ref (N 0 0), .int key, .ref ou] (gJ fG (gO cy ou y)) (fun r9 f9 => gAf cy de ou (N 0 0) (T + 1) r9 (mRd M key (fun N => N 8 (ix key))).2 (fun y => r9 = 0 → y 0 = Int32.toInt64 (mRd M key (fun N => N 8 (ix key))).1) f9) 1 6 := by
  refine gMi_w (c_L_credit l hl0 D cy de fG ou y N I key hR hd) (fun r9 f9 q => ?_)
  dsimp only at q
  rcases q with ⟨⟨-, hk⟩, rfl, rfl⟩ | ⟨rfl, v9, g9, ⟨j, hj, hk, rfl, rfl⟩, rfl, hd9⟩
  · exact gAf_no hR hd h hT (by decide) (P_rdX h hk _)
  · obtain ⟨⟨-, a2, a3, a4, a5, a6⟩, -⟩ := h.2.2.2.2.1 j hj
    refine gAf_rd hR hd h hT ((P_rd h hj hk _).trans ?_)
    rw [show ix key = j by rw [hk]; exact ix_nI (by have := h.2.1.2.2.1; omega), mwell_o _ (by decide), a4]
set_option maxHeartbeats 4000000 in
theorem d_debt (l : Launch) (hl0 : l.stackTraces = false) (D : va_G) (cy : Nat → ClassId) (de : Nat) (fG : gFm) (ou : Nat) (y : Nat → Int64) (N : gNm) (I : gMd) (key : Int32) (hR : gR cy de N I fG) (hd : gDj fG (gO cy ou y)) {M : gMd} {tk T : Nat} (h : Sim N I M tk T) (hT : T < 520) : gMi l yL_debt wsL_debt { frames := 8, cells := 1, slots := 6, locals := 124 } D cy de [.ref (N 0 0), .int key, .ref ou] (gJ fG (gO cy ou y)) (fun r9 f9 => gAf cy de ou (N 0 0) (T + 1) r9 (mRd M key (fun N => N 10 (ix key))).2 (fun y => r9 = 0 → y 0 = Int32.toInt64 (mRd M key (fun N => N 10 (ix key))).1) f9) 1 6 := by
  refine gMi_w (c_L_debt l hl0 D cy de fG ou y N I key hR hd) (fun r9 f9 q => ?_)
  dsimp only at q
  rcases q with ⟨⟨-, hk⟩, rfl, rfl⟩ | ⟨rfl, v9, g9, ⟨j, hj, hk, rfl, rfl⟩, rfl, hd9⟩
  · exact gAf_no hR hd h hT (by decide) (P_rdX h hk _)
  · obtain ⟨⟨-, a2, a3, a4, a5, a6⟩, -⟩ := h.2.2.2.2.1 j hj
    refine gAf_rd hR hd h hT ((P_rd h hj hk _).trans ?_)
    rw [show ix key = j by rw [hk]; exact ix_nI (by have := h.2.1.2.2.1; omega), mwell_o _ (by decide), a5]
set_option maxHeartbeats 4000000 in
theorem d_tokens (l : Launch) (hl0 : l.stackTraces = false) (D : va_G) (cy : Nat → ClassId) (de : Nat) (fG : gFm) (ou : Nat) (y : Nat → Int64) (N : gNm) (I : gMd) (key : Int32) (hR : gR cy de N I fG) (hd : gDj fG (gO cy ou y)) {M : gMd} {tk T : Nat} (h : Sim N I M tk T) (hT : T < 520) : gMi l yL_tokens wsL_tokens { frames := 8, cells := 1, slots := 6, locals := 124 } D cy de [.ref (N 0 0), .int key, .ref ou] (gJ fG (gO cy ou y)) (fun r9 f9 => gAf cy de ou (N 0 0) (T + 1) r9 (mRd M key (fun N => N 11 (ix key))).2 (fun y => r9 = 0 → y 0 = Int32.toInt64 (mRd M key (fun N => N 11 (ix key))).1) f9) 1 6 := by
  refine gMi_w (c_L_tokens l hl0 D cy de fG ou y N I key hR hd) (fun r9 f9 q => ?_)
  dsimp only at q
  rcases q with ⟨⟨-, hk⟩, rfl, rfl⟩ | ⟨rfl, v9, g9, ⟨j, hj, hk, rfl, rfl⟩, rfl, hd9⟩
  · exact gAf_no hR hd h hT (by decide) (P_rdX h hk _)
  · obtain ⟨⟨-, a2, a3, a4, a5, a6⟩, -⟩ := h.2.2.2.2.1 j hj
    refine gAf_rd hR hd h hT ((P_rd h hj hk _).trans ?_)
    rw [show ix key = j by rw [hk]; exact ix_nI (by have := h.2.1.2.2.1; omega), mwell_o _ (by decide), a2]
set_option maxHeartbeats 4000000 in
theorem d_paid (l : Launch) (hl0 : l.stackTraces = false) (D : va_G) (cy : Nat → ClassId) (de : Nat) (fG : gFm) (ou : Nat) (y : Nat → Int64) (N : gNm) (I : gMd) (key : Int32) (hR : gR cy de N I fG) (hd : gDj fG (gO cy ou y)) {M : gMd} {tk T : Nat} (h : Sim N I M tk T) (hT : T < 520) : gMi l yL_paid wsL_paid { frames := 8, cells := 1, slots := 6, locals := 124 } D cy de [.ref (N 0 0), .int key, .ref ou] (gJ fG (gO cy ou y)) (fun r9 f9 => gAf cy de ou (N 0 0) (T + 1) r9 (mRd M key (fun N => N 12 (ix key))).2 (fun y => r9 = 0 → y 0 = Int32.toInt64 (mRd M key (fun N => N 12 (ix key))).1) f9) 1 6 := by
  refine gMi_w (c_L_paid l hl0 D cy de fG ou y N I key hR hd) (fun r9 f9 q => ?_)
  dsimp only at q
  rcases q with ⟨⟨-, hk⟩, rfl, rfl⟩ | ⟨rfl, v9, g9, ⟨j, hj, hk, rfl, rfl⟩, rfl, hd9⟩
  · exact gAf_no hR hd h hT (by decide) (P_rdX h hk _)
  · obtain ⟨⟨-, a2, a3, a4, a5, a6⟩, -⟩ := h.2.2.2.2.1 j hj
    refine gAf_rd hR hd h hT ((P_rd h hj hk _).trans ?_)
    rw [show ix key = j by rw [hk]; exact ix_nI (by have := h.2.1.2.2.1; omega), mwell_o _ (by decide), a6]
set_option maxHeartbeats 4000000 in
theorem d_held (l : Launch) (hl0 : l.stackTraces = false) (D : va_G) (cy : Nat → ClassId) (de : Nat) (fG : gFm) (ou : Nat) (y : Nat → Int64) (N : gNm) (I : gMd) (key : Int32) (hR : gR cy de N I fG) (hd : gDj fG (gO cy ou y)) {M : gMd} {tk T : Nat} (h : Sim N I M tk T) (hT : T < 520) : gMi l yL_held wsL_held { frames := 8, cells := 1, slots := 6, locals := 124 } D cy de [.ref (N 0 0), .int key, .ref ou] (gJ fG (gO cy ou y)) (fun r9 f9 => gAf cy de ou (N 0 0) (T + 1) r9 (mRd M key (fun N9 => mHeldL N9 key (N 0 8) 0 0)).2 (fun y => r9 = 0 → y 0 = Int32.toInt64 (mRd M key (fun N9 => mHeldL N9 key (N 0 8) 0 0)).1) f9) 1 6 := by
  refine gMi_w (c_L_held l hl0 D cy de fG ou y N I key hR hd) (fun r9 f9 q => ?_)
  dsimp only at q
  rcases q with ⟨⟨-, hk⟩, rfl, rfl⟩ | ⟨rfl, v9, g9, ⟨j, hj, hk, rfl, rfl⟩, rfl, hd9⟩
  · exact gAf_no hR hd h hT (by decide) (P_rdX h hk _)
  · refine gAf_rd hR hd h hT ((P_rd h hj hk _).trans ?_)
    rw [P_held h hj hk]
set_option maxHeartbeats 4000000 in
theorem d_spent (l : Launch) (hl0 : l.stackTraces = false) (D : va_G) (cy : Nat → ClassId) (de : Nat) (fG : gFm) (ou : Nat) (y : Nat → Int64) (N : gNm) (I : gMd) (key : Int32) (hR : gR cy de N I fG) (hd : gDj fG (gO cy ou y)) {M : gMd} {tk T : Nat} (h : Sim N I M tk T) (hT : T < 520) : gMi l yL_spent wsL_spent { frames := 8, cells := 1, slots := 6, locals := 124 } D cy de [.ref (N 0 0), .int key, .ref ou] (gJ fG (gO cy ou y)) (fun r9 f9 => gAf cy de ou (N 0 0) (T + 1) r9 (mRd M key (fun N9 => mSpentL N9 key (N 0 8) 0 0)).2 (fun y => r9 = 0 → y 0 = Int32.toInt64 (mRd M key (fun N9 => mSpentL N9 key (N 0 8) 0 0)).1) f9) 1 6 := by
  refine gMi_w (c_L_spent l hl0 D cy de fG ou y N I key hR hd) (fun r9 f9 q => ?_)
  dsimp only at q
  rcases q with ⟨⟨-, hk⟩, rfl, rfl⟩ | ⟨rfl, v9, g9, ⟨j, hj, hk, rfl, rfl⟩, rfl, hd9⟩
  · exact gAf_no hR hd h hT (by decide) (P_rdX h hk _)
  · refine gAf_rd hR hd h hT ((P_rd h hj hk _).trans ?_)
    rw [P_spent h hj hk]
set_option maxHeartbeats 4000000 in
theorem d_isSlowed (l : Launch) (hl0 : l.stackTraces = false) (D : va_G) (cy : Nat → ClassId) (de : Nat) (fG : gFm) (ou : Nat) (y : Nat → Int64) (N : gNm) (I : gMd) (key : Int32) (hR : gR cy de N I fG) (hd : gDj fG (gO cy ou y)) {M : gMd} {tk T : Nat} (h : Sim N I M tk T) (hT : T < 520) : gMi l yL_isSlowed wsL_isSlowed { frames := 8, cells := 1, slots := 6, locals := 124 } D cy de [.ref (N 0 0), .int key, .ref ou] (gJ fG (gO cy ou y)) (fun r9 f9 => gAf cy de ou (N 0 0) (T + 1) r9 (mIsSlowed (N 0 8) M key).2 (fun y => r9 = 0 → y 0 = if (mIsSlowed (N 0 8) M key).1 = 0 then 0 else 1) f9) 1 6 := by
  refine gMi_w (c_L_isSlowed l hl0 D cy de fG ou y N I key hR hd) (fun r9 f9 q => ?_)
  dsimp only at q
  rcases q with ⟨⟨-, hk⟩, rfl, rfl⟩ | ⟨rfl, v9, g9, ⟨j, hj, hk, rfl, rfl⟩, rfl, hd9⟩
  · exact gAf_no hR hd h hT (by decide) (X_slow h hk)
  · exact ⟨N, I, _, _, tk, ⟨rfl, hR, gO_dj hd, rfl⟩, by rw [P_isSlowed h hj hk]; exact Sim_well 0 (Sim_T h hT), by rw [P_isSlowed h hj hk]; exact mwell_s M 0, fun _ => by rw [P_isSlowed h hj hk]; exact vp_updL0 _ _⟩
set_option maxHeartbeats 4000000 in
theorem d_cost (l : Launch) (hl0 : l.stackTraces = false) (D : va_G) (cy : Nat → ClassId) (de : Nat) (fG : gFm) (ou : Nat) (y : Nat → Int64) (N : gNm) (I : gMd) (call : Int32) (hR : gR cy de N I fG) (hd : gDj fG (gO cy ou y)) {M : gMd} {tk T : Nat} (h : Sim N I M tk T) (hT : T < 520) : gMi l yL_cost wsL_cost { frames := 8, cells := 1, slots := 6, locals := 124 } D cy de [.ref (N 0 0), .int call, .ref ou] (gJ fG (gO cy ou y)) (fun r9 f9 => gAf cy de ou (N 0 0) (T + 1) r9 (mCost M call).2 (fun y => r9 = 0 → y 0 = Int32.toInt64 (mCost M call).1) f9) 1 6 := by
  refine gMi_w (c_L_cost l hl0 D cy de fG ou y N I call hR hd) (fun r9 f9 q => ?_)
  dsimp only at q
  rcases q with ⟨⟨-, hk⟩, rfl, rfl⟩ | ⟨rfl, v9, g9, ⟨j, hj, hk, rfl, rfl⟩, rfl, hd9⟩
  · exact gAf_no hR hd h hT (by decide) (X_cost h hk)
  · exact gAf_rd hR hd h hT (P_cost h hj hk)
set_option maxHeartbeats 4000000 in
theorem d_setPlan (l : Launch) (hl0 : l.stackTraces = false) (D : va_G) (cy : Nat → ClassId) (de : Nat) (f : gFm) (ou : Nat) (y : Nat → Int64) (N : gNm) (I : gMd) (plan : Int32) (size : Int32) (refill : Int32) (slow : Int32) (hR : gR cy de N I f) {M : gMd} {tk T : Nat} (hd : gDj f (gO cy ou y)) (h : Sim N I M tk T) (hT : T < 520) : gMi l yL_setPlan wsL_setPlan { frames := 8, cells := 4, slots := 24, locals := 129 } D cy de [.ref (N 0 0), .int plan, .int size, .int refill, .int slow] (gJ f (gO cy ou y)) (fun r9 f9 => gAf cy de ou (N 0 0) (T + 1) r9 (mSetPlan M plan size refill slow) (fun _ => True) f9) 4 24 := by
  refine gMi_w (gMi_frame (c_L_setPlan l hl0 D cy de f N I plan size refill slow hR) hd) (fun r9 f9 q => ?_)
  obtain ⟨g9, q, rfl, hd9⟩ := q
  dsimp only at q
  rcases q with ⟨q, rfl, rfl⟩ | ⟨rfl, j, hj, hk, h1, h2, h3, hR9⟩
  · rcases q with ⟨-, hk⟩ | ⟨j, hj, hk, ⟨-, h1⟩ | ⟨h1, ⟨-, h2⟩ | ⟨h2, -, h3⟩⟩⟩
    · exact ⟨N, I, _, y, tk, ⟨rfl, hR, hd, rfl⟩, by rw [X_setPlan plan size refill slow M (fun z => hk (mIn_p4.mp z.1))]; exact Sim_well 1 (Sim_T h hT), by rw [X_setPlan plan size refill slow M (fun z => hk (mIn_p4.mp z.1))]; exact mwell_s M 1, trivial⟩
    · exact ⟨N, I, _, y, tk, ⟨rfl, hR, hd, rfl⟩, by rw [X_setPlan plan size refill slow M (fun z => h1 z.2.1)]; exact Sim_well 1 (Sim_T h hT), by rw [X_setPlan plan size refill slow M (fun z => h1 z.2.1)]; exact mwell_s M 1, trivial⟩
    · exact ⟨N, I, _, y, tk, ⟨rfl, hR, hd, rfl⟩, by rw [X_setPlan plan size refill slow M (fun z => h2 z.2.2.1)]; exact Sim_well 1 (Sim_T h hT), by rw [X_setPlan plan size refill slow M (fun z => h2 z.2.2.1)]; exact mwell_s M 1, trivial⟩
    · exact ⟨N, I, _, y, tk, ⟨rfl, hR, hd, rfl⟩, by rw [X_setPlan plan size refill slow M (fun z => h3 z.2.2.2)]; exact Sim_well 1 (Sim_T h hT), by rw [X_setPlan plan size refill slow M (fun z => h3 z.2.2.2)]; exact mwell_s M 1, trivial⟩
  · obtain ⟨k1, k2⟩ := P_setPlan h hT hj hk h1 h2 h3
    exact ⟨N, _, g9, y, tk, ⟨rfl, hR9, hd9, rfl⟩, k2, k1, trivial⟩
set_option maxHeartbeats 4000000 in
theorem d_setRoute (l : Launch) (hl0 : l.stackTraces = false) (D : va_G) (cy : Nat → ClassId) (de : Nat) (f : gFm) (ou : Nat) (y : Nat → Int64) (N : gNm) (I : gMd) (route : Int32) (price : Int32) (weight : Int32) (hR : gR cy de N I f) {M : gMd} {tk T : Nat} (hd : gDj f (gO cy ou y)) (h : Sim N I M tk T) (hT : T < 520) : gMi l yL_setRoute wsL_setRoute { frames := 8, cells := 3, slots := 18, locals := 128 } D cy de [.ref (N 0 0), .int route, .int price, .int weight] (gJ f (gO cy ou y)) (fun r9 f9 => gAf cy de ou (N 0 0) (T + 1) r9 (mSetRoute M route price weight) (fun _ => True) f9) 3 18 := by
  refine gMi_w (gMi_frame (c_L_setRoute l hl0 D cy de f N I route price weight hR) hd) (fun r9 f9 q => ?_)
  obtain ⟨g9, q, rfl, hd9⟩ := q
  dsimp only at q
  rcases q with ⟨q, rfl, rfl⟩ | ⟨rfl, j, hj, hk, h1, h2, hR9⟩
  · rcases q with ⟨-, hk⟩ | ⟨j, hj, hk, ⟨-, h1⟩ | ⟨h1, -, h2⟩⟩
    · exact ⟨N, I, _, y, tk, ⟨rfl, hR, hd, rfl⟩, by rw [X_setRoute route price weight M (fun z => hk (mIn_p6.mp z.1))]; exact Sim_well 1 (Sim_T h hT), by rw [X_setRoute route price weight M (fun z => hk (mIn_p6.mp z.1))]; exact mwell_s M 1, trivial⟩
    · exact ⟨N, I, _, y, tk, ⟨rfl, hR, hd, rfl⟩, by rw [X_setRoute route price weight M (fun z => h1 z.2.1)]; exact Sim_well 1 (Sim_T h hT), by rw [X_setRoute route price weight M (fun z => h1 z.2.1)]; exact mwell_s M 1, trivial⟩
    · exact ⟨N, I, _, y, tk, ⟨rfl, hR, hd, rfl⟩, by rw [X_setRoute route price weight M (fun z => h2 z.2.2)]; exact Sim_well 1 (Sim_T h hT), by rw [X_setRoute route price weight M (fun z => h2 z.2.2)]; exact mwell_s M 1, trivial⟩
  · obtain ⟨k1, k2⟩ := P_setRoute h hT hj hk h1 h2
    exact ⟨N, _, g9, y, tk, ⟨rfl, hR9, hd9, rfl⟩, k2, k1, trivial⟩
