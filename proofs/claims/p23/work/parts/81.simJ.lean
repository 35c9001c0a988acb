section PRN
variable {N : gNm} {I M : gMd} {tk T : Nat}
theorem call_pre (h : Sim N I M tk T) {key route size : Int32} {k r : Nat} (hk : k < N 0 7) (hkey : key = nI k) (hr : r < 6) (hroute : route = nI r) (hs : mIn size 1 9 = true) (hn : N 0 8 < 80) :
    ∃ w0, w0 ≤ 9000 ∧ I 5 r * size = nI w0 ∧ mCall M key route size = (if I 7 k < I 6 r then (1, mWell M 0) else
      if I 9 k < I 5 r * size then (if I 9 k + (if I 10 k < I 8 k then I 8 k - I 10 k else 0) < I 5 r * size then (2, mWell M 0) else (0, mCallGo (mWell M 0) key route size (I 5 r * size) (I 9 k))) else (0, mCallGo (mWell M 0) key route size (I 5 r * size) (I 5 r * size))) := by
  have hkt : mKey M key = true := (Sim_key h).mpr ⟨k, hk, hkey⟩
  have hrt : mIn route 0 5 = true := mIn_p6.mpr ⟨r, hr, hroute⟩
  obtain ⟨h0, ⟨g1, g2, g3, g4, g5, g6⟩, h2, h3, h4, h5, h6, h7, h8, h9⟩ := h
  obtain ⟨⟨a1, a2, a3, a4, a5, a6⟩, -⟩ := h4 k hk
  obtain ⟨⟨p1, p2⟩, ⟨pr, p3, p3'⟩, -⟩ := h3 r hr
  obtain ⟨sz, -, z1, z2⟩ := mIn_up (n := 9) (a := 1) (by decide) (by decide) hs
  have ek : ix key = k := by rw [hkey]; exact ix_nI (by omega)
  have er : ix route = r := by rw [hroute]; exact ix_nI (by omega)
  have h80 : ¬ M 13 0 = 80 := by
    rw [g2, show (80 : Int32) = nI 80 by decide, nI_eq (by omega) (by decide)]
    omega
  refine ⟨pr * sz, ?_, by rw [p1, p3', z2, pk_mul], ?_⟩
  · have := Nat.mul_le_mul (show pr ≤ 1000 by omega) z1
    omega
  · unfold mCall
    rw [if_neg (by rw [hkt]; decide), if_neg (by rw [hrt, hs]; decide), if_neg h80, ek, er, p1, p2, a2, a3, a4, a5]
    unfold mLeft
    rw [ek]
    rfl
theorem P_callA (h : Sim N I M tk T) (hT : T < 520) {key route size : Int32} {k r : Nat} (hk : k < N 0 7) (hkey : key = nI k) (hr : r < 6) (hroute : route = nI r) (hs : mIn size 1 9 = true) (hn : N 0 8 < 80) (h1 : I 6 r ≤ I 7 k) (h2 : (!decide ((I 9 k) + (if 0 < (I 8 k) - (I 10 k) then (I 8 k) - (I 10 k) else 0) < ((I 5 r) * size))) = true) (ek q : Nat) : ∃ M1, mCall M key route size = (0, M1) ∧ M1 0 0 = 0 ∧ Sim (nCall N ek q k) (iGo N I k r (I 5 r * size)) M1 tk (T + 1) := by
  obtain ⟨w0, hw0, hw, hE⟩ := call_pre h hk hkey hr hroute hs hn
  obtain ⟨⟨a1, a2, a3, a4, a5, a6⟩, -, c1, c2, -, c4⟩ := h.2.2.2.2.1 k hk
  rw [← a4] at c1
  rw [← a5] at c2
  rw [← a3] at c4
  rw [hw] at h2
  have hcv := (cover_iff c1 c2 c4 (by have := h.1; omega) (by have := h.1; omega) hw0).mp h2
  rw [hE, if_neg (Int32.not_lt.mpr h1)]
  by_cases c : I 9 k < I 5 r * size
  · rw [if_pos c, if_neg (fun z => hcv ⟨by rw [← hw]; exact c, by rw [← hw]; exact z⟩)]
    have hg := Sim_go h hT hk hr hn hw0 hw (own := I 9 k) (size := size) (by rw [if_neg (fun z => Int32.lt_irrefl (Int32.lt_trans c z))]) hkey hroute h1 ek q
    exact ⟨_, rfl, hg.1, hg.2⟩
  · rw [if_neg c]
    have hle : I 5 r * size = (if I 5 r * size < I 9 k then I 5 r * size else I 9 k) := by
      by_cases d : I 5 r * size < I 9 k
      · rw [if_pos d]
      · rw [if_neg d]
        exact Int32.le_antisymm (Int32.not_lt.mp c) (Int32.not_lt.mp d)
    have hg := Sim_go h hT hk hr hn hw0 hw (own := I 5 r * size) (size := size) hle hkey hroute h1 ek q
    exact ⟨_, rfl, hg.1, hg.2⟩
theorem P_callB (h : Sim N I M tk T) (hT : T < 520) {key route size : Int32} {k r : Nat} (hk : k < N 0 7) (hkey : key = nI k) (hr : r < 6) (hroute : route = nI r) (hs : mIn size 1 9 = true) (hn : N 0 8 < 80) (h1 : I 6 r ≤ I 7 k) (h2 : (!decide ((I 9 k) + (if 0 < (I 8 k) - (I 10 k) then (I 8 k) - (I 10 k) else 0) < ((I 5 r) * size))) = false) : mCall M key route size = (2, mWell M 0) := by
  obtain ⟨w0, hw0, hw, hE⟩ := call_pre h hk hkey hr hroute hs hn
  obtain ⟨⟨a1, a2, a3, a4, a5, a6⟩, -, c1, c2, -, c4⟩ := h.2.2.2.2.1 k hk
  rw [← a4] at c1
  rw [← a5] at c2
  rw [← a3] at c4
  rw [hw] at h2
  have hcv := (not_congr (cover_iff c1 c2 c4 (by have := h.1; omega) (by have := h.1; omega) hw0)).mp (by rw [h2]; decide)
  have hc := Classical.not_not.mp hcv
  rw [← hw] at hc
  rw [hE, if_neg (Int32.not_lt.mpr h1), if_pos hc.1, if_pos hc.2]
theorem P_callC (h : Sim N I M tk T) {key route size : Int32} {k r : Nat} (hk : k < N 0 7) (hkey : key = nI k) (hr : r < 6) (hroute : route = nI r) (hs : mIn size 1 9 = true) (hn : N 0 8 < 80) (h1 : ¬ I 6 r ≤ I 7 k) : mCall M key route size = (1, mWell M 0) := by
  obtain ⟨w0, hw0, hw, hE⟩ := call_pre h hk hkey hr hroute hs hn
  rw [hE, if_pos (Int32.not_le.mp h1)]
end PRN
