theorem gMq_mono {l : Launch} {y : MethodName} {ws : List Cond} {rm : Room} {D : va_G} {cy : Nat → ClassId} {de : Nat} {av : List Value} {f : gFm} {post post' : Option Nat → gFm → Prop} {mc ms : Nat} (h : gMq l y ws rm D cy de av f post mc ms) (hp : ∀ r f9, post r f9 → post' r f9) : gMq l y ws rm D cy de av f post' mc ms :=
  fun sz => MetFree.mono (h sz) (fun _ _ h => h) (fun _ _ _ _ _ h => h) (fun _ _ _ _ _ q => ⟨by
    obtain ⟨⟨⟨r, u, h1, h2, h3⟩, h4⟩, -⟩ := q
    exact ⟨⟨r, u, h1, hp r u h2, h3⟩, h4⟩, q.2⟩)
/-- a list of n objects: the list's own cell, and its array when there is one -/
def gL (cy : Nat → ClassId) (de : Nat) (f : gFm) (lk ek n : Nat) (ad : Nat → Nat) : Prop :=
  ∃ mc : Int32, (n = 0 ∧ ek = lk ∧ f lk = some (.inr (0, [.int mc, .ref de, .int 0]))) ∨
    (∃ (cap : Nat) (y : Nat → Option Nat), f lk = some (.inr (0, [.int mc, .ref ek, .int (nI n)])) ∧ f ek = some (.inl (cy 5, cap, .inr (.inr (.inr (.inr y))))) ∧ n ≤ cap ∧ 10 ≤ cap ∧ cap ≤ 130 ∧ ∀ j, j < n → y j = some (ad j))
theorem gL_lk {cy : Nat → ClassId} {de : Nat} {f : gFm} {lk ek n : Nat} {ad : Nat → Nat} (h : gL cy de f lk ek n ad) : ∃ fs, f lk = some (.inr (0, fs)) := by
  obtain ⟨mc, ⟨_, _, h⟩ | ⟨cap, y, h, _⟩⟩ := h
  · exact ⟨_, h⟩
  · exact ⟨_, h⟩
/-- what a list is, is known from the two cells -/
theorem gL_of {cy : Nat → ClassId} {de : Nat} {f f1 : gFm} {lk ek n : Nat} {ad ad1 : Nat → Nat} (h : gL cy de f lk ek n ad) (h1 : f1 lk = f lk) (h2 : f1 ek = f ek) (h3 : ∀ j, j < n → ad1 j = ad j) : gL cy de f1 lk ek n ad1 := by
  obtain ⟨mc, ⟨a1, a2, a3⟩ | ⟨cap, y, a1, a2, a3, a4, a5, a6⟩⟩ := h
  · exact ⟨mc, Or.inl ⟨a1, a2, h1.trans a3⟩⟩
  · exact ⟨mc, Or.inr ⟨cap, y, h1.trans a1, h2.trans a2, a3, a4, a5, fun j hj => by rw [h3 j hj]; exact a6 j hj⟩⟩
/-- an address of an object of a class other than the list's is none of the list's two -/
theorem gL_ap {cy : Nat → ClassId} {de : Nat} {f : gFm} {lk ek n : Nat} {ad : Nat → Nat} (h : gL cy de f lk ek n ad) {a ci : Nat} {fs : List Value} (ha : f a = some (.inr (ci, fs))) (hc : ci ≠ 0) : a ≠ lk ∧ a ≠ ek := by
  obtain ⟨mc, ⟨a1, a2, a3⟩ | ⟨cap, y, a1, a2, -⟩⟩ := h
  · refine ⟨fun q => ?_, fun q => ?_⟩
    · rw [q, a3] at ha; cases ha; exact hc rfl
    · rw [q, a2, a3] at ha; cases ha; exact hc rfl
  · refine ⟨fun q => ?_, fun q => ?_⟩
    · rw [q, a1] at ha; cases ha; exact hc rfl
    · rw [q, a2] at ha; cases ha

theorem c_Lsize (l : Launch) (D : va_G) (cy : Nat → ClassId) (de : Nat) (f : gFm) (lk : Nat) (ek : Nat) (n : Nat) (ad : Nat → Nat) (hL : gL cy de f lk ek n ad) : gMi l yJx4a65c_size_8abf5 wsJx4a65c_size_8abf5 { frames := 0, cells := 0, slots := 0, locals := 0 } D cy de [.ref lk] f (fun r9 f9 => r9 = nI n ∧ f9 = f) 0 0 := by
  obtain ⟨mc, ⟨h1, h2, h3⟩ | ⟨cap, y, h, -⟩⟩ := hL
  · exact gMi_mono (c_Jx4a65c_size_8abf5 l D cy de f lk mc de 0 h3) (fun r f9 q => ⟨by rw [q.1, h1, nI_0], q.2⟩)
  · exact c_Jx4a65c_size_8abf5 l D cy de f lk mc ek (nI n) h

theorem c_Lget (l : Launch) (D : va_G) (cy : Nat → ClassId) (de : Nat) (f : gFm) (lk : Nat) (ek : Nat) (n : Nat) (ad : Nat → Nat) (j : Nat) (hL : gL cy de f lk ek n ad) (hj : j < n) : gMq l yJx4a65c_get_915e3 wsJx4a65c_get_915e3 { frames := 2, cells := 0, slots := 0, locals := 43 } D cy de [.ref lk, .int (nI j)] f (fun r9 f9 => r9 = some (ad j) ∧ f9 = f) 0 0 := by
  obtain ⟨mc, ⟨h1, h2, h3⟩ | ⟨cap, y, h1, h2, h3, h4, h5, h6⟩⟩ := hL
  · omega
  · exact c_Jx4a65c_get_915e3 l D cy de f lk mc ek (nI n) cap y (nI j) (ad j) h1 h2 (nI_pos (by omega)) (nI_lt hj (by omega)) (vp_in_nI (by omega) (by omega)) (by rw [show ix (nI j) = j from nI_clamp (by omega)]; exact h6 j hj)

theorem c_Ladd (l : Launch) (D : va_G) (cy : Nat → ClassId) (de : Nat) (f : gFm) (lk : Nat) (ek : Nat) (n : Nat) (ad : Nat → Nat) (q : Nat) (ci : Nat) (qs : List Value) (rc : vw_C) (hL : gL cy de f lk ek n ad) (hn : n < 80) (hq : f q = some (.inr (ci, qs))) (hrc : vwCl[ci]? = some rc) (hca : (rc.1, "java/lang/Object") ∈ gCs) (hqa : q ≠ lk) (hqe : q ≠ ek) (hel : ∀ j, j < n → ∃ (ci : Nat) (fs : List Value) (r : vw_C), f (ad j) = some (.inr (ci, fs)) ∧ vwCl[ci]? = some r ∧ (r.1, "java/lang/Object") ∈ gCs) : gMi l yJx4a65c_add_9ea2d wsJx4a65c_add_9ea2d { frames := 6, cells := 1, slots := 200, locals := 190 } D cy de [.ref lk, .ref q] f (fun r9 f9 => r9 = 1 ∧ ∃ ek1, gL cy de f9 lk ek1 (n + 1) (va_up ad n q) ∧ (ek1 = ek ∨ f ek1 = none) ∧ (∀ b, b ≠ lk → b ≠ ek1 → f9 b = f b)) 1 200 := by
  obtain ⟨mc, ⟨h1, h2, h3⟩ | ⟨cap, y, h1, h2, h3, h4, h5, h6⟩⟩ := hL
  · subst h1
    refine gMi_mono (c_addF l D cy de f lk mc q ci qs rc h3 hq hrc hca hqa) (fun r f9 hw => ?_)
    obtain ⟨k1, q1, k2, k3⟩ := hw
    have hne : q1 ≠ lk := (g_nn h3 k2).symm
    refine ⟨k1, q1, ⟨mc + 1, Or.inr ⟨10, va_up (fun _ => none) (ix 0) (some q), ?_, ?_, by omega, by omega, by omega, fun j hj => ?_⟩⟩, Or.inr k2, fun b hb hb' => by rw [k3, va_up_ne _ _ hb, va_up_ne _ _ hb']⟩
    · rw [k3, va_up_self, show nI (0 + 1) = (0 : Int32) + 1 by decide]
    · rw [k3, va_up_ne _ _ hne, va_up_self]
    · have e : j = 0 := by omega
      subst e
      rw [show ix (0 : Int32) = 0 by decide, va_up_self, va_up_self]
  · have hle : ek ≠ lk := g_neA h1 h2
    rcases Nat.lt_or_ge n cap with hc | hc
    · refine gMi_mono (c_addR l D cy de f lk mc ek cap y n q ci qs rc h1 h2 hq hrc hca hqa hc (by omega) hqe) (fun r f9 hw => ?_)
      obtain ⟨k1, k3⟩ := hw
      refine ⟨k1, ek, ⟨mc + 1, Or.inr ⟨cap, va_up y (ix (nI n)) (some q), ?_, ?_, by omega, h4, h5, fun j hj => ?_⟩⟩, Or.inl rfl, fun b hb hb' => by rw [k3, va_up_ne _ _ hb, va_up_ne _ _ hb']⟩
      · rw [k3, va_up_self, nI_1]
      · rw [k3, va_up_ne _ _ hle, va_up_self]
      · rw [show ix (nI n) = n from nI_clamp (by omega)]
        by_cases z : j = n
        · subst z; rw [va_up_self, va_up_self]
        · rw [va_up_ne _ _ z, va_up_ne _ _ z]; exact h6 j (by omega)
    · have en : cap = n := by omega
      subst en
      refine gMi_mono (c_addG l D cy de f lk mc ek cap y q ci qs rc h1 h2 hq hrc hca hqa h4 h5 (fun j hj q2 hq2 => ?_) hqe) (fun r f9 hw => ?_)
      · have := h6 j hj
        rw [this] at hq2
        cases hq2
        exact hel j hj
      · obtain ⟨k1, q1, k2, k3⟩ := hw
        have hne : q1 ≠ lk := (g_nn h1 k2).symm
        refine ⟨k1, q1, ⟨mc + 1, Or.inr ⟨cap + cap / 2, va_up (va_cpy y (fun _ => none) 0 0 cap) (ix (nI cap)) (some q), ?_, ?_, by omega, by omega, by omega, fun j hj => ?_⟩⟩, Or.inr k2, fun b hb hb' => by rw [k3, va_up_ne _ _ hb, va_up_ne _ _ hb']⟩
        · rw [k3, va_up_self, nI_1]
        · rw [k3, va_up_ne _ _ hne, va_up_self]
        · rw [show ix (nI cap) = cap from nI_clamp (by omega)]
          by_cases z : j = cap
          · subst z; rw [va_up_self, va_up_self]
          · rw [va_up_ne _ _ z, va_up_ne _ _ z]
            show va_cpy y (fun _ => none) 0 0 cap j = _
            unfold va_cpy
            rw [if_pos (by omega), show 0 + (j - 0) = j by omega]
            exact h6 j (by omega)
