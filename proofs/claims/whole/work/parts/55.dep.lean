/-! what each part reads -/
def dW (h k : zm_H) : Prop := k.1 2000 = h.1 2000 ∧ k.1 2001 = h.1 2001 ∧ k.1 1000 = h.1 1000 ∧ k.1 1001 = h.1 1001 ∧ k.1 1002 = h.1 1002 ∧ k.1 1003 = h.1 1003
theorem rW_d {L : Nat} {xs : Nat → Int32} {h k : zm_H} (e : dW h k) (r : rW L xs h) : rW L xs k := by
  obtain ⟨e0, e1, e2, e3, e4, e5⟩ := e
  unfold rW at *
  rw [e0, e1, e2, e3, e4, e5]; exact r
def dN (h k : zm_H) : Prop := k.1 1 1 = h.1 1 1 ∧ k.1 1 2 = h.1 1 2 ∧ k.1 45 0 = h.1 45 0 ∧ k.1 45 11 = h.1 45 11 ∧ k.1 2 = h.1 2 ∧ k.1 45 8 = h.1 45 8 ∧ k.1 45 9 = h.1 45 9 ∧ k.1 45 10 = h.1 45 10 ∧
  k.1 46 = h.1 46 ∧ k.1 47 = h.1 47 ∧ k.1 48 = h.1 48 ∧ k.1 49 = h.1 49 ∧ k.1 50 = h.1 50 ∧ k.1 51 = h.1 51 ∧ k.1 52 = h.1 52 ∧ k.1 53 = h.1 53 ∧ k.1 54 = h.1 54 ∧ k.1 55 = h.1 55
theorem rN_d {T P : Nat} {h k : zm_H} (e : dN h k) (r : rN T P h) : rN T P k := by
  obtain ⟨e0, e1, e2, e3, e4, e5, e6, e7, e8, e9, e10, e11, e12, e13, e14, e15, e16, e17⟩ := e
  obtain ⟨r0, r1, r2, r3⟩ := r
  refine ⟨?_, ?_, ?_, ?_⟩
  · rw [e0, e1, e2, e3]; exact r0
  · intro w n hw hn
    rw [e4, ← r1 w n hw hn]
    rcases (show w < 12 ∨ w = 12 by omega) with g | rfl
    · rcases cases12 g with rfl | rfl | rfl | rfl | rfl | rfl | rfl | rfl | rfl | rfl | rfl | rfl <;> simp only [mc, mi, e5, e6, e7, e8, e9, e10, e11, e12, e14, e15, e16, e17]
    · simp only [mc, mi, e13]
  · rw [e4]; exact r2
  · rw [e4]; exact r3
def dC (h k : zm_H) : Prop := k.1 3 4 = h.1 3 4 ∧ k.1 3 5 = h.1 3 5 ∧ k.1 45 39 = h.1 45 39 ∧ k.1 45 38 = h.1 45 38 ∧ k.1 4 = h.1 4 ∧ k.1 5 = h.1 5 ∧ k.1 6 = h.1 6 ∧ k.1 7 = h.1 7 ∧ k.1 70 = h.1 70
theorem rC_d {T P D A : Nat} {h k : zm_H} (e : dC h k) (r : rC T P D A h) : rC T P D A k := by
  obtain ⟨e0, e1, e2, e3, e4, e5, e6, e7, e8⟩ := e
  unfold rC at *
  rw [e0, e1, e2, e3, e4, e5, e6, e7, e8]; exact r
def dT (h k : zm_H) : Prop := k.1 8 2 = h.1 8 2 ∧ k.1 45 15 = h.1 45 15 ∧ k.1 9 = h.1 9 ∧ k.1 56 = h.1 56
theorem rT_d {S : Nat} {h k : zm_H} (e : dT h k) (r : rT S h) : rT S k := by
  obtain ⟨e0, e1, e2, e3⟩ := e
  unfold rT at *
  rw [e0, e1, e2, e3]; exact r
def dG (h k : zm_H) : Prop := k.1 66 = h.1 66 ∧ k.1 23 2 = h.1 23 2 ∧ k.1 23 3 = h.1 23 3 ∧ k.1 23 4 = h.1 23 4 ∧ k.1 23 5 = h.1 23 5
theorem rG_d {h k : zm_H} (e : dG h k) (r : rG h) : rG k := by
  obtain ⟨e0, e1, e2, e3, e4⟩ := e
  unfold rG at *
  rw [e0, e1, e2, e3, e4]; exact r
def dI (h k : zm_H) : Prop := k.1 45 33 = h.1 45 33 ∧ k.1 0 10 = h.1 0 10 ∧ k.1 69 = h.1 69 ∧ k.1 26 = h.1 26 ∧ k.1 45 34 = h.1 45 34 ∧ k.1 67 = h.1 67 ∧ k.1 68 = h.1 68 ∧ k.1 27 = h.1 27 ∧ k.1 28 = h.1 28
theorem rI_d {T : Nat} {h k : zm_H} (e : dI h k) (r : rI T h) : rI T k := by
  obtain ⟨e0, e1, e2, e3, e4, e5, e6, e7, e8⟩ := e
  unfold rI at *
  rw [e0, e1, e2, e3, e4, e5, e6, e7, e8]; exact r
def dB (h k : zm_H) : Prop := k.1 29 2 = h.1 29 2 ∧ k.1 29 3 = h.1 29 3 ∧ k.1 45 41 = h.1 45 41 ∧ k.1 45 43 = h.1 45 43 ∧ k.1 30 = h.1 30 ∧ k.1 31 = h.1 31 ∧ k.1 71 = h.1 71 ∧ k.1 72 = h.1 72
theorem rB_d {B Q : Nat} {h k : zm_H} (e : dB h k) (r : rB B Q h) : rB B Q k := by
  obtain ⟨e0, e1, e2, e3, e4, e5, e6, e7⟩ := e
  unfold rB at *
  rw [e0, e1, e2, e3, e4, e5, e6, e7]; exact r
def dS (h k : zm_H) : Prop := k.1 33 = h.1 33 ∧ k.1 34 = h.1 34 ∧ k.1 35 = h.1 35 ∧ k.1 36 = h.1 36 ∧ k.1 37 = h.1 37 ∧ k.1 38 = h.1 38 ∧ k.1 73 = h.1 73 ∧ k.1 74 = h.1 74 ∧ k.2 = h.2
theorem rS_d {B : Nat} {h k : zm_H} (e : dS h k) (r : rS B h) : rS B k := by
  obtain ⟨e0, e1, e2, e3, e4, e5, e6, e7, e8⟩ := e
  have e9 : ∀ s, s < 6 → k.1 (33 + s) = h.1 (33 + s) := by
    intro s hs
    have : s = 0 ∨ s = 1 ∨ s = 2 ∨ s = 3 ∨ s = 4 ∨ s = 5 := by omega
    rcases this with rfl | rfl | rfl | rfl | rfl | rfl
    · exact e0
    · exact e1
    · exact e2
    · exact e3
    · exact e4
    · exact e5
  intro s hs
  have := r s hs
  unfold rSo at *
  rw [e9 s hs, e6, e7, e8]; exact this
theorem rS_mono {B B' : Nat} (hB : B ≤ B') {h : zm_H} (r : rS B h) : rS B' h := by
  intro s hs
  rcases r s hs with r | ⟨b, hb, r⟩ | r
  · exact .inl r
  · exact .inr (.inl ⟨b, by omega, r⟩)
  · exact .inr (.inr r)
theorem cnt_mono {T P T' P' : Nat} (hT : T ≤ T') (hP : P ≤ P') (w : Nat) : cnt T P w ≤ cnt T' P' w := by
  unfold cnt; repeat' split
  all_goals omega
theorem rC_mono {T P T' P' D A : Nat} (hT : T ≤ T') (hP : P ≤ P') {h : zm_H} (r : rC T P D A h) : rC T' P' D A h := by
  refine ⟨r.1, fun i hi => ?_⟩
  obtain ⟨n, w, hw, hn, r⟩ := r.2 i hi
  exact ⟨n, w, hw, Nat.lt_of_lt_of_le hn (cnt_mono hT hP w), r⟩
theorem rI_mono {T T' : Nat} (hT : T ≤ T') {h : zm_H} (r : rI T h) : rI T' h := by
  refine ⟨r.1, ?_⟩
  rcases r.2 with r | ⟨r0, r1, r2, r3, r4, O, hO, r⟩
  · exact .inl r
  · exact .inr ⟨r0, r1, r2, r3, r4, O, by omega, r⟩
