/-! the map is laid (printed by program) -/
section ZB
variable {ro : Nat → Int32 → zS → Option (zO × zS)} {L : Nat} {X : zK} {s : zJ} {R : Nat → Nat → Option Nat} {G : Nat → Nat → Int64} {nc ns : Nat} {Q : zO → zS → Prop} {g : Nat → Int} {U F T B ph : Int}
/-- a map's numbers, for what asks of the ground alone -/
def zg4 (w h c t : Int) : Nat → Int := fun i => if i = 0 then w else if i = 1 then h else if i = 2 then c else t
def zLf (s0 : zJ) (w h c : Int) (k : Nat) (s : zJ) : Prop := (s 8 9 = w ∧ s 8 10 = h ∧ s 8 11 = c) ∧ (∀ j : Nat, j < k → s 14 j = (j : Int) % w ∧ s 15 j = (j : Int) / w) ∧ (∀ j : Nat, (0 ≤ s 9 j ∧ s 9 j ≤ 9) ∧ (0 ≤ s 10 j ∧ s 10 j ≤ 3) ∧ s 11 j = 0 ∧ s 12 j = 0 ∧ s 13 j = 0) ∧ ∀ a f, ¬ (9 ≤ a ∧ a ≤ 15) → ¬ (a = 8 ∧ 9 ≤ f ∧ f ≤ 11) → s a f = s0 a f
theorem zLf_0 {s : zJ} {w h c : Int} (hc : w * h = c) (hz : ∀ j : Nat, s 9 j = 0 ∧ s 10 j = 0 ∧ s 11 j = 0 ∧ s 12 j = 0 ∧ s 13 j = 0) : zLf s w h c 0 (zup (zup (zup s 8 9 w) 8 10 h) 8 11 (w * h)) := by
  refine ⟨⟨?_, ?_, ?_⟩, fun j hj => absurd hj (Nat.not_lt_zero j), fun j => ?_, fun a f h1 h2 => ?_⟩
  · rw [zup_nj (by omega), zup_nj (by omega), zup_ej]
  · rw [zup_nj (by omega), zup_ej]
  · rw [zup_ej, hc]
  · have q := hz j
    rw [zup_nj (by omega), zup_nj (by omega), zup_nj (by omega), zup_nj (by omega), zup_nj (by omega), zup_nj (by omega), zup_nj (by omega), zup_nj (by omega), zup_nj (by omega), zup_nj (by omega), zup_nj (by omega), zup_nj (by omega), zup_nj (by omega), zup_nj (by omega), zup_nj (by omega)]
    omega
  · rw [zup_nj (by omega), zup_nj (by omega), zup_nj (by omega)]
theorem zLf_1 {s0 s : zJ} {w h c : Int} {k : Nat} {a b : Int} (H : zLf s0 w h c k s) (ha : 0 ≤ a ∧ a ≤ 9) (hb : 0 ≤ b ∧ b ≤ 3) : zLf s0 w h c (k + 1) (zup (zup (zup (zup (zup (zup (zup s 14 k ((k : Int) % (s 8 9))) 15 k ((k : Int) / (s 8 9))) 9 k a) 10 k b) 11 k 0) 12 k 0) 13 k 0) := by
  obtain ⟨⟨h1, h2, h3⟩, h4, h5, h6⟩ := H
  rw [h1]
  have o : ∀ p f, ¬ (9 ≤ p ∧ p ≤ 15) → (zup (zup (zup (zup (zup (zup (zup s 14 k ((k : Int) % w)) 15 k ((k : Int) / w)) 9 k a) 10 k b) 11 k 0) 12 k 0) 13 k 0) p f = s p f := fun p f hp => by
    rw [zup_n1 (by omega), zup_n1 (by omega), zup_n1 (by omega), zup_n1 (by omega), zup_n1 (by omega), zup_n1 (by omega), zup_n1 (by omega)]
  refine ⟨⟨(o 8 9 (by omega)).trans h1, (o 8 10 (by omega)).trans h2, (o 8 11 (by omega)).trans h3⟩, fun j hj => ⟨?_, ?_⟩, fun j => ⟨?_, ?_, ?_, ?_, ?_⟩, fun p f hp hq => (o p f hp).trans (h6 p f hp hq)⟩
  · rw [zup_n1 (by decide), zup_n1 (by decide), zup_n1 (by decide), zup_n1 (by decide), zup_n1 (by decide), zup_n1 (by decide), zup_e1]
    by_cases e : j = k
    · rw [if_pos e, e]
    · rw [if_neg e]; exact (h4 j (by omega)).1
  · rw [zup_n1 (by decide), zup_n1 (by decide), zup_n1 (by decide), zup_n1 (by decide), zup_n1 (by decide), zup_e1]
    by_cases e : j = k
    · rw [if_pos e, e]
    · rw [if_neg e, zup_n1 (by decide)]; exact (h4 j (by omega)).2
  · rw [zup_n1 (by decide), zup_n1 (by decide), zup_n1 (by decide), zup_n1 (by decide), zup_e1, zup_n1 (by decide), zup_n1 (by decide)]
    have q := (h5 j).1
    by_cases e : j = k
    · rw [if_pos e]; exact ha
    · rw [if_neg e]; exact q
  · rw [zup_n1 (by decide), zup_n1 (by decide), zup_n1 (by decide), zup_e1, zup_n1 (by decide), zup_n1 (by decide), zup_n1 (by decide)]
    have q := (h5 j).2.1
    by_cases e : j = k
    · rw [if_pos e]; exact hb
    · rw [if_neg e]; exact q
  · rw [zup_n1 (by decide), zup_n1 (by decide), zup_e1, zup_n1 (by decide), zup_n1 (by decide), zup_n1 (by decide), zup_n1 (by decide)]
    have q := (h5 j).2.2.1
    by_cases e : j = k
    · rw [if_pos e]
    · rw [if_neg e]; exact q
  · rw [zup_n1 (by decide), zup_e1, zup_n1 (by decide), zup_n1 (by decide), zup_n1 (by decide), zup_n1 (by decide), zup_n1 (by decide)]
    have q := (h5 j).2.2.2.1
    by_cases e : j = k
    · rw [if_pos e]
    · rw [if_neg e]; exact q
  · rw [zup_e1, zup_n1 (by decide), zup_n1 (by decide), zup_n1 (by decide), zup_n1 (by decide), zup_n1 (by decide), zup_n1 (by decide)]
    have q := (h5 j).2.2.2.2
    by_cases e : j = k
    · rw [if_pos e]
    · rw [if_neg e]; exact q
/-- what the squares are while the fort is raised -/
def zFb (s0 s : zJ) : Prop := (∀ j : Nat, (0 ≤ s 9 j ∧ s 9 j ≤ 9) ∧ (0 ≤ s 10 j ∧ s 10 j ≤ 3) ∧ (0 ≤ s 11 j ∧ s 11 j ≤ 3) ∧ (0 ≤ s 12 j ∧ s 12 j ≤ 99) ∧ s 13 j = 0 ∧ (s 11 j = 1 → 1 ≤ s 12 j)) ∧ ∀ a f, ¬ (9 ≤ a ∧ a ≤ 13) → s a f = s0 a f
theorem zsh11 {s : zJ} {k : Nat} {a b d v : Int} {j : Nat} : (zup (zup (zup (zup (zup s 9 k a) 10 k b) 11 k d) 12 k v) 13 k 0) 11 j = if j = k then d else s 11 j := by
  rw [zup_n1 (by decide), zup_n1 (by decide), zup_e1, zup_n1 (by decide), zup_n1 (by decide)]
theorem zFb_sh {s0 s : zJ} {k : Nat} {a b d v : Int} (h : zFb s0 s) (ha : 0 ≤ a ∧ a ≤ 9) (hb : 0 ≤ b ∧ b ≤ 3) (hd : 0 ≤ d ∧ d ≤ 3) (hv : 0 ≤ v ∧ v ≤ 99) (hdv : d = 1 → 1 ≤ v) : zFb s0 (zup (zup (zup (zup (zup s 9 k a) 10 k b) 11 k d) 12 k v) 13 k 0) := by
  refine ⟨fun j => ?_, fun p f hp => ?_⟩
  · have q := h.1 j
    have e9 : (zup (zup (zup (zup (zup s 9 k a) 10 k b) 11 k d) 12 k v) 13 k 0) 9 j = if j = k then a else s 9 j := by
      rw [zup_n1 (by decide), zup_n1 (by decide), zup_n1 (by decide), zup_n1 (by decide), zup_e1]
    have e10 : (zup (zup (zup (zup (zup s 9 k a) 10 k b) 11 k d) 12 k v) 13 k 0) 10 j = if j = k then b else s 10 j := by
      rw [zup_n1 (by decide), zup_n1 (by decide), zup_n1 (by decide), zup_e1, zup_n1 (by decide)]
    have e12 : (zup (zup (zup (zup (zup s 9 k a) 10 k b) 11 k d) 12 k v) 13 k 0) 12 j = if j = k then v else s 12 j := by
      rw [zup_n1 (by decide), zup_e1, zup_n1 (by decide), zup_n1 (by decide), zup_n1 (by decide)]
    have e13 : (zup (zup (zup (zup (zup s 9 k a) 10 k b) 11 k d) 12 k v) 13 k 0) 13 j = if j = k then 0 else s 13 j := by
      rw [zup_e1, zup_n1 (by decide), zup_n1 (by decide), zup_n1 (by decide), zup_n1 (by decide)]
    rw [e9, e10, zsh11, e12, e13]
    by_cases e : j = k
    · rw [if_pos e, if_pos e, if_pos e, if_pos e, if_pos e]
      exact ⟨ha, hb, hd, hv, rfl, hdv⟩
    · rw [if_neg e, if_neg e, if_neg e, if_neg e, if_neg e]
      exact q
  · rw [zup_n1 (by omega), zup_n1 (by omega), zup_n1 (by omega), zup_n1 (by omega), zup_n1 (by omega)]
    exact h.2 p f hp
def zPf (w h c : Int) (gt : Nat) (s : zJ) : Prop := zA (zg4 w h c (c - 1)) s ∧ (8 ≤ w ∧ w ≤ 12 ∧ 64 ≤ c ∧ c ≤ 144 ∧ s 8 11 = c) ∧ (s 15 0 = 0 ∧ s 15 1 = 0 ∧ s 15 w.toNat = 1 ∧ s 14 gt = 6 ∧ s 15 gt = 6 ∧ (gt : Int) < c) ∧ ∀ j : Nat, (j : Int) < c → 0 ≤ s 14 j ∧ s 14 j ≤ 12 ∧ 0 ≤ s 15 j ∧ s 15 j ≤ 12
theorem zPf.fr {w h c : Int} {gt : Nat} {s s2 : zJ} (H : zPf w h c gt s) (k : ∀ a f, ¬ (9 ≤ a ∧ a ≤ 13) → s2 a f = s a f) : zPf w h c gt s2 := by
  obtain ⟨h1, h2, h3, h4⟩ := H
  refine ⟨zA_fr (fun p f q => k p f (by omega)) h1, ?_, ?_, fun j hj => ?_⟩
  · rw [k 8 11 (by omega)]; exact h2
  · rw [k 15 0 (by omega), k 15 1 (by omega), k 15 w.toNat (by omega), k 14 gt (by omega), k 15 gt (by omega)]; exact h3
  · rw [k 14 j (by omega), k 15 j (by omega)]; exact h4 j hj
theorem zA_of {w h c t : Int} {s : zJ} (hw : 8 ≤ w ∧ w ≤ 12) (hh : 8 ≤ h ∧ h ≤ 12) (hc : w * h = c) (ht : 0 < t ∧ t < c) (e : s 8 9 = w ∧ s 8 10 = h ∧ s 8 11 = c ∧ s 8 12 = 0 ∧ s 8 13 = t) (hcl : ∀ j : Nat, (j : Int) < c → s 14 j = (j : Int) % w ∧ s 15 j = (j : Int) / w) (hr : ∀ p k : Nat, p < 5 → k < 6 → 0 ≤ s p k ∧ s p k ≤ 12) : zA (zg4 w h c t) s ∧ 64 ≤ c ∧ c ≤ 144 := by
  have hc2 : 64 ≤ c ∧ c ≤ 144 := by
    rcases (by omega : w = 8 ∨ w = 9 ∨ w = 10 ∨ w = 11 ∨ w = 12) with q | q | q | q | q <;> subst q <;> omega
  have key : ∀ k : Nat, (k : Int) < c → 0 ≤ s 14 k ∧ s 14 k < w ∧ 0 ≤ s 15 k ∧ s 15 k < h ∧ (0 < s 15 k → w ≤ k) ∧ (s 15 k < h - 1 → k + w < c) ∧ (s 14 k < w - 1 → (k : Int) + 1 < c) ∧ (0 < s 14 k → 1 ≤ (k : Int)) := by
    intro k hk
    obtain ⟨q1, q2⟩ := hcl k hk
    rw [q1, q2]
    clear q1 q2 hcl hr e
    rcases (by omega : w = 8 ∨ w = 9 ∨ w = 10 ∨ w = 11 ∨ w = 12) with q | q | q | q | q <;> subst q <;> omega
  exact ⟨⟨e, ⟨hw.1, hw.2, hh.1, hh.2, hc2.1, hc2.2, ht.1, ht.2⟩, key, hr⟩, hc2⟩
theorem zPf_of {w h c : Int} {gt : Nat} {s s0 : zJ} (hw : 8 ≤ w ∧ w ≤ 12) (hh : 8 ≤ h ∧ h ≤ 12) (hc : w * h = c) (hg : (gt : Int) = 6 * w + 6) (L : zLf s0 w h c c.toNat s) (hr : ∀ p k : Nat, p < 5 → k < 6 → 0 ≤ s0 p k ∧ s0 p k ≤ 12) : zPf w h c gt (zup (zup s 8 12 0) 8 13 (s 8 11 - 1)) := by
  obtain ⟨⟨h1, h2, h3⟩, h4, h5, h6⟩ := L
  have o : ∀ a f, a ≠ 8 → (zup (zup s 8 12 0) 8 13 (s 8 11 - 1)) a f = s a f := fun a f ha => by rw [zup_n1 ha, zup_n1 ha]
  have o8 : ∀ f, f ≠ 12 → f ≠ 13 → (zup (zup s 8 12 0) 8 13 (s 8 11 - 1)) 8 f = s 8 f := fun f ha hb => by rw [zup_e1, if_neg hb, zup_e1, if_neg ha]
  have hcl : ∀ j : Nat, (j : Int) < c → (zup (zup s 8 12 0) 8 13 (s 8 11 - 1)) 14 j = (j : Int) % w ∧ (zup (zup s 8 12 0) 8 13 (s 8 11 - 1)) 15 j = (j : Int) / w := fun j hj => by
    rw [o _ _ (by decide), o _ _ (by decide)]
    exact h4 j (by omega)
  have hc1 : 64 ≤ c ∧ c ≤ 144 ∧ 7 * w ≤ c := by
    rcases (by omega : w = 8 ∨ w = 9 ∨ w = 10 ∨ w = 11 ∨ w = 12) with q | q | q | q | q <;> subst q <;> omega
  have hA := zA_of (t := c - 1) hw hh hc (by omega) ⟨(o8 9 (by decide) (by decide)).trans h1, (o8 10 (by decide) (by decide)).trans h2, (o8 11 (by decide) (by decide)).trans h3, by rw [zup_e1, if_neg (by decide), zup_e1, if_pos rfl], by rw [zup_e1, if_pos rfl, h3]⟩ hcl (fun p k hp hk => by
    rw [o p k (by omega), h6 p k (by omega) (by omega)]
    exact hr p k hp hk)
  refine ⟨hA.1, ⟨hw.1, hw.2, hA.2.1, hA.2.2, (o8 11 (by decide) (by decide)).trans h3⟩, ?_, fun j hj => ?_⟩
  · have q0 := (hcl 0 (by omega)).2
    have q1 := (hcl 1 (by omega)).2
    have q2 := (hcl w.toNat (by omega)).2
    have q3 := hcl gt (by omega)
    rw [q0, q1, q2, q3.1, q3.2]
    clear q0 q1 q2 q3 hcl hA o o8 h4 h5 h6 hr
    rcases (by omega : w = 8 ∨ w = 9 ∨ w = 10 ∨ w = 11 ∨ w = 12) with q | q | q | q | q <;> subst q <;> omega
  · obtain ⟨q1, q2⟩ := hcl j hj
    rw [q1, q2]
    clear q1 q2 hcl hA o o8 h4 h5 h6 hr
    rcases (by omega : w = 8 ∨ w = 9 ∨ w = 10 ∨ w = 11 ∨ w = 12) with q | q | q | q | q <;> subst q <;> omega
def zLO (w h c : Int) (s s1 : zJ) : Prop := (s1 8 9 = w ∧ s1 8 10 = h ∧ s1 8 11 = c ∧ s1 8 12 = 0 ∧ s1 8 13 = 6 * w + 6) ∧ (∀ j : Nat, (0 ≤ s1 9 j ∧ s1 9 j ≤ 9) ∧ (0 ≤ s1 10 j ∧ s1 10 j ≤ 3) ∧ (0 ≤ s1 11 j ∧ s1 11 j ≤ 3) ∧ (0 ≤ s1 12 j ∧ s1 12 j ≤ 99) ∧ s1 13 j = 0 ∧ (s1 11 j = 1 → 1 ≤ s1 12 j)) ∧ (s1 11 0 = 0 ∧ s1 11 (6 * w + 6).toNat = 3) ∧ (∀ j : Nat, (j : Int) < c → s1 14 j = (j : Int) % w ∧ s1 15 j = (j : Int) / w) ∧ ∀ a f, ¬ (8 ≤ a ∧ a ≤ 15) → s1 a f = s a f
theorem zLO_of {w h c : Int} {gt : Nat} {s s0 s1 s2 : zJ} (hw : 8 ≤ w ∧ w ≤ 12) (hg : (gt : Int) = 6 * w + 6) (L : zLf s0 w h c c.toNat s) (F1 : zFb (zup (zup s 8 12 0) 8 13 (s 8 11 - 1)) s1) (F2 : zFb s1 s2) (k0 : s2 11 0 = 0) (k1 : s2 11 gt = 3) (f89 : s2 8 9 = w) : zLO w h c s0 (zup s2 8 13 (6 * s2 8 9 + 6)) := by
  obtain ⟨⟨h1, h2, h3⟩, h4, h5, h6⟩ := L
  have o : ∀ a f, a ≠ 8 → (zup s2 8 13 (6 * s2 8 9 + 6)) a f = s2 a f := fun a f ha => by rw [zup_n1 ha]
  have o8 : ∀ f, f ≠ 12 → f ≠ 13 → s2 8 f = s 8 f := fun f ha hb => by rw [F2.2 8 f (by omega), F1.2 8 f (by omega), zup_e1, if_neg hb, zup_e1, if_neg ha]
  have eg : (6 * w + 6).toNat = gt := by omega
  refine ⟨⟨?_, ?_, ?_, ?_, ?_⟩, fun j => ?_, ⟨?_, ?_⟩, fun j hj => ⟨?_, ?_⟩, fun a f ha => ?_⟩
  · rw [zup_e1, if_neg (by decide)]; exact f89
  · rw [zup_e1, if_neg (by decide), o8 10 (by decide) (by decide)]; exact h2
  · rw [zup_e1, if_neg (by decide), o8 11 (by decide) (by decide)]; exact h3
  · rw [zup_e1, if_neg (by decide), F2.2 8 12 (by omega), F1.2 8 12 (by omega), zup_e1, if_neg (by decide), zup_e1, if_pos rfl]
  · rw [zup_e1, if_pos rfl, f89]
  · rw [o 9 j (by decide), o 10 j (by decide), o 11 j (by decide), o 12 j (by decide), o 13 j (by decide)]
    exact F2.1 j
  · rw [o 11 0 (by decide)]; exact k0
  · rw [o 11 _ (by decide), eg]; exact k1
  · rw [o 14 j (by decide), F2.2 14 j (by omega), F1.2 14 j (by omega), zup_n1 (by decide), zup_n1 (by decide)]
    exact (h4 j (by omega)).1
  · rw [o 15 j (by decide), F2.2 15 j (by omega), F1.2 15 j (by omega), zup_n1 (by decide), zup_n1 (by decide)]
    exact (h4 j (by omega)).2
  · rw [o a f (by omega), F2.2 a f (by omega), F1.2 a f (by omega), zup_n1 (by omega), zup_n1 (by omega)]
    exact h6 a f (by omega) (by omega)
theorem zFb_0 {s s0 : zJ} {w h c : Int} (L : zLf s0 w h c c.toNat s) : zFb (zup (zup s 8 12 0) 8 13 (s 8 11 - 1)) (zup (zup s 8 12 0) 8 13 (s 8 11 - 1)) := by
  refine ⟨fun j => ?_, fun a f _ => rfl⟩
  have q := L.2.2.1 j
  rw [zup_n1 (by decide), zup_n1 (by decide), zup_n1 (by decide), zup_n1 (by decide), zup_n1 (by decide), zup_n1 (by decide), zup_n1 (by decide), zup_n1 (by decide), zup_n1 (by decide), zup_n1 (by decide)]
  omega
theorem zup_id {s : zJ} {p f : Nat} {v : Int} (h : s p f = v) : zup s p f v = s := by
  funext a j
  unfold zup
  by_cases c : a = p ∧ j = f
  · rw [if_pos c, c.1, c.2, h]
  · rw [if_neg c]
set_option maxRecDepth 20000 in
set_option maxHeartbeats 20000000 in
theorem t_S_nextDrawn (S : zSR R) {d : Int} (p0 : 0 ≤ d ∧ d ≤ 1000) (hQ0 : ∀ (v : Int), 0 ≤ v ∧ v ≤ 96 → Q (.inl (some (.int (Int32.ofInt v)))) (zN L X (zhi s) R G nc ns)) : zW ro 17 0 (zfst [.int (Int32.ofInt d)] 1) [] (zN L X (zhi s) R G nc ns) Q := by
  show zW ro 17 0 [some (.int (Int32.ofInt d))] [] (zN L X (zhi s) R G nc ns) Q
  refine zW.run 2 (pc' := 3) (ls' := [some (.int (Int32.ofInt d))]) (st' := [.int (Int32.ofInt d), .int (Int32.ofInt 31)]) (σ' := (zN L X (zhi s) R G nc ns)) (fun n => rfl) ?_
  refine zW.jmul rfl ?_
  refine zW.run 1 (pc' := 6) (ls' := [some (.int (Int32.ofInt d))]) (st' := [.int (Int32.ofInt 17), .int (Int32.ofInt (31 * d))]) (σ' := (zN L X (zhi s) R G nc ns)) (fun n => rfl) ?_
  refine zW.jadd rfl ?_
  refine zW.run 1 (pc' := 9) (ls' := [some (.int (Int32.ofInt d))]) (st' := [.int (Int32.ofInt 97), .int (Int32.ofInt ((31 * d) + 17))]) (σ' := (zN L X (zhi s) R G nc ns)) (fun n => rfl) ?_
  refine zW.jrem rfl (by omega) ?_
  exact zW.jret rfl rfl (hQ0 (((31 * d) + 17) % 97) (by omega))
set_option maxRecDepth 20000 in
set_option maxHeartbeats 20000000 in
theorem t_Ground_soilBy (S : zSR R) {d : Int} (p0 : 0 ≤ d ∧ d ≤ 10) (hQ0 : ∀ (v : Int), 0 ≤ v ∧ v ≤ 3 → Q (.inl (some (.int (Int32.ofInt v)))) (zN L X (zhi s) R G nc ns)) : zW ro 75 0 (zfst [.int (Int32.ofInt d)] 1) [] (zN L X (zhi s) R G nc ns) Q := by
  show zW ro 75 0 [some (.int (Int32.ofInt d))] [] (zN L X (zhi s) R G nc ns) Q
  refine zW.run 2 (pc' := 3) (ls' := [some (.int (Int32.ofInt d))]) (st' := [.int (Int32.ofInt 6), .int (Int32.ofInt d)]) (σ' := (zN L X (zhi s) R G nc ns)) (fun n => rfl) ?_
  refine zW.jcmp_ge rfl (by omega) (fun c1 => ?_) (fun c1 => ?_)
  · skip
    refine zW.run 2 (pc' := 11) (ls' := [some (.int (Int32.ofInt d))]) (st' := [.int (Int32.ofInt 8), .int (Int32.ofInt d)]) (σ' := (zN L X (zhi s) R G nc ns)) (fun n => rfl) ?_
    refine zW.jcmp_ge rfl (by omega) (fun c2 => ?_) (fun c2 => ?_)
    · skip
      refine zW.run 2 (pc' := 21) (ls' := [some (.int (Int32.ofInt d))]) (st' := [.int (Int32.ofInt 8), .int (Int32.ofInt d)]) (σ' := (zN L X (zhi s) R G nc ns)) (fun n => rfl) ?_
      refine zW.jcmp_ne rfl (by omega) (fun c3 => ?_) (fun c3 => ?_)
      · skip
        refine zW.run 1 (pc' := 29) (ls' := [some (.int (Int32.ofInt d))]) (st' := [.int (Int32.ofInt 3)]) (σ' := (zN L X (zhi s) R G nc ns)) (fun n => rfl) ?_
        exact zW.jret rfl rfl (hQ0 3 (by omega))
      · skip
        refine zW.run 2 (pc' := 29) (ls' := [some (.int (Int32.ofInt d))]) (st' := [.int (Int32.ofInt 2)]) (σ' := (zN L X (zhi s) R G nc ns)) (fun n => rfl) ?_
        exact zW.jret rfl rfl (hQ0 2 (by omega))
    · skip
      refine zW.run 2 (pc' := 29) (ls' := [some (.int (Int32.ofInt d))]) (st' := [.int (Int32.ofInt 1)]) (σ' := (zN L X (zhi s) R G nc ns)) (fun n => rfl) ?_
      exact zW.jret rfl rfl (hQ0 1 (by omega))
  · skip
    refine zW.run 1 (pc' := 7) (ls' := [some (.int (Int32.ofInt d))]) (st' := [.int (Int32.ofInt 0)]) (σ' := (zN L X (zhi s) R G nc ns)) (fun n => rfl) ?_
    exact zW.jret rfl rfl (hQ0 0 (by omega))
set_option maxRecDepth 20000 in
set_option maxHeartbeats 20000000 in
theorem t_Ground_isOn_b (S : zSR R) {x : Int} {c : Int} (p0 : -2147483648 ≤ x ∧ x < 2147483648) (p1 : s 8 11 = c ∧ 0 ≤ c ∧ c ≤ 144) (hQ0 : 0 ≤ x → x < c → Q (.inl (some (.int (Int32.ofInt 1)))) (zN L X (zhi s) R G nc ns)) (hQ1 : x < 0 ∨ c ≤ x → Q (.inl (some (.int (Int32.ofInt 0)))) (zN L X (zhi s) R G nc ns)) : zW ro 67 0 (zfst [.ref 8, .int (Int32.ofInt x)] 2) [] (zN L X (zhi s) R G nc ns) Q := by
  show zW ro 67 0 [some (.ref 8), some (.int (Int32.ofInt x))] [] (zN L X (zhi s) R G nc ns) Q
  refine zW.run 1 (pc' := 1) (ls' := [some (.ref 8), some (.int (Int32.ofInt x))]) (st' := [.int (Int32.ofInt x)]) (σ' := (zN L X (zhi s) R G nc ns)) (fun n => rfl) ?_
  refine zW.jif_lt rfl (by omega) (fun c1 => ?_) (fun c1 => ?_)
  · skip
    refine zW.run 1 (pc' := 24) (ls' := [some (.ref 8), some (.int (Int32.ofInt x))]) (st' := [.int (Int32.ofInt 0)]) (σ' := (zN L X (zhi s) R G nc ns)) (fun n => rfl) ?_
    exact zW.jretb rfl rfl (by decide) (hQ1 (by omega))
  · skip
    refine zW.run 2 (pc' := 6) (ls' := [some (.ref 8), some (.int (Int32.ofInt x))]) (st' := [.ref 8, .int (Int32.ofInt x)]) (σ' := (zN L X (zhi s) R G nc ns)) (fun n => rfl) ?_
    refine zW.run 1 (pc' := 9) (ls' := [some (.ref 8), some (.int (Int32.ofInt x))]) (st' := [.int (Int32.ofInt (s 8 11)), .int (Int32.ofInt x)]) (σ' := (zN L X (zhi s) R G nc ns)) (fun n => rfl) ?_
    refine zW.jcmp_ge rfl (by omega) (fun c2 => ?_) (fun c2 => ?_)
    · skip
      refine zW.run 1 (pc' := 24) (ls' := [some (.ref 8), some (.int (Int32.ofInt x))]) (st' := [.int (Int32.ofInt 0)]) (σ' := (zN L X (zhi s) R G nc ns)) (fun n => rfl) ?_
      exact zW.jretb rfl rfl (by decide) (hQ1 (by omega))
    · skip
      refine zW.run 2 (pc' := 16) (ls' := [some (.ref 8), some (.int (Int32.ofInt x))]) (st' := [.int (Int32.ofInt 144), .int (Int32.ofInt x)]) (σ' := (zN L X (zhi s) R G nc ns)) (fun n => rfl) ?_
      refine zW.jcmp_ge rfl (by omega) (fun c3 => ?_) (fun c3 => ?_)
      · skip
        refine zW.run 1 (pc' := 24) (ls' := [some (.ref 8), some (.int (Int32.ofInt x))]) (st' := [.int (Int32.ofInt 0)]) (σ' := (zN L X (zhi s) R G nc ns)) (fun n => rfl) ?_
        exact zW.jretb rfl rfl (by decide) (hQ1 (by omega))
      · skip
        refine zW.run 2 (pc' := 24) (ls' := [some (.ref 8), some (.int (Int32.ofInt x))]) (st' := [.int (Int32.ofInt 1)]) (σ' := (zN L X (zhi s) R G nc ns)) (fun n => rfl) ?_
        exact zW.jretb rfl rfl (by decide) (hQ0 (by omega) (by omega))
set_option maxRecDepth 20000 in
set_option maxHeartbeats 20000000 in
theorem t_Ground_shape_b0 (S : zSR R) {x : Int} {a : Int} {b : Int} {e : Int} {c : Int} (p0 : 0 ≤ x ∧ x < c) (p1 : s 8 11 = c ∧ 0 ≤ c ∧ c ≤ 144) (hQ0 : Q (.inl none) (zN L X (zhi (zup (zup (zup (zup (zup s 9 x.toNat a) 10 x.toNat b) 11 x.toNat 0) 12 x.toNat 0) 13 x.toNat 0)) R G nc ns)) : zW ro 74 0 (zfst [.ref 8, .int (Int32.ofInt x), .int (Int32.ofInt a), .int (Int32.ofInt b), .int (Int32.ofInt 0), .int (Int32.ofInt e)] 6) [] (zN L X (zhi s) R G nc ns) Q := by
  show zW ro 74 0 [some (.ref 8), some (.int (Int32.ofInt x)), some (.int (Int32.ofInt a)), some (.int (Int32.ofInt b)), some (.int (Int32.ofInt 0)), some (.int (Int32.ofInt e))] [] (zN L X (zhi s) R G nc ns) Q
  refine zW.run 2 (pc' := 2) (ls' := [some (.ref 8), some (.int (Int32.ofInt x)), some (.int (Int32.ofInt a)), some (.int (Int32.ofInt b)), some (.int (Int32.ofInt 0)), some (.int (Int32.ofInt e))]) (st' := [.int (Int32.ofInt x), .ref 8]) (σ' := (zN L X (zhi s) R G nc ns)) (fun n => rfl) ?_
  refine zW.callV rfl (by decide) rfl rfl rfl rfl rfl (Nat.le_of_ble_eq_true rfl) ?_
  refine t_Ground_isOn_b S (x := x) (c := c) (by omega) (by omega) (fun f1 f2 => ?_) (fun f3 => ?_)
  · skip
    show zW ro 74 5 [some (.ref 8), some (.int (Int32.ofInt x)), some (.int (Int32.ofInt a)), some (.int (Int32.ofInt b)), some (.int (Int32.ofInt 0)), some (.int (Int32.ofInt e))] [.int (Int32.ofInt 1)] (zN L X (zhi s) R G nc ns) Q
    refine zW.run 2 (pc' := 9) (ls' := [some (.ref 8), some (.int (Int32.ofInt x)), some (.int (Int32.ofInt a)), some (.int (Int32.ofInt b)), some (.int (Int32.ofInt 0)), some (.int (Int32.ofInt e))]) (st' := [.ref 8]) (σ' := (zN L X (zhi s) R G nc ns)) (fun n => rfl) ?_
    refine zW.getf (v := .ref 9) rfl rfl (zr_8 S (f := 0) (by decide)) ?_
    refine zW.run 2 (pc' := 14) (ls' := [some (.ref 8), some (.int (Int32.ofInt x)), some (.int (Int32.ofInt a)), some (.int (Int32.ofInt b)), some (.int (Int32.ofInt 0)), some (.int (Int32.ofInt e))]) (st' := [.int (Int32.ofInt a), .int (Int32.ofInt x), .ref 9]) (σ' := (zN L X (zhi s) R G nc ns)) (fun n => rfl) ?_
    refine zW.jast (n := 144) rfl rfl (by decide) (by omega) ?_
    refine zW.run 1 (pc' := 16) (ls' := [some (.ref 8), some (.int (Int32.ofInt x)), some (.int (Int32.ofInt a)), some (.int (Int32.ofInt b)), some (.int (Int32.ofInt 0)), some (.int (Int32.ofInt e))]) (st' := [.ref 8]) (σ' := (zN L X (zhi (zup s 9 x.toNat a)) R G nc ns)) (fun n => rfl) ?_
    refine zW.getf (v := .ref 10) rfl rfl (zr_8 S (f := 1) (by decide)) ?_
    refine zW.run 2 (pc' := 21) (ls' := [some (.ref 8), some (.int (Int32.ofInt x)), some (.int (Int32.ofInt a)), some (.int (Int32.ofInt b)), some (.int (Int32.ofInt 0)), some (.int (Int32.ofInt e))]) (st' := [.int (Int32.ofInt b), .int (Int32.ofInt x), .ref 10]) (σ' := (zN L X (zhi (zup s 9 x.toNat a)) R G nc ns)) (fun n => rfl) ?_
    refine zW.jast (n := 144) rfl rfl (by decide) (by omega) ?_
    refine zW.run 1 (pc' := 23) (ls' := [some (.ref 8), some (.int (Int32.ofInt x)), some (.int (Int32.ofInt a)), some (.int (Int32.ofInt b)), some (.int (Int32.ofInt 0)), some (.int (Int32.ofInt e))]) (st' := [.ref 8]) (σ' := (zN L X (zhi (zup (zup s 9 x.toNat a) 10 x.toNat b)) R G nc ns)) (fun n => rfl) ?_
    refine zW.getf (v := .ref 11) rfl rfl (zr_8 S (f := 2) (by decide)) ?_
    refine zW.run 2 (pc' := 29) (ls' := [some (.ref 8), some (.int (Int32.ofInt x)), some (.int (Int32.ofInt a)), some (.int (Int32.ofInt b)), some (.int (Int32.ofInt 0)), some (.int (Int32.ofInt e))]) (st' := [.int (Int32.ofInt 0), .int (Int32.ofInt x), .ref 11]) (σ' := (zN L X (zhi (zup (zup s 9 x.toNat a) 10 x.toNat b)) R G nc ns)) (fun n => rfl) ?_
    refine zW.jast (n := 144) rfl rfl (by decide) (by omega) ?_
    refine zW.run 1 (pc' := 31) (ls' := [some (.ref 8), some (.int (Int32.ofInt x)), some (.int (Int32.ofInt a)), some (.int (Int32.ofInt b)), some (.int (Int32.ofInt 0)), some (.int (Int32.ofInt e))]) (st' := [.ref 8]) (σ' := (zN L X (zhi (zup (zup (zup s 9 x.toNat a) 10 x.toNat b) 11 x.toNat 0)) R G nc ns)) (fun n => rfl) ?_
    refine zW.getf (v := .ref 12) rfl rfl (zr_8 S (f := 3) (by decide)) ?_
    refine zW.run 5 (pc' := 47) (ls' := [some (.ref 8), some (.int (Int32.ofInt x)), some (.int (Int32.ofInt a)), some (.int (Int32.ofInt b)), some (.int (Int32.ofInt 0)), some (.int (Int32.ofInt e))]) (st' := [.int (Int32.ofInt 0), .int (Int32.ofInt x), .ref 12]) (σ' := (zN L X (zhi (zup (zup (zup s 9 x.toNat a) 10 x.toNat b) 11 x.toNat 0)) R G nc ns)) (fun n => rfl) ?_
    refine zW.jast (n := 144) rfl rfl (by decide) (by omega) ?_
    refine zW.run 1 (pc' := 49) (ls' := [some (.ref 8), some (.int (Int32.ofInt x)), some (.int (Int32.ofInt a)), some (.int (Int32.ofInt b)), some (.int (Int32.ofInt 0)), some (.int (Int32.ofInt e))]) (st' := [.ref 8]) (σ' := (zN L X (zhi (zup (zup (zup (zup s 9 x.toNat a) 10 x.toNat b) 11 x.toNat 0) 12 x.toNat 0)) R G nc ns)) (fun n => rfl) ?_
    refine zW.getf (v := .ref 13) rfl rfl (zr_8 S (f := 4) (by decide)) ?_
    refine zW.run 2 (pc' := 54) (ls' := [some (.ref 8), some (.int (Int32.ofInt x)), some (.int (Int32.ofInt a)), some (.int (Int32.ofInt b)), some (.int (Int32.ofInt 0)), some (.int (Int32.ofInt e))]) (st' := [.int (Int32.ofInt 0), .int (Int32.ofInt x), .ref 13]) (σ' := (zN L X (zhi (zup (zup (zup (zup s 9 x.toNat a) 10 x.toNat b) 11 x.toNat 0) 12 x.toNat 0)) R G nc ns)) (fun n => rfl) ?_
    refine zW.jast (n := 144) rfl rfl (by decide) (by omega) ?_
    exact zW.vret rfl hQ0
  · skip
    show zW ro 74 5 [some (.ref 8), some (.int (Int32.ofInt x)), some (.int (Int32.ofInt a)), some (.int (Int32.ofInt b)), some (.int (Int32.ofInt 0)), some (.int (Int32.ofInt e))] [.int (Int32.ofInt 0)] (zN L X (zhi s) R G nc ns) Q
    refine zW.run 1 (pc' := 55) (ls' := [some (.ref 8), some (.int (Int32.ofInt x)), some (.int (Int32.ofInt a)), some (.int (Int32.ofInt b)), some (.int (Int32.ofInt 0)), some (.int (Int32.ofInt e))]) (st' := []) (σ' := (zN L X (zhi s) R G nc ns)) (fun n => rfl) ?_
    exfalso; omega
set_option maxRecDepth 20000 in
set_option maxHeartbeats 20000000 in
theorem t_Ground_shape_b1 (S : zSR R) {x : Int} {a : Int} {b : Int} {e : Int} {c : Int} (p0 : 0 ≤ x ∧ x < c) (p1 : s 8 11 = c ∧ 0 ≤ c ∧ c ≤ 144) (hQ0 : Q (.inl none) (zN L X (zhi (zup (zup (zup (zup (zup s 9 x.toNat a) 10 x.toNat b) 11 x.toNat 1) 12 x.toNat e) 13 x.toNat 0)) R G nc ns)) : zW ro 74 0 (zfst [.ref 8, .int (Int32.ofInt x), .int (Int32.ofInt a), .int (Int32.ofInt b), .int (Int32.ofInt 1), .int (Int32.ofInt e)] 6) [] (zN L X (zhi s) R G nc ns) Q := by
  show zW ro 74 0 [some (.ref 8), some (.int (Int32.ofInt x)), some (.int (Int32.ofInt a)), some (.int (Int32.ofInt b)), some (.int (Int32.ofInt 1)), some (.int (Int32.ofInt e))] [] (zN L X (zhi s) R G nc ns) Q
  refine zW.run 2 (pc' := 2) (ls' := [some (.ref 8), some (.int (Int32.ofInt x)), some (.int (Int32.ofInt a)), some (.int (Int32.ofInt b)), some (.int (Int32.ofInt 1)), some (.int (Int32.ofInt e))]) (st' := [.int (Int32.ofInt x), .ref 8]) (σ' := (zN L X (zhi s) R G nc ns)) (fun n => rfl) ?_
  refine zW.callV rfl (by decide) rfl rfl rfl rfl rfl (Nat.le_of_ble_eq_true rfl) ?_
  refine t_Ground_isOn_b S (x := x) (c := c) (by omega) (by omega) (fun f1 f2 => ?_) (fun f3 => ?_)
  · skip
    show zW ro 74 5 [some (.ref 8), some (.int (Int32.ofInt x)), some (.int (Int32.ofInt a)), some (.int (Int32.ofInt b)), some (.int (Int32.ofInt 1)), some (.int (Int32.ofInt e))] [.int (Int32.ofInt 1)] (zN L X (zhi s) R G nc ns) Q
    refine zW.run 2 (pc' := 9) (ls' := [some (.ref 8), some (.int (Int32.ofInt x)), some (.int (Int32.ofInt a)), some (.int (Int32.ofInt b)), some (.int (Int32.ofInt 1)), some (.int (Int32.ofInt e))]) (st' := [.ref 8]) (σ' := (zN L X (zhi s) R G nc ns)) (fun n => rfl) ?_
    refine zW.getf (v := .ref 9) rfl rfl (zr_8 S (f := 0) (by decide)) ?_
    refine zW.run 2 (pc' := 14) (ls' := [some (.ref 8), some (.int (Int32.ofInt x)), some (.int (Int32.ofInt a)), some (.int (Int32.ofInt b)), some (.int (Int32.ofInt 1)), some (.int (Int32.ofInt e))]) (st' := [.int (Int32.ofInt a), .int (Int32.ofInt x), .ref 9]) (σ' := (zN L X (zhi s) R G nc ns)) (fun n => rfl) ?_
    refine zW.jast (n := 144) rfl rfl (by decide) (by omega) ?_
    refine zW.run 1 (pc' := 16) (ls' := [some (.ref 8), some (.int (Int32.ofInt x)), some (.int (Int32.ofInt a)), some (.int (Int32.ofInt b)), some (.int (Int32.ofInt 1)), some (.int (Int32.ofInt e))]) (st' := [.ref 8]) (σ' := (zN L X (zhi (zup s 9 x.toNat a)) R G nc ns)) (fun n => rfl) ?_
    refine zW.getf (v := .ref 10) rfl rfl (zr_8 S (f := 1) (by decide)) ?_
    refine zW.run 2 (pc' := 21) (ls' := [some (.ref 8), some (.int (Int32.ofInt x)), some (.int (Int32.ofInt a)), some (.int (Int32.ofInt b)), some (.int (Int32.ofInt 1)), some (.int (Int32.ofInt e))]) (st' := [.int (Int32.ofInt b), .int (Int32.ofInt x), .ref 10]) (σ' := (zN L X (zhi (zup s 9 x.toNat a)) R G nc ns)) (fun n => rfl) ?_
    refine zW.jast (n := 144) rfl rfl (by decide) (by omega) ?_
    refine zW.run 1 (pc' := 23) (ls' := [some (.ref 8), some (.int (Int32.ofInt x)), some (.int (Int32.ofInt a)), some (.int (Int32.ofInt b)), some (.int (Int32.ofInt 1)), some (.int (Int32.ofInt e))]) (st' := [.ref 8]) (σ' := (zN L X (zhi (zup (zup s 9 x.toNat a) 10 x.toNat b)) R G nc ns)) (fun n => rfl) ?_
    refine zW.getf (v := .ref 11) rfl rfl (zr_8 S (f := 2) (by decide)) ?_
    refine zW.run 2 (pc' := 29) (ls' := [some (.ref 8), some (.int (Int32.ofInt x)), some (.int (Int32.ofInt a)), some (.int (Int32.ofInt b)), some (.int (Int32.ofInt 1)), some (.int (Int32.ofInt e))]) (st' := [.int (Int32.ofInt 1), .int (Int32.ofInt x), .ref 11]) (σ' := (zN L X (zhi (zup (zup s 9 x.toNat a) 10 x.toNat b)) R G nc ns)) (fun n => rfl) ?_
    refine zW.jast (n := 144) rfl rfl (by decide) (by omega) ?_
    refine zW.run 1 (pc' := 31) (ls' := [some (.ref 8), some (.int (Int32.ofInt x)), some (.int (Int32.ofInt a)), some (.int (Int32.ofInt b)), some (.int (Int32.ofInt 1)), some (.int (Int32.ofInt e))]) (st' := [.ref 8]) (σ' := (zN L X (zhi (zup (zup (zup s 9 x.toNat a) 10 x.toNat b) 11 x.toNat 1)) R G nc ns)) (fun n => rfl) ?_
    refine zW.getf (v := .ref 12) rfl rfl (zr_8 S (f := 3) (by decide)) ?_
    refine zW.run 6 (pc' := 47) (ls' := [some (.ref 8), some (.int (Int32.ofInt x)), some (.int (Int32.ofInt a)), some (.int (Int32.ofInt b)), some (.int (Int32.ofInt 1)), some (.int (Int32.ofInt e))]) (st' := [.int (Int32.ofInt e), .int (Int32.ofInt x), .ref 12]) (σ' := (zN L X (zhi (zup (zup (zup s 9 x.toNat a) 10 x.toNat b) 11 x.toNat 1)) R G nc ns)) (fun n => rfl) ?_
    refine zW.jast (n := 144) rfl rfl (by decide) (by omega) ?_
    refine zW.run 1 (pc' := 49) (ls' := [some (.ref 8), some (.int (Int32.ofInt x)), some (.int (Int32.ofInt a)), some (.int (Int32.ofInt b)), some (.int (Int32.ofInt 1)), some (.int (Int32.ofInt e))]) (st' := [.ref 8]) (σ' := (zN L X (zhi (zup (zup (zup (zup s 9 x.toNat a) 10 x.toNat b) 11 x.toNat 1) 12 x.toNat e)) R G nc ns)) (fun n => rfl) ?_
    refine zW.getf (v := .ref 13) rfl rfl (zr_8 S (f := 4) (by decide)) ?_
    refine zW.run 2 (pc' := 54) (ls' := [some (.ref 8), some (.int (Int32.ofInt x)), some (.int (Int32.ofInt a)), some (.int (Int32.ofInt b)), some (.int (Int32.ofInt 1)), some (.int (Int32.ofInt e))]) (st' := [.int (Int32.ofInt 0), .int (Int32.ofInt x), .ref 13]) (σ' := (zN L X (zhi (zup (zup (zup (zup s 9 x.toNat a) 10 x.toNat b) 11 x.toNat 1) 12 x.toNat e)) R G nc ns)) (fun n => rfl) ?_
    refine zW.jast (n := 144) rfl rfl (by decide) (by omega) ?_
    exact zW.vret rfl hQ0
  · skip
    show zW ro 74 5 [some (.ref 8), some (.int (Int32.ofInt x)), some (.int (Int32.ofInt a)), some (.int (Int32.ofInt b)), some (.int (Int32.ofInt 1)), some (.int (Int32.ofInt e))] [.int (Int32.ofInt 0)] (zN L X (zhi s) R G nc ns) Q
    refine zW.run 1 (pc' := 55) (ls' := [some (.ref 8), some (.int (Int32.ofInt x)), some (.int (Int32.ofInt a)), some (.int (Int32.ofInt b)), some (.int (Int32.ofInt 1)), some (.int (Int32.ofInt e))]) (st' := []) (σ' := (zN L X (zhi s) R G nc ns)) (fun n => rfl) ?_
    exfalso; omega
set_option maxRecDepth 20000 in
set_option maxHeartbeats 20000000 in
theorem t_Ground_shape_b2 (S : zSR R) {x : Int} {a : Int} {b : Int} {e : Int} {c : Int} (p0 : 0 ≤ x ∧ x < c) (p1 : s 8 11 = c ∧ 0 ≤ c ∧ c ≤ 144) (hQ0 : Q (.inl none) (zN L X (zhi (zup (zup (zup (zup (zup s 9 x.toNat a) 10 x.toNat b) 11 x.toNat 2) 12 x.toNat 0) 13 x.toNat 0)) R G nc ns)) : zW ro 74 0 (zfst [.ref 8, .int (Int32.ofInt x), .int (Int32.ofInt a), .int (Int32.ofInt b), .int (Int32.ofInt 2), .int (Int32.ofInt e)] 6) [] (zN L X (zhi s) R G nc ns) Q := by
  show zW ro 74 0 [some (.ref 8), some (.int (Int32.ofInt x)), some (.int (Int32.ofInt a)), some (.int (Int32.ofInt b)), some (.int (Int32.ofInt 2)), some (.int (Int32.ofInt e))] [] (zN L X (zhi s) R G nc ns) Q
  refine zW.run 2 (pc' := 2) (ls' := [some (.ref 8), some (.int (Int32.ofInt x)), some (.int (Int32.ofInt a)), some (.int (Int32.ofInt b)), some (.int (Int32.ofInt 2)), some (.int (Int32.ofInt e))]) (st' := [.int (Int32.ofInt x), .ref 8]) (σ' := (zN L X (zhi s) R G nc ns)) (fun n => rfl) ?_
  refine zW.callV rfl (by decide) rfl rfl rfl rfl rfl (Nat.le_of_ble_eq_true rfl) ?_
  refine t_Ground_isOn_b S (x := x) (c := c) (by omega) (by omega) (fun f1 f2 => ?_) (fun f3 => ?_)
  · skip
    show zW ro 74 5 [some (.ref 8), some (.int (Int32.ofInt x)), some (.int (Int32.ofInt a)), some (.int (Int32.ofInt b)), some (.int (Int32.ofInt 2)), some (.int (Int32.ofInt e))] [.int (Int32.ofInt 1)] (zN L X (zhi s) R G nc ns) Q
    refine zW.run 2 (pc' := 9) (ls' := [some (.ref 8), some (.int (Int32.ofInt x)), some (.int (Int32.ofInt a)), some (.int (Int32.ofInt b)), some (.int (Int32.ofInt 2)), some (.int (Int32.ofInt e))]) (st' := [.ref 8]) (σ' := (zN L X (zhi s) R G nc ns)) (fun n => rfl) ?_
    refine zW.getf (v := .ref 9) rfl rfl (zr_8 S (f := 0) (by decide)) ?_
    refine zW.run 2 (pc' := 14) (ls' := [some (.ref 8), some (.int (Int32.ofInt x)), some (.int (Int32.ofInt a)), some (.int (Int32.ofInt b)), some (.int (Int32.ofInt 2)), some (.int (Int32.ofInt e))]) (st' := [.int (Int32.ofInt a), .int (Int32.ofInt x), .ref 9]) (σ' := (zN L X (zhi s) R G nc ns)) (fun n => rfl) ?_
    refine zW.jast (n := 144) rfl rfl (by decide) (by omega) ?_
    refine zW.run 1 (pc' := 16) (ls' := [some (.ref 8), some (.int (Int32.ofInt x)), some (.int (Int32.ofInt a)), some (.int (Int32.ofInt b)), some (.int (Int32.ofInt 2)), some (.int (Int32.ofInt e))]) (st' := [.ref 8]) (σ' := (zN L X (zhi (zup s 9 x.toNat a)) R G nc ns)) (fun n => rfl) ?_
    refine zW.getf (v := .ref 10) rfl rfl (zr_8 S (f := 1) (by decide)) ?_
    refine zW.run 2 (pc' := 21) (ls' := [some (.ref 8), some (.int (Int32.ofInt x)), some (.int (Int32.ofInt a)), some (.int (Int32.ofInt b)), some (.int (Int32.ofInt 2)), some (.int (Int32.ofInt e))]) (st' := [.int (Int32.ofInt b), .int (Int32.ofInt x), .ref 10]) (σ' := (zN L X (zhi (zup s 9 x.toNat a)) R G nc ns)) (fun n => rfl) ?_
    refine zW.jast (n := 144) rfl rfl (by decide) (by omega) ?_
    refine zW.run 1 (pc' := 23) (ls' := [some (.ref 8), some (.int (Int32.ofInt x)), some (.int (Int32.ofInt a)), some (.int (Int32.ofInt b)), some (.int (Int32.ofInt 2)), some (.int (Int32.ofInt e))]) (st' := [.ref 8]) (σ' := (zN L X (zhi (zup (zup s 9 x.toNat a) 10 x.toNat b)) R G nc ns)) (fun n => rfl) ?_
    refine zW.getf (v := .ref 11) rfl rfl (zr_8 S (f := 2) (by decide)) ?_
    refine zW.run 2 (pc' := 29) (ls' := [some (.ref 8), some (.int (Int32.ofInt x)), some (.int (Int32.ofInt a)), some (.int (Int32.ofInt b)), some (.int (Int32.ofInt 2)), some (.int (Int32.ofInt e))]) (st' := [.int (Int32.ofInt 2), .int (Int32.ofInt x), .ref 11]) (σ' := (zN L X (zhi (zup (zup s 9 x.toNat a) 10 x.toNat b)) R G nc ns)) (fun n => rfl) ?_
    refine zW.jast (n := 144) rfl rfl (by decide) (by omega) ?_
    refine zW.run 1 (pc' := 31) (ls' := [some (.ref 8), some (.int (Int32.ofInt x)), some (.int (Int32.ofInt a)), some (.int (Int32.ofInt b)), some (.int (Int32.ofInt 2)), some (.int (Int32.ofInt e))]) (st' := [.ref 8]) (σ' := (zN L X (zhi (zup (zup (zup s 9 x.toNat a) 10 x.toNat b) 11 x.toNat 2)) R G nc ns)) (fun n => rfl) ?_
    refine zW.getf (v := .ref 12) rfl rfl (zr_8 S (f := 3) (by decide)) ?_
    refine zW.run 5 (pc' := 47) (ls' := [some (.ref 8), some (.int (Int32.ofInt x)), some (.int (Int32.ofInt a)), some (.int (Int32.ofInt b)), some (.int (Int32.ofInt 2)), some (.int (Int32.ofInt e))]) (st' := [.int (Int32.ofInt 0), .int (Int32.ofInt x), .ref 12]) (σ' := (zN L X (zhi (zup (zup (zup s 9 x.toNat a) 10 x.toNat b) 11 x.toNat 2)) R G nc ns)) (fun n => rfl) ?_
    refine zW.jast (n := 144) rfl rfl (by decide) (by omega) ?_
    refine zW.run 1 (pc' := 49) (ls' := [some (.ref 8), some (.int (Int32.ofInt x)), some (.int (Int32.ofInt a)), some (.int (Int32.ofInt b)), some (.int (Int32.ofInt 2)), some (.int (Int32.ofInt e))]) (st' := [.ref 8]) (σ' := (zN L X (zhi (zup (zup (zup (zup s 9 x.toNat a) 10 x.toNat b) 11 x.toNat 2) 12 x.toNat 0)) R G nc ns)) (fun n => rfl) ?_
    refine zW.getf (v := .ref 13) rfl rfl (zr_8 S (f := 4) (by decide)) ?_
    refine zW.run 2 (pc' := 54) (ls' := [some (.ref 8), some (.int (Int32.ofInt x)), some (.int (Int32.ofInt a)), some (.int (Int32.ofInt b)), some (.int (Int32.ofInt 2)), some (.int (Int32.ofInt e))]) (st' := [.int (Int32.ofInt 0), .int (Int32.ofInt x), .ref 13]) (σ' := (zN L X (zhi (zup (zup (zup (zup s 9 x.toNat a) 10 x.toNat b) 11 x.toNat 2) 12 x.toNat 0)) R G nc ns)) (fun n => rfl) ?_
    refine zW.jast (n := 144) rfl rfl (by decide) (by omega) ?_
    exact zW.vret rfl hQ0
  · skip
    show zW ro 74 5 [some (.ref 8), some (.int (Int32.ofInt x)), some (.int (Int32.ofInt a)), some (.int (Int32.ofInt b)), some (.int (Int32.ofInt 2)), some (.int (Int32.ofInt e))] [.int (Int32.ofInt 0)] (zN L X (zhi s) R G nc ns) Q
    refine zW.run 1 (pc' := 55) (ls' := [some (.ref 8), some (.int (Int32.ofInt x)), some (.int (Int32.ofInt a)), some (.int (Int32.ofInt b)), some (.int (Int32.ofInt 2)), some (.int (Int32.ofInt e))]) (st' := []) (σ' := (zN L X (zhi s) R G nc ns)) (fun n => rfl) ?_
    exfalso; omega
set_option maxRecDepth 20000 in
set_option maxHeartbeats 20000000 in
theorem t_Ground_shape_b3 (S : zSR R) {x : Int} {a : Int} {b : Int} {e : Int} {c : Int} (p0 : 0 ≤ x ∧ x < c) (p1 : s 8 11 = c ∧ 0 ≤ c ∧ c ≤ 144) (hQ0 : Q (.inl none) (zN L X (zhi (zup (zup (zup (zup (zup s 9 x.toNat a) 10 x.toNat b) 11 x.toNat 3) 12 x.toNat 0) 13 x.toNat 0)) R G nc ns)) : zW ro 74 0 (zfst [.ref 8, .int (Int32.ofInt x), .int (Int32.ofInt a), .int (Int32.ofInt b), .int (Int32.ofInt 3), .int (Int32.ofInt e)] 6) [] (zN L X (zhi s) R G nc ns) Q := by
  show zW ro 74 0 [some (.ref 8), some (.int (Int32.ofInt x)), some (.int (Int32.ofInt a)), some (.int (Int32.ofInt b)), some (.int (Int32.ofInt 3)), some (.int (Int32.ofInt e))] [] (zN L X (zhi s) R G nc ns) Q
  refine zW.run 2 (pc' := 2) (ls' := [some (.ref 8), some (.int (Int32.ofInt x)), some (.int (Int32.ofInt a)), some (.int (Int32.ofInt b)), some (.int (Int32.ofInt 3)), some (.int (Int32.ofInt e))]) (st' := [.int (Int32.ofInt x), .ref 8]) (σ' := (zN L X (zhi s) R G nc ns)) (fun n => rfl) ?_
  refine zW.callV rfl (by decide) rfl rfl rfl rfl rfl (Nat.le_of_ble_eq_true rfl) ?_
  refine t_Ground_isOn_b S (x := x) (c := c) (by omega) (by omega) (fun f1 f2 => ?_) (fun f3 => ?_)
  · skip
    show zW ro 74 5 [some (.ref 8), some (.int (Int32.ofInt x)), some (.int (Int32.ofInt a)), some (.int (Int32.ofInt b)), some (.int (Int32.ofInt 3)), some (.int (Int32.ofInt e))] [.int (Int32.ofInt 1)] (zN L X (zhi s) R G nc ns) Q
    refine zW.run 2 (pc' := 9) (ls' := [some (.ref 8), some (.int (Int32.ofInt x)), some (.int (Int32.ofInt a)), some (.int (Int32.ofInt b)), some (.int (Int32.ofInt 3)), some (.int (Int32.ofInt e))]) (st' := [.ref 8]) (σ' := (zN L X (zhi s) R G nc ns)) (fun n => rfl) ?_
    refine zW.getf (v := .ref 9) rfl rfl (zr_8 S (f := 0) (by decide)) ?_
    refine zW.run 2 (pc' := 14) (ls' := [some (.ref 8), some (.int (Int32.ofInt x)), some (.int (Int32.ofInt a)), some (.int (Int32.ofInt b)), some (.int (Int32.ofInt 3)), some (.int (Int32.ofInt e))]) (st' := [.int (Int32.ofInt a), .int (Int32.ofInt x), .ref 9]) (σ' := (zN L X (zhi s) R G nc ns)) (fun n => rfl) ?_
    refine zW.jast (n := 144) rfl rfl (by decide) (by omega) ?_
    refine zW.run 1 (pc' := 16) (ls' := [some (.ref 8), some (.int (Int32.ofInt x)), some (.int (Int32.ofInt a)), some (.int (Int32.ofInt b)), some (.int (Int32.ofInt 3)), some (.int (Int32.ofInt e))]) (st' := [.ref 8]) (σ' := (zN L X (zhi (zup s 9 x.toNat a)) R G nc ns)) (fun n => rfl) ?_
    refine zW.getf (v := .ref 10) rfl rfl (zr_8 S (f := 1) (by decide)) ?_
    refine zW.run 2 (pc' := 21) (ls' := [some (.ref 8), some (.int (Int32.ofInt x)), some (.int (Int32.ofInt a)), some (.int (Int32.ofInt b)), some (.int (Int32.ofInt 3)), some (.int (Int32.ofInt e))]) (st' := [.int (Int32.ofInt b), .int (Int32.ofInt x), .ref 10]) (σ' := (zN L X (zhi (zup s 9 x.toNat a)) R G nc ns)) (fun n => rfl) ?_
    refine zW.jast (n := 144) rfl rfl (by decide) (by omega) ?_
    refine zW.run 1 (pc' := 23) (ls' := [some (.ref 8), some (.int (Int32.ofInt x)), some (.int (Int32.ofInt a)), some (.int (Int32.ofInt b)), some (.int (Int32.ofInt 3)), some (.int (Int32.ofInt e))]) (st' := [.ref 8]) (σ' := (zN L X (zhi (zup (zup s 9 x.toNat a) 10 x.toNat b)) R G nc ns)) (fun n => rfl) ?_
    refine zW.getf (v := .ref 11) rfl rfl (zr_8 S (f := 2) (by decide)) ?_
    refine zW.run 2 (pc' := 29) (ls' := [some (.ref 8), some (.int (Int32.ofInt x)), some (.int (Int32.ofInt a)), some (.int (Int32.ofInt b)), some (.int (Int32.ofInt 3)), some (.int (Int32.ofInt e))]) (st' := [.int (Int32.ofInt 3), .int (Int32.ofInt x), .ref 11]) (σ' := (zN L X (zhi (zup (zup s 9 x.toNat a) 10 x.toNat b)) R G nc ns)) (fun n => rfl) ?_
    refine zW.jast (n := 144) rfl rfl (by decide) (by omega) ?_
    refine zW.run 1 (pc' := 31) (ls' := [some (.ref 8), some (.int (Int32.ofInt x)), some (.int (Int32.ofInt a)), some (.int (Int32.ofInt b)), some (.int (Int32.ofInt 3)), some (.int (Int32.ofInt e))]) (st' := [.ref 8]) (σ' := (zN L X (zhi (zup (zup (zup s 9 x.toNat a) 10 x.toNat b) 11 x.toNat 3)) R G nc ns)) (fun n => rfl) ?_
    refine zW.getf (v := .ref 12) rfl rfl (zr_8 S (f := 3) (by decide)) ?_
    refine zW.run 5 (pc' := 47) (ls' := [some (.ref 8), some (.int (Int32.ofInt x)), some (.int (Int32.ofInt a)), some (.int (Int32.ofInt b)), some (.int (Int32.ofInt 3)), some (.int (Int32.ofInt e))]) (st' := [.int (Int32.ofInt 0), .int (Int32.ofInt x), .ref 12]) (σ' := (zN L X (zhi (zup (zup (zup s 9 x.toNat a) 10 x.toNat b) 11 x.toNat 3)) R G nc ns)) (fun n => rfl) ?_
    refine zW.jast (n := 144) rfl rfl (by decide) (by omega) ?_
    refine zW.run 1 (pc' := 49) (ls' := [some (.ref 8), some (.int (Int32.ofInt x)), some (.int (Int32.ofInt a)), some (.int (Int32.ofInt b)), some (.int (Int32.ofInt 3)), some (.int (Int32.ofInt e))]) (st' := [.ref 8]) (σ' := (zN L X (zhi (zup (zup (zup (zup s 9 x.toNat a) 10 x.toNat b) 11 x.toNat 3) 12 x.toNat 0)) R G nc ns)) (fun n => rfl) ?_
    refine zW.getf (v := .ref 13) rfl rfl (zr_8 S (f := 4) (by decide)) ?_
    refine zW.run 2 (pc' := 54) (ls' := [some (.ref 8), some (.int (Int32.ofInt x)), some (.int (Int32.ofInt a)), some (.int (Int32.ofInt b)), some (.int (Int32.ofInt 3)), some (.int (Int32.ofInt e))]) (st' := [.int (Int32.ofInt 0), .int (Int32.ofInt x), .ref 13]) (σ' := (zN L X (zhi (zup (zup (zup (zup s 9 x.toNat a) 10 x.toNat b) 11 x.toNat 3) 12 x.toNat 0)) R G nc ns)) (fun n => rfl) ?_
    refine zW.jast (n := 144) rfl rfl (by decide) (by omega) ?_
    exact zW.vret rfl hQ0
  · skip
    show zW ro 74 5 [some (.ref 8), some (.int (Int32.ofInt x)), some (.int (Int32.ofInt a)), some (.int (Int32.ofInt b)), some (.int (Int32.ofInt 3)), some (.int (Int32.ofInt e))] [.int (Int32.ofInt 0)] (zN L X (zhi s) R G nc ns) Q
    refine zW.run 1 (pc' := 55) (ls' := [some (.ref 8), some (.int (Int32.ofInt x)), some (.int (Int32.ofInt a)), some (.int (Int32.ofInt b)), some (.int (Int32.ofInt 3)), some (.int (Int32.ofInt e))]) (st' := []) (σ' := (zN L X (zhi s) R G nc ns)) (fun n => rfl) ?_
    exfalso; omega
set_option maxRecDepth 20000 in
set_option maxHeartbeats 20000000 in
theorem t_Ground_raiseFort (S : zSR R) {w : Int} {h : Int} {c : Int} {gt : Nat} (p0 : zPf w h c gt s) (p1 : zFb s s) (p2 : ∀ j : Nat, s 11 j = 0) (hQ0 : ∀ (s1 : zJ), zFb s s1 → s1 11 0 = 0 → s1 11 1 = 0 → s1 11 w.toNat = 0 → s1 11 gt = 3 → Q (.inl none) (zN L X (zhi s1) R G nc ns)) : zW ro 73 0 (zfst [.ref 8] 5) [] (zN L X (zhi s) R G nc ns) Q := by
  show zW ro 73 0 [some (.ref 8), none, none, none, none] [] (zN L X (zhi s) R G nc ns) Q
  obtain ⟨hA, hg0, hg1, hg2⟩ := p0
  refine zW.run 2 (pc' := 2) (ls' := [some (.ref 8), some (.int (Int32.ofInt 0)), none, none, none]) (st' := []) (σ' := (zN L X (zhi s) R G nc ns)) (fun n => rfl) ?_
  have J12 : ∀ m : Nat, ∀ (k_1 : Nat) (w2 : Option Value) (w3 : Option Value) (w4 : Option Value) (s5 : zJ), zFb s s5 → s5 11 0 = 0 → s5 11 1 = 0 → s5 11 w.toNat = 0 → (gt < k_1 → s5 11 gt = 3) → k_1 ≤ 144 → 145 - k_1 < m → zW ro 73 2 [some (.ref 8), some (.int (Int32.ofInt (k_1 : Int))), w2, w3, w4] [] (zN L X (zhi s5) R G nc ns) Q := by
    intro m
    induction m with
    | zero => intros; omega
    | succ m ih13 =>
      intro k_1 w2 w3 w4 s5 c6 c7 c8 c9 c10 c11 hm14
      have e8 := c6.2 8 11 (by omega)
      refine zW.run 2 (pc' := 4) (ls' := [some (.ref 8), some (.int (Int32.ofInt (k_1 : Int))), w2, w3, w4]) (st' := [.ref 8, .int (Int32.ofInt (k_1 : Int))]) (σ' := (zN L X (zhi s5) R G nc ns)) (fun n => rfl) ?_
      refine zW.run 1 (pc' := 7) (ls' := [some (.ref 8), some (.int (Int32.ofInt (k_1 : Int))), w2, w3, w4]) (st' := [.int (Int32.ofInt (s5 8 11)), .int (Int32.ofInt (k_1 : Int))]) (σ' := (zN L X (zhi s5) R G nc ns)) (fun n => rfl) ?_
      refine zW.jcmp_ge rfl (by omega) (fun c15 => ?_) (fun c15 => ?_)
      · skip
        exact zW.vret rfl (hQ0 s5 (c6) (c7) (c8) (c9) (c10 (by omega)))
      · skip
        refine zW.run 2 (pc' := 14) (ls' := [some (.ref 8), some (.int (Int32.ofInt (k_1 : Int))), w2, w3, w4]) (st' := [.int (Int32.ofInt 144), .int (Int32.ofInt (k_1 : Int))]) (σ' := (zN L X (zhi s5) R G nc ns)) (fun n => rfl) ?_
        refine zW.jcmp_ge rfl (by omega) (fun c16 => ?_) (fun c16 => ?_)
        · skip
          exact zW.vret rfl (hQ0 s5 (c6) (c7) (c8) (c9) (c10 (by omega)))
        · skip
          have e14 := c6.2 14 k_1 (by omega)
          have e15 := c6.2 15 k_1 (by omega)
          have eb := hg2 k_1 (by omega)
          have n0 : k_1 = 0 → s 15 k_1 = 0 := fun h9 => by rw [h9]; exact hg1.1
          have n1 : k_1 = 1 → s 15 k_1 = 0 := fun h9 => by rw [h9]; exact hg1.2.1
          have nw : k_1 = w.toNat → s 15 k_1 = 1 := fun h9 => by rw [h9]; exact hg1.2.2.1
          have ng : k_1 = gt → s 14 k_1 = 6 ∧ s 15 k_1 = 6 := fun h9 => by rw [h9]; exact ⟨hg1.2.2.2.1, hg1.2.2.2.2.1⟩
          have eq9 := c6.1 k_1
          refine zW.run 1 (pc' := 18) (ls' := [some (.ref 8), some (.int (Int32.ofInt (k_1 : Int))), w2, w3, w4]) (st' := [.ref 8]) (σ' := (zN L X (zhi s5) R G nc ns)) (fun n => rfl) ?_
          refine zW.getf (v := .ref 14) rfl rfl (zr_8 S (f := 5) (by decide)) ?_
          refine zW.run 1 (pc' := 22) (ls' := [some (.ref 8), some (.int (Int32.ofInt (k_1 : Int))), w2, w3, w4]) (st' := [.int (Int32.ofInt (k_1 : Int)), .ref 14]) (σ' := (zN L X (zhi s5) R G nc ns)) (fun n => rfl) ?_
          refine zW.jald (n := 144) (v := (s5 14 k_1)) rfl rfl (by decide) (by omega) rfl ?_
          refine zW.run 2 (pc' := 25) (ls' := [some (.ref 8), some (.int (Int32.ofInt (k_1 : Int))), some (.int (Int32.ofInt (s5 14 k_1))), w3, w4]) (st' := [.ref 8]) (σ' := (zN L X (zhi s5) R G nc ns)) (fun n => rfl) ?_
          refine zW.getf (v := .ref 15) rfl rfl (zr_8 S (f := 6) (by decide)) ?_
          refine zW.run 1 (pc' := 29) (ls' := [some (.ref 8), some (.int (Int32.ofInt (k_1 : Int))), some (.int (Int32.ofInt (s5 14 k_1))), w3, w4]) (st' := [.int (Int32.ofInt (k_1 : Int)), .ref 15]) (σ' := (zN L X (zhi s5) R G nc ns)) (fun n => rfl) ?_
          refine zW.jald (n := 144) (v := (s5 15 k_1)) rfl rfl (by decide) (by omega) rfl ?_
          refine zW.run 3 (pc' := 33) (ls' := [some (.ref 8), some (.int (Int32.ofInt (k_1 : Int))), some (.int (Int32.ofInt (s5 14 k_1))), some (.int (Int32.ofInt (s5 15 k_1))), w4]) (st' := [.int (Int32.ofInt 4), .int (Int32.ofInt (s5 14 k_1))]) (σ' := (zN L X (zhi s5) R G nc ns)) (fun n => rfl) ?_
          refine zW.jcmp_lt rfl (by omega) (fun c17 => ?_) (fun c17 => ?_)
          · skip
            refine zW.jinc (ls' := [some (.ref 8), some (.int (Int32.ofInt ((k_1 : Int) + 1))), some (.int (Int32.ofInt (s5 14 k_1))), some (.int (Int32.ofInt (s5 15 k_1))), w4]) rfl (Nat.le_of_ble_eq_true rfl) rfl rfl ?_
            refine zW.run 1 (pc' := 2) (ls' := [some (.ref 8), some (.int (Int32.ofInt ((k_1 : Int) + 1))), some (.int (Int32.ofInt (s5 14 k_1))), some (.int (Int32.ofInt (s5 15 k_1))), w4]) (st' := []) (σ' := (zN L X (zhi s5) R G nc ns)) (fun n => rfl) ?_
            exact ih13 (k_1 + 1) (some (.int (Int32.ofInt (s5 14 k_1)))) (some (.int (Int32.ofInt (s5 15 k_1)))) w4 s5 (c6) (c7) (c8) (c9) (fun h9 => c10 (by omega)) (by omega) (by omega)
          · skip
            refine zW.run 2 (pc' := 39) (ls' := [some (.ref 8), some (.int (Int32.ofInt (k_1 : Int))), some (.int (Int32.ofInt (s5 14 k_1))), some (.int (Int32.ofInt (s5 15 k_1))), w4]) (st' := [.int (Int32.ofInt 8), .int (Int32.ofInt (s5 14 k_1))]) (σ' := (zN L X (zhi s5) R G nc ns)) (fun n => rfl) ?_
            refine zW.jcmp_gt rfl (by omega) (fun c18 => ?_) (fun c18 => ?_)
            · skip
              refine zW.jinc (ls' := [some (.ref 8), some (.int (Int32.ofInt ((k_1 : Int) + 1))), some (.int (Int32.ofInt (s5 14 k_1))), some (.int (Int32.ofInt (s5 15 k_1))), w4]) rfl (Nat.le_of_ble_eq_true rfl) rfl rfl ?_
              refine zW.run 1 (pc' := 2) (ls' := [some (.ref 8), some (.int (Int32.ofInt ((k_1 : Int) + 1))), some (.int (Int32.ofInt (s5 14 k_1))), some (.int (Int32.ofInt (s5 15 k_1))), w4]) (st' := []) (σ' := (zN L X (zhi s5) R G nc ns)) (fun n => rfl) ?_
              exact ih13 (k_1 + 1) (some (.int (Int32.ofInt (s5 14 k_1)))) (some (.int (Int32.ofInt (s5 15 k_1)))) w4 s5 (c6) (c7) (c8) (c9) (fun h9 => c10 (by omega)) (by omega) (by omega)
            · skip
              refine zW.run 2 (pc' := 44) (ls' := [some (.ref 8), some (.int (Int32.ofInt (k_1 : Int))), some (.int (Int32.ofInt (s5 14 k_1))), some (.int (Int32.ofInt (s5 15 k_1))), w4]) (st' := [.int (Int32.ofInt 4), .int (Int32.ofInt (s5 15 k_1))]) (σ' := (zN L X (zhi s5) R G nc ns)) (fun n => rfl) ?_
              refine zW.jcmp_lt rfl (by omega) (fun c19 => ?_) (fun c19 => ?_)
              · skip
                refine zW.jinc (ls' := [some (.ref 8), some (.int (Int32.ofInt ((k_1 : Int) + 1))), some (.int (Int32.ofInt (s5 14 k_1))), some (.int (Int32.ofInt (s5 15 k_1))), w4]) rfl (Nat.le_of_ble_eq_true rfl) rfl rfl ?_
                refine zW.run 1 (pc' := 2) (ls' := [some (.ref 8), some (.int (Int32.ofInt ((k_1 : Int) + 1))), some (.int (Int32.ofInt (s5 14 k_1))), some (.int (Int32.ofInt (s5 15 k_1))), w4]) (st' := []) (σ' := (zN L X (zhi s5) R G nc ns)) (fun n => rfl) ?_
                exact ih13 (k_1 + 1) (some (.int (Int32.ofInt (s5 14 k_1)))) (some (.int (Int32.ofInt (s5 15 k_1)))) w4 s5 (c6) (c7) (c8) (c9) (fun h9 => c10 (by omega)) (by omega) (by omega)
              · skip
                refine zW.run 2 (pc' := 50) (ls' := [some (.ref 8), some (.int (Int32.ofInt (k_1 : Int))), some (.int (Int32.ofInt (s5 14 k_1))), some (.int (Int32.ofInt (s5 15 k_1))), w4]) (st' := [.int (Int32.ofInt 8), .int (Int32.ofInt (s5 15 k_1))]) (σ' := (zN L X (zhi s5) R G nc ns)) (fun n => rfl) ?_
                refine zW.jcmp_le rfl (by omega) (fun c20 => ?_) (fun c20 => ?_)
                · skip
                  refine zW.run 2 (pc' := 58) (ls' := [some (.ref 8), some (.int (Int32.ofInt (k_1 : Int))), some (.int (Int32.ofInt (s5 14 k_1))), some (.int (Int32.ofInt (s5 15 k_1))), w4]) (st' := [.int (Int32.ofInt 4), .int (Int32.ofInt (s5 14 k_1))]) (σ' := (zN L X (zhi s5) R G nc ns)) (fun n => rfl) ?_
                  refine zW.jcmp_le rfl (by omega) (fun c21 => ?_) (fun c21 => ?_)
                  · skip
                    refine zW.run 8 (pc' := 98) (ls' := [some (.ref 8), some (.int (Int32.ofInt (k_1 : Int))), some (.int (Int32.ofInt (s5 14 k_1))), some (.int (Int32.ofInt (s5 15 k_1))), some (.int (Int32.ofInt 0))]) (st' := [.ref 8, .int (Int32.ofInt 4), .int (Int32.ofInt (k_1 : Int)), .ref 8]) (σ' := (zN L X (zhi s5) R G nc ns)) (fun n => rfl) ?_
                    refine zW.getf (v := .ref 10) rfl rfl (zr_8 S (f := 1) (by decide)) ?_
                    refine zW.run 1 (pc' := 102) (ls' := [some (.ref 8), some (.int (Int32.ofInt (k_1 : Int))), some (.int (Int32.ofInt (s5 14 k_1))), some (.int (Int32.ofInt (s5 15 k_1))), some (.int (Int32.ofInt 0))]) (st' := [.int (Int32.ofInt (k_1 : Int)), .ref 10, .int (Int32.ofInt 4), .int (Int32.ofInt (k_1 : Int)), .ref 8]) (σ' := (zN L X (zhi s5) R G nc ns)) (fun n => rfl) ?_
                    refine zW.jald (n := 144) (v := (s5 10 k_1)) rfl rfl (by decide) (by omega) rfl ?_
                    refine zW.run 4 (pc' := 115) (ls' := [some (.ref 8), some (.int (Int32.ofInt (k_1 : Int))), some (.int (Int32.ofInt (s5 14 k_1))), some (.int (Int32.ofInt (s5 15 k_1))), some (.int (Int32.ofInt 0))]) (st' := [.int (Int32.ofInt 40), .int (Int32.ofInt 1), .int (Int32.ofInt (s5 10 k_1)), .int (Int32.ofInt 4), .int (Int32.ofInt (k_1 : Int)), .ref 8]) (σ' := (zN L X (zhi s5) R G nc ns)) (fun n => rfl) ?_
                    refine zW.callV rfl (by decide) rfl rfl rfl rfl rfl (Nat.le_of_ble_eq_true rfl) ?_
                    refine t_Ground_shape_b1 S (x := (k_1 : Int)) (a := 4) (b := (s5 10 k_1)) (e := 40) (c := c) (by omega) (by omega) ?_
                    show zW ro 73 118 [some (.ref 8), some (.int (Int32.ofInt (k_1 : Int))), some (.int (Int32.ofInt (s5 14 k_1))), some (.int (Int32.ofInt (s5 15 k_1))), some (.int (Int32.ofInt 0))] [] (zN L X (zhi (zup (zup (zup (zup (zup s5 9 k_1 4) 10 k_1 (s5 10 k_1)) 11 k_1 1) 12 k_1 40) 13 k_1 0)) R G nc ns) Q
                    refine zW.jinc (ls' := [some (.ref 8), some (.int (Int32.ofInt ((k_1 : Int) + 1))), some (.int (Int32.ofInt (s5 14 k_1))), some (.int (Int32.ofInt (s5 15 k_1))), some (.int (Int32.ofInt 0))]) rfl (Nat.le_of_ble_eq_true rfl) rfl rfl ?_
                    refine zW.run 1 (pc' := 2) (ls' := [some (.ref 8), some (.int (Int32.ofInt ((k_1 : Int) + 1))), some (.int (Int32.ofInt (s5 14 k_1))), some (.int (Int32.ofInt (s5 15 k_1))), some (.int (Int32.ofInt 0))]) (st' := []) (σ' := (zN L X (zhi (zup (zup (zup (zup (zup s5 9 k_1 4) 10 k_1 (s5 10 k_1)) 11 k_1 1) 12 k_1 40) 13 k_1 0)) R G nc ns)) (fun n => rfl) ?_
                    exact ih13 (k_1 + 1) (some (.int (Int32.ofInt (s5 14 k_1)))) (some (.int (Int32.ofInt (s5 15 k_1)))) (some (.int (Int32.ofInt 0))) (zup (zup (zup (zup (zup s5 9 k_1 4) 10 k_1 (s5 10 k_1)) 11 k_1 1) 12 k_1 40) 13 k_1 0) (zFb_sh c6 (by omega) (by omega) (by omega) (by omega) (by omega)) (by rw [zsh11, if_neg (by omega)]; exact c7) (by rw [zsh11, if_neg (by omega)]; exact c8) (by rw [zsh11, if_neg (by omega)]; exact c9) (fun h9 => by rw [zsh11]; by_cases e9 : gt = k_1; (exact (if_pos e9).trans (by omega)); (rw [if_neg e9]; exact c10 (by omega))) (by omega) (by omega)
                  · skip
                    refine zW.run 2 (pc' := 64) (ls' := [some (.ref 8), some (.int (Int32.ofInt (k_1 : Int))), some (.int (Int32.ofInt (s5 14 k_1))), some (.int (Int32.ofInt (s5 15 k_1))), w4]) (st' := [.int (Int32.ofInt 8), .int (Int32.ofInt (s5 14 k_1))]) (σ' := (zN L X (zhi s5) R G nc ns)) (fun n => rfl) ?_
                    refine zW.jcmp_ge rfl (by omega) (fun c22 => ?_) (fun c22 => ?_)
                    · skip
                      refine zW.run 8 (pc' := 98) (ls' := [some (.ref 8), some (.int (Int32.ofInt (k_1 : Int))), some (.int (Int32.ofInt (s5 14 k_1))), some (.int (Int32.ofInt (s5 15 k_1))), some (.int (Int32.ofInt 0))]) (st' := [.ref 8, .int (Int32.ofInt 4), .int (Int32.ofInt (k_1 : Int)), .ref 8]) (σ' := (zN L X (zhi s5) R G nc ns)) (fun n => rfl) ?_
                      refine zW.getf (v := .ref 10) rfl rfl (zr_8 S (f := 1) (by decide)) ?_
                      refine zW.run 1 (pc' := 102) (ls' := [some (.ref 8), some (.int (Int32.ofInt (k_1 : Int))), some (.int (Int32.ofInt (s5 14 k_1))), some (.int (Int32.ofInt (s5 15 k_1))), some (.int (Int32.ofInt 0))]) (st' := [.int (Int32.ofInt (k_1 : Int)), .ref 10, .int (Int32.ofInt 4), .int (Int32.ofInt (k_1 : Int)), .ref 8]) (σ' := (zN L X (zhi s5) R G nc ns)) (fun n => rfl) ?_
                      refine zW.jald (n := 144) (v := (s5 10 k_1)) rfl rfl (by decide) (by omega) rfl ?_
                      refine zW.run 4 (pc' := 115) (ls' := [some (.ref 8), some (.int (Int32.ofInt (k_1 : Int))), some (.int (Int32.ofInt (s5 14 k_1))), some (.int (Int32.ofInt (s5 15 k_1))), some (.int (Int32.ofInt 0))]) (st' := [.int (Int32.ofInt 40), .int (Int32.ofInt 1), .int (Int32.ofInt (s5 10 k_1)), .int (Int32.ofInt 4), .int (Int32.ofInt (k_1 : Int)), .ref 8]) (σ' := (zN L X (zhi s5) R G nc ns)) (fun n => rfl) ?_
                      refine zW.callV rfl (by decide) rfl rfl rfl rfl rfl (Nat.le_of_ble_eq_true rfl) ?_
                      refine t_Ground_shape_b1 S (x := (k_1 : Int)) (a := 4) (b := (s5 10 k_1)) (e := 40) (c := c) (by omega) (by omega) ?_
                      show zW ro 73 118 [some (.ref 8), some (.int (Int32.ofInt (k_1 : Int))), some (.int (Int32.ofInt (s5 14 k_1))), some (.int (Int32.ofInt (s5 15 k_1))), some (.int (Int32.ofInt 0))] [] (zN L X (zhi (zup (zup (zup (zup (zup s5 9 k_1 4) 10 k_1 (s5 10 k_1)) 11 k_1 1) 12 k_1 40) 13 k_1 0)) R G nc ns) Q
                      refine zW.jinc (ls' := [some (.ref 8), some (.int (Int32.ofInt ((k_1 : Int) + 1))), some (.int (Int32.ofInt (s5 14 k_1))), some (.int (Int32.ofInt (s5 15 k_1))), some (.int (Int32.ofInt 0))]) rfl (Nat.le_of_ble_eq_true rfl) rfl rfl ?_
                      refine zW.run 1 (pc' := 2) (ls' := [some (.ref 8), some (.int (Int32.ofInt ((k_1 : Int) + 1))), some (.int (Int32.ofInt (s5 14 k_1))), some (.int (Int32.ofInt (s5 15 k_1))), some (.int (Int32.ofInt 0))]) (st' := []) (σ' := (zN L X (zhi (zup (zup (zup (zup (zup s5 9 k_1 4) 10 k_1 (s5 10 k_1)) 11 k_1 1) 12 k_1 40) 13 k_1 0)) R G nc ns)) (fun n => rfl) ?_
                      exact ih13 (k_1 + 1) (some (.int (Int32.ofInt (s5 14 k_1)))) (some (.int (Int32.ofInt (s5 15 k_1)))) (some (.int (Int32.ofInt 0))) (zup (zup (zup (zup (zup s5 9 k_1 4) 10 k_1 (s5 10 k_1)) 11 k_1 1) 12 k_1 40) 13 k_1 0) (zFb_sh c6 (by omega) (by omega) (by omega) (by omega) (by omega)) (by rw [zsh11, if_neg (by omega)]; exact c7) (by rw [zsh11, if_neg (by omega)]; exact c8) (by rw [zsh11, if_neg (by omega)]; exact c9) (fun h9 => by rw [zsh11]; by_cases e9 : gt = k_1; (exact (if_pos e9).trans (by omega)); (rw [if_neg e9]; exact c10 (by omega))) (by omega) (by omega)
                    · skip
                      refine zW.run 2 (pc' := 69) (ls' := [some (.ref 8), some (.int (Int32.ofInt (k_1 : Int))), some (.int (Int32.ofInt (s5 14 k_1))), some (.int (Int32.ofInt (s5 15 k_1))), w4]) (st' := [.int (Int32.ofInt 4), .int (Int32.ofInt (s5 15 k_1))]) (σ' := (zN L X (zhi s5) R G nc ns)) (fun n => rfl) ?_
                      refine zW.jcmp_le rfl (by omega) (fun c23 => ?_) (fun c23 => ?_)
                      · skip
                        refine zW.run 8 (pc' := 98) (ls' := [some (.ref 8), some (.int (Int32.ofInt (k_1 : Int))), some (.int (Int32.ofInt (s5 14 k_1))), some (.int (Int32.ofInt (s5 15 k_1))), some (.int (Int32.ofInt 0))]) (st' := [.ref 8, .int (Int32.ofInt 4), .int (Int32.ofInt (k_1 : Int)), .ref 8]) (σ' := (zN L X (zhi s5) R G nc ns)) (fun n => rfl) ?_
                        refine zW.getf (v := .ref 10) rfl rfl (zr_8 S (f := 1) (by decide)) ?_
                        refine zW.run 1 (pc' := 102) (ls' := [some (.ref 8), some (.int (Int32.ofInt (k_1 : Int))), some (.int (Int32.ofInt (s5 14 k_1))), some (.int (Int32.ofInt (s5 15 k_1))), some (.int (Int32.ofInt 0))]) (st' := [.int (Int32.ofInt (k_1 : Int)), .ref 10, .int (Int32.ofInt 4), .int (Int32.ofInt (k_1 : Int)), .ref 8]) (σ' := (zN L X (zhi s5) R G nc ns)) (fun n => rfl) ?_
                        refine zW.jald (n := 144) (v := (s5 10 k_1)) rfl rfl (by decide) (by omega) rfl ?_
                        refine zW.run 4 (pc' := 115) (ls' := [some (.ref 8), some (.int (Int32.ofInt (k_1 : Int))), some (.int (Int32.ofInt (s5 14 k_1))), some (.int (Int32.ofInt (s5 15 k_1))), some (.int (Int32.ofInt 0))]) (st' := [.int (Int32.ofInt 40), .int (Int32.ofInt 1), .int (Int32.ofInt (s5 10 k_1)), .int (Int32.ofInt 4), .int (Int32.ofInt (k_1 : Int)), .ref 8]) (σ' := (zN L X (zhi s5) R G nc ns)) (fun n => rfl) ?_
                        refine zW.callV rfl (by decide) rfl rfl rfl rfl rfl (Nat.le_of_ble_eq_true rfl) ?_
                        refine t_Ground_shape_b1 S (x := (k_1 : Int)) (a := 4) (b := (s5 10 k_1)) (e := 40) (c := c) (by omega) (by omega) ?_
                        show zW ro 73 118 [some (.ref 8), some (.int (Int32.ofInt (k_1 : Int))), some (.int (Int32.ofInt (s5 14 k_1))), some (.int (Int32.ofInt (s5 15 k_1))), some (.int (Int32.ofInt 0))] [] (zN L X (zhi (zup (zup (zup (zup (zup s5 9 k_1 4) 10 k_1 (s5 10 k_1)) 11 k_1 1) 12 k_1 40) 13 k_1 0)) R G nc ns) Q
                        refine zW.jinc (ls' := [some (.ref 8), some (.int (Int32.ofInt ((k_1 : Int) + 1))), some (.int (Int32.ofInt (s5 14 k_1))), some (.int (Int32.ofInt (s5 15 k_1))), some (.int (Int32.ofInt 0))]) rfl (Nat.le_of_ble_eq_true rfl) rfl rfl ?_
                        refine zW.run 1 (pc' := 2) (ls' := [some (.ref 8), some (.int (Int32.ofInt ((k_1 : Int) + 1))), some (.int (Int32.ofInt (s5 14 k_1))), some (.int (Int32.ofInt (s5 15 k_1))), some (.int (Int32.ofInt 0))]) (st' := []) (σ' := (zN L X (zhi (zup (zup (zup (zup (zup s5 9 k_1 4) 10 k_1 (s5 10 k_1)) 11 k_1 1) 12 k_1 40) 13 k_1 0)) R G nc ns)) (fun n => rfl) ?_
                        exact ih13 (k_1 + 1) (some (.int (Int32.ofInt (s5 14 k_1)))) (some (.int (Int32.ofInt (s5 15 k_1)))) (some (.int (Int32.ofInt 0))) (zup (zup (zup (zup (zup s5 9 k_1 4) 10 k_1 (s5 10 k_1)) 11 k_1 1) 12 k_1 40) 13 k_1 0) (zFb_sh c6 (by omega) (by omega) (by omega) (by omega) (by omega)) (by rw [zsh11, if_neg (by omega)]; exact c7) (by rw [zsh11, if_neg (by omega)]; exact c8) (by rw [zsh11, if_neg (by omega)]; exact c9) (fun h9 => by rw [zsh11]; by_cases e9 : gt = k_1; (exact (if_pos e9).trans (by omega)); (rw [if_neg e9]; exact c10 (by omega))) (by omega) (by omega)
                      · skip
                        refine zW.run 2 (pc' := 75) (ls' := [some (.ref 8), some (.int (Int32.ofInt (k_1 : Int))), some (.int (Int32.ofInt (s5 14 k_1))), some (.int (Int32.ofInt (s5 15 k_1))), w4]) (st' := [.int (Int32.ofInt 8), .int (Int32.ofInt (s5 15 k_1))]) (σ' := (zN L X (zhi s5) R G nc ns)) (fun n => rfl) ?_
                        refine zW.jcmp_ge rfl (by omega) (fun c24 => ?_) (fun c24 => ?_)
                        · skip
                          refine zW.run 8 (pc' := 98) (ls' := [some (.ref 8), some (.int (Int32.ofInt (k_1 : Int))), some (.int (Int32.ofInt (s5 14 k_1))), some (.int (Int32.ofInt (s5 15 k_1))), some (.int (Int32.ofInt 0))]) (st' := [.ref 8, .int (Int32.ofInt 4), .int (Int32.ofInt (k_1 : Int)), .ref 8]) (σ' := (zN L X (zhi s5) R G nc ns)) (fun n => rfl) ?_
                          refine zW.getf (v := .ref 10) rfl rfl (zr_8 S (f := 1) (by decide)) ?_
                          refine zW.run 1 (pc' := 102) (ls' := [some (.ref 8), some (.int (Int32.ofInt (k_1 : Int))), some (.int (Int32.ofInt (s5 14 k_1))), some (.int (Int32.ofInt (s5 15 k_1))), some (.int (Int32.ofInt 0))]) (st' := [.int (Int32.ofInt (k_1 : Int)), .ref 10, .int (Int32.ofInt 4), .int (Int32.ofInt (k_1 : Int)), .ref 8]) (σ' := (zN L X (zhi s5) R G nc ns)) (fun n => rfl) ?_
                          refine zW.jald (n := 144) (v := (s5 10 k_1)) rfl rfl (by decide) (by omega) rfl ?_
                          refine zW.run 4 (pc' := 115) (ls' := [some (.ref 8), some (.int (Int32.ofInt (k_1 : Int))), some (.int (Int32.ofInt (s5 14 k_1))), some (.int (Int32.ofInt (s5 15 k_1))), some (.int (Int32.ofInt 0))]) (st' := [.int (Int32.ofInt 40), .int (Int32.ofInt 1), .int (Int32.ofInt (s5 10 k_1)), .int (Int32.ofInt 4), .int (Int32.ofInt (k_1 : Int)), .ref 8]) (σ' := (zN L X (zhi s5) R G nc ns)) (fun n => rfl) ?_
                          refine zW.callV rfl (by decide) rfl rfl rfl rfl rfl (Nat.le_of_ble_eq_true rfl) ?_
                          refine t_Ground_shape_b1 S (x := (k_1 : Int)) (a := 4) (b := (s5 10 k_1)) (e := 40) (c := c) (by omega) (by omega) ?_
                          show zW ro 73 118 [some (.ref 8), some (.int (Int32.ofInt (k_1 : Int))), some (.int (Int32.ofInt (s5 14 k_1))), some (.int (Int32.ofInt (s5 15 k_1))), some (.int (Int32.ofInt 0))] [] (zN L X (zhi (zup (zup (zup (zup (zup s5 9 k_1 4) 10 k_1 (s5 10 k_1)) 11 k_1 1) 12 k_1 40) 13 k_1 0)) R G nc ns) Q
                          refine zW.jinc (ls' := [some (.ref 8), some (.int (Int32.ofInt ((k_1 : Int) + 1))), some (.int (Int32.ofInt (s5 14 k_1))), some (.int (Int32.ofInt (s5 15 k_1))), some (.int (Int32.ofInt 0))]) rfl (Nat.le_of_ble_eq_true rfl) rfl rfl ?_
                          refine zW.run 1 (pc' := 2) (ls' := [some (.ref 8), some (.int (Int32.ofInt ((k_1 : Int) + 1))), some (.int (Int32.ofInt (s5 14 k_1))), some (.int (Int32.ofInt (s5 15 k_1))), some (.int (Int32.ofInt 0))]) (st' := []) (σ' := (zN L X (zhi (zup (zup (zup (zup (zup s5 9 k_1 4) 10 k_1 (s5 10 k_1)) 11 k_1 1) 12 k_1 40) 13 k_1 0)) R G nc ns)) (fun n => rfl) ?_
                          exact ih13 (k_1 + 1) (some (.int (Int32.ofInt (s5 14 k_1)))) (some (.int (Int32.ofInt (s5 15 k_1)))) (some (.int (Int32.ofInt 0))) (zup (zup (zup (zup (zup s5 9 k_1 4) 10 k_1 (s5 10 k_1)) 11 k_1 1) 12 k_1 40) 13 k_1 0) (zFb_sh c6 (by omega) (by omega) (by omega) (by omega) (by omega)) (by rw [zsh11, if_neg (by omega)]; exact c7) (by rw [zsh11, if_neg (by omega)]; exact c8) (by rw [zsh11, if_neg (by omega)]; exact c9) (fun h9 => by rw [zsh11]; by_cases e9 : gt = k_1; (exact (if_pos e9).trans (by omega)); (rw [if_neg e9]; exact c10 (by omega))) (by omega) (by omega)
                        · skip
                          refine zW.run 10 (pc' := 98) (ls' := [some (.ref 8), some (.int (Int32.ofInt (k_1 : Int))), some (.int (Int32.ofInt (s5 14 k_1))), some (.int (Int32.ofInt (s5 15 k_1))), some (.int (Int32.ofInt 1))]) (st' := [.ref 8, .int (Int32.ofInt 3), .int (Int32.ofInt (k_1 : Int)), .ref 8]) (σ' := (zN L X (zhi s5) R G nc ns)) (fun n => rfl) ?_
                          refine zW.getf (v := .ref 10) rfl rfl (zr_8 S (f := 1) (by decide)) ?_
                          refine zW.run 1 (pc' := 102) (ls' := [some (.ref 8), some (.int (Int32.ofInt (k_1 : Int))), some (.int (Int32.ofInt (s5 14 k_1))), some (.int (Int32.ofInt (s5 15 k_1))), some (.int (Int32.ofInt 1))]) (st' := [.int (Int32.ofInt (k_1 : Int)), .ref 10, .int (Int32.ofInt 3), .int (Int32.ofInt (k_1 : Int)), .ref 8]) (σ' := (zN L X (zhi s5) R G nc ns)) (fun n => rfl) ?_
                          refine zW.jald (n := 144) (v := (s5 10 k_1)) rfl rfl (by decide) (by omega) rfl ?_
                          refine zW.run 5 (pc' := 115) (ls' := [some (.ref 8), some (.int (Int32.ofInt (k_1 : Int))), some (.int (Int32.ofInt (s5 14 k_1))), some (.int (Int32.ofInt (s5 15 k_1))), some (.int (Int32.ofInt 1))]) (st' := [.int (Int32.ofInt 40), .int (Int32.ofInt 3), .int (Int32.ofInt (s5 10 k_1)), .int (Int32.ofInt 3), .int (Int32.ofInt (k_1 : Int)), .ref 8]) (σ' := (zN L X (zhi s5) R G nc ns)) (fun n => rfl) ?_
                          refine zW.callV rfl (by decide) rfl rfl rfl rfl rfl (Nat.le_of_ble_eq_true rfl) ?_
                          refine t_Ground_shape_b3 S (x := (k_1 : Int)) (a := 3) (b := (s5 10 k_1)) (e := 40) (c := c) (by omega) (by omega) ?_
                          show zW ro 73 118 [some (.ref 8), some (.int (Int32.ofInt (k_1 : Int))), some (.int (Int32.ofInt (s5 14 k_1))), some (.int (Int32.ofInt (s5 15 k_1))), some (.int (Int32.ofInt 1))] [] (zN L X (zhi (zup (zup (zup (zup (zup s5 9 k_1 3) 10 k_1 (s5 10 k_1)) 11 k_1 3) 12 k_1 0) 13 k_1 0)) R G nc ns) Q
                          refine zW.jinc (ls' := [some (.ref 8), some (.int (Int32.ofInt ((k_1 : Int) + 1))), some (.int (Int32.ofInt (s5 14 k_1))), some (.int (Int32.ofInt (s5 15 k_1))), some (.int (Int32.ofInt 1))]) rfl (Nat.le_of_ble_eq_true rfl) rfl rfl ?_
                          refine zW.run 1 (pc' := 2) (ls' := [some (.ref 8), some (.int (Int32.ofInt ((k_1 : Int) + 1))), some (.int (Int32.ofInt (s5 14 k_1))), some (.int (Int32.ofInt (s5 15 k_1))), some (.int (Int32.ofInt 1))]) (st' := []) (σ' := (zN L X (zhi (zup (zup (zup (zup (zup s5 9 k_1 3) 10 k_1 (s5 10 k_1)) 11 k_1 3) 12 k_1 0) 13 k_1 0)) R G nc ns)) (fun n => rfl) ?_
                          exact ih13 (k_1 + 1) (some (.int (Int32.ofInt (s5 14 k_1)))) (some (.int (Int32.ofInt (s5 15 k_1)))) (some (.int (Int32.ofInt 1))) (zup (zup (zup (zup (zup s5 9 k_1 3) 10 k_1 (s5 10 k_1)) 11 k_1 3) 12 k_1 0) 13 k_1 0) (zFb_sh c6 (by omega) (by omega) (by omega) (by omega) (by omega)) (by rw [zsh11, if_neg (by omega)]; exact c7) (by rw [zsh11, if_neg (by omega)]; exact c8) (by rw [zsh11, if_neg (by omega)]; exact c9) (fun h9 => by rw [zsh11]; by_cases e9 : gt = k_1; (exact (if_pos e9).trans (by omega)); (rw [if_neg e9]; exact c10 (by omega))) (by omega) (by omega)
                · skip
                  refine zW.run 1 (pc' := 118) (ls' := [some (.ref 8), some (.int (Int32.ofInt (k_1 : Int))), some (.int (Int32.ofInt (s5 14 k_1))), some (.int (Int32.ofInt (s5 15 k_1))), w4]) (st' := []) (σ' := (zN L X (zhi s5) R G nc ns)) (fun n => rfl) ?_
                  refine zW.jinc (ls' := [some (.ref 8), some (.int (Int32.ofInt ((k_1 : Int) + 1))), some (.int (Int32.ofInt (s5 14 k_1))), some (.int (Int32.ofInt (s5 15 k_1))), w4]) rfl (Nat.le_of_ble_eq_true rfl) rfl rfl ?_
                  refine zW.run 1 (pc' := 2) (ls' := [some (.ref 8), some (.int (Int32.ofInt ((k_1 : Int) + 1))), some (.int (Int32.ofInt (s5 14 k_1))), some (.int (Int32.ofInt (s5 15 k_1))), w4]) (st' := []) (σ' := (zN L X (zhi s5) R G nc ns)) (fun n => rfl) ?_
                  exact ih13 (k_1 + 1) (some (.int (Int32.ofInt (s5 14 k_1)))) (some (.int (Int32.ofInt (s5 15 k_1)))) w4 s5 (c6) (c7) (c8) (c9) (fun h9 => c10 (by omega)) (by omega) (by omega)
  exact J12 _ 0 none none none s (p1) (p2 0) (p2 1) (p2 w.toNat) (fun h9 => absurd h9 (Nat.not_lt_zero gt)) (by omega) (Nat.lt_succ_self _)
set_option maxRecDepth 20000 in
set_option maxHeartbeats 20000000 in
theorem t_Ground_next_z (S : zSR R) (A : zA g s) {x : Int} {d : Int} (p0 : -2147483648 ≤ x ∧ x < 2147483648) (p1 : -2147483648 ≤ d ∧ d < 2147483648) (hQ0 : ∀ (v : Int), v = -1 ∨ (0 ≤ x ∧ x < g 2 ∧ 0 ≤ v ∧ v < g 2) → (x = 0 → v = -1 ∨ v = 1 ∨ v = g 0) → Q (.inl (some (.int (Int32.ofInt v)))) (zN L X (zhi s) R G nc ns)) : zW ro 71 0 (zfst [.ref 8, .int (Int32.ofInt x), .int (Int32.ofInt d)] 3) [] (zN L X (zhi s) R G nc ns) Q := by
  show zW ro 71 0 [some (.ref 8), some (.int (Int32.ofInt x)), some (.int (Int32.ofInt d))] [] (zN L X (zhi s) R G nc ns) Q
  have f1 := zA_geo A
  refine zW.run 1 (pc' := 1) (ls' := [some (.ref 8), some (.int (Int32.ofInt x)), some (.int (Int32.ofInt d))]) (st' := [.int (Int32.ofInt x)]) (σ' := (zN L X (zhi s) R G nc ns)) (fun n => rfl) ?_
  refine zW.jif_lt rfl (by omega) (fun c2 => ?_) (fun c2 => ?_)
  · skip
    refine zW.run 1 (pc' := 20) (ls' := [some (.ref 8), some (.int (Int32.ofInt x)), some (.int (Int32.ofInt d))]) (st' := [.int (Int32.ofInt (-1))]) (σ' := (zN L X (zhi s) R G nc ns)) (fun n => rfl) ?_
    exact zW.jret rfl rfl (hQ0 (-1) (by omega) (by omega))
  · skip
    refine zW.run 2 (pc' := 6) (ls' := [some (.ref 8), some (.int (Int32.ofInt x)), some (.int (Int32.ofInt d))]) (st' := [.ref 8, .int (Int32.ofInt x)]) (σ' := (zN L X (zhi s) R G nc ns)) (fun n => rfl) ?_
    refine zW.run 1 (pc' := 9) (ls' := [some (.ref 8), some (.int (Int32.ofInt x)), some (.int (Int32.ofInt d))]) (st' := [.int (Int32.ofInt (s 8 11)), .int (Int32.ofInt x)]) (σ' := (zN L X (zhi s) R G nc ns)) (fun n => rfl) ?_
    refine zW.jcmp_ge rfl (by omega) (fun c3 => ?_) (fun c3 => ?_)
    · skip
      refine zW.run 1 (pc' := 20) (ls' := [some (.ref 8), some (.int (Int32.ofInt x)), some (.int (Int32.ofInt d))]) (st' := [.int (Int32.ofInt (-1))]) (σ' := (zN L X (zhi s) R G nc ns)) (fun n => rfl) ?_
      exact zW.jret rfl rfl (hQ0 (-1) (by omega) (by omega))
    · skip
      refine zW.run 2 (pc' := 16) (ls' := [some (.ref 8), some (.int (Int32.ofInt x)), some (.int (Int32.ofInt d))]) (st' := [.int (Int32.ofInt 144), .int (Int32.ofInt x)]) (σ' := (zN L X (zhi s) R G nc ns)) (fun n => rfl) ?_
      refine zW.jcmp_lt rfl (by omega) (fun c4 => ?_) (fun c4 => ?_)
      · skip
        have nx := zA_nx A (k := x.toNat) (by omega)
        refine zW.run 1 (pc' := 22) (ls' := [some (.ref 8), some (.int (Int32.ofInt x)), some (.int (Int32.ofInt d))]) (st' := [.int (Int32.ofInt d)]) (σ' := (zN L X (zhi s) R G nc ns)) (fun n => rfl) ?_
        refine zW.jtab rfl (by omega) (fun d5 => ?_) (fun j9 t9 d5 f9 => ?_) (by decide)
        · skip
          refine zW.run 1 (pc' := 118) (ls' := [some (.ref 8), some (.int (Int32.ofInt x)), some (.int (Int32.ofInt d))]) (st' := [.ref 8]) (σ' := (zN L X (zhi s) R G nc ns)) (fun n => rfl) ?_
          refine zW.getf (v := .ref 14) rfl rfl (zr_8 S (f := 5) (by decide)) ?_
          refine zW.run 1 (pc' := 122) (ls' := [some (.ref 8), some (.int (Int32.ofInt x)), some (.int (Int32.ofInt d))]) (st' := [.int (Int32.ofInt x), .ref 14]) (σ' := (zN L X (zhi s) R G nc ns)) (fun n => rfl) ?_
          refine zW.jald (n := 144) (v := (s 14 x.toNat)) rfl rfl (by decide) (by omega) rfl ?_
          have f6 := zA_cl A (k := x.toNat) (by omega)
          refine zW.jif_le rfl (by omega) (fun c7 => ?_) (fun c7 => ?_)
          · skip
            refine zW.run 1 (pc' := 133) (ls' := [some (.ref 8), some (.int (Int32.ofInt x)), some (.int (Int32.ofInt d))]) (st' := [.int (Int32.ofInt (-1))]) (σ' := (zN L X (zhi s) R G nc ns)) (fun n => rfl) ?_
            exact zW.jret rfl rfl (hQ0 (-1) (by omega) (by omega))
          · skip
            refine zW.run 2 (pc' := 128) (ls' := [some (.ref 8), some (.int (Int32.ofInt x)), some (.int (Int32.ofInt d))]) (st' := [.int (Int32.ofInt 1), .int (Int32.ofInt x)]) (σ' := (zN L X (zhi s) R G nc ns)) (fun n => rfl) ?_
            refine zW.jsub rfl ?_
            refine zW.run 1 (pc' := 133) (ls' := [some (.ref 8), some (.int (Int32.ofInt x)), some (.int (Int32.ofInt d))]) (st' := [.int (Int32.ofInt (x - 1))]) (σ' := (zN L X (zhi s) R G nc ns)) (fun n => rfl) ?_
            exact zW.jret rfl rfl (hQ0 (x - 1) (by omega) (by omega))
        match j9, d5, f9 with
        | 0, d5, f9 =>
          cases f9
          refine zW.run 1 (pc' := 49) (ls' := [some (.ref 8), some (.int (Int32.ofInt x)), some (.int (Int32.ofInt d))]) (st' := [.ref 8]) (σ' := (zN L X (zhi s) R G nc ns)) (fun n => rfl) ?_
          refine zW.getf (v := .ref 15) rfl rfl (zr_8 S (f := 6) (by decide)) ?_
          refine zW.run 1 (pc' := 53) (ls' := [some (.ref 8), some (.int (Int32.ofInt x)), some (.int (Int32.ofInt d))]) (st' := [.int (Int32.ofInt x), .ref 15]) (σ' := (zN L X (zhi s) R G nc ns)) (fun n => rfl) ?_
          refine zW.jald (n := 144) (v := (s 15 x.toNat)) rfl rfl (by decide) (by omega) rfl ?_
          have f8 := zA_cl A (k := x.toNat) (by omega)
          refine zW.jif_le rfl (by omega) (fun c9 => ?_) (fun c9 => ?_)
          · skip
            refine zW.run 1 (pc' := 67) (ls' := [some (.ref 8), some (.int (Int32.ofInt x)), some (.int (Int32.ofInt d))]) (st' := [.int (Int32.ofInt (-1))]) (σ' := (zN L X (zhi s) R G nc ns)) (fun n => rfl) ?_
            exact zW.jret rfl rfl (hQ0 (-1) (by omega) (by omega))
          · skip
            refine zW.run 2 (pc' := 59) (ls' := [some (.ref 8), some (.int (Int32.ofInt x)), some (.int (Int32.ofInt d))]) (st' := [.ref 8, .int (Int32.ofInt x)]) (σ' := (zN L X (zhi s) R G nc ns)) (fun n => rfl) ?_
            refine zW.run 1 (pc' := 62) (ls' := [some (.ref 8), some (.int (Int32.ofInt x)), some (.int (Int32.ofInt d))]) (st' := [.int (Int32.ofInt (s 8 9)), .int (Int32.ofInt x)]) (σ' := (zN L X (zhi s) R G nc ns)) (fun n => rfl) ?_
            refine zW.jsub rfl ?_
            refine zW.run 1 (pc' := 67) (ls' := [some (.ref 8), some (.int (Int32.ofInt x)), some (.int (Int32.ofInt d))]) (st' := [.int (Int32.ofInt (x - (s 8 9)))]) (σ' := (zN L X (zhi s) R G nc ns)) (fun n => rfl) ?_
            exact zW.jret rfl rfl (hQ0 (x - (s 8 9)) (by omega) (by omega))
        | 1, d5, f9 =>
          cases f9
          refine zW.run 1 (pc' := 69) (ls' := [some (.ref 8), some (.int (Int32.ofInt x)), some (.int (Int32.ofInt d))]) (st' := [.ref 8]) (σ' := (zN L X (zhi s) R G nc ns)) (fun n => rfl) ?_
          refine zW.getf (v := .ref 14) rfl rfl (zr_8 S (f := 5) (by decide)) ?_
          refine zW.run 1 (pc' := 73) (ls' := [some (.ref 8), some (.int (Int32.ofInt x)), some (.int (Int32.ofInt d))]) (st' := [.int (Int32.ofInt x), .ref 14]) (σ' := (zN L X (zhi s) R G nc ns)) (fun n => rfl) ?_
          refine zW.jald (n := 144) (v := (s 14 x.toNat)) rfl rfl (by decide) (by omega) rfl ?_
          have f10 := zA_cl A (k := x.toNat) (by omega)
          refine zW.run 1 (pc' := 75) (ls' := [some (.ref 8), some (.int (Int32.ofInt x)), some (.int (Int32.ofInt d))]) (st' := [.ref 8, .int (Int32.ofInt (s 14 x.toNat))]) (σ' := (zN L X (zhi s) R G nc ns)) (fun n => rfl) ?_
          refine zW.run 2 (pc' := 79) (ls' := [some (.ref 8), some (.int (Int32.ofInt x)), some (.int (Int32.ofInt d))]) (st' := [.int (Int32.ofInt 1), .int (Int32.ofInt (s 8 9)), .int (Int32.ofInt (s 14 x.toNat))]) (σ' := (zN L X (zhi s) R G nc ns)) (fun n => rfl) ?_
          refine zW.jsub rfl ?_
          refine zW.jcmp_ge rfl (by omega) (fun c11 => ?_) (fun c11 => ?_)
          · skip
            refine zW.run 1 (pc' := 90) (ls' := [some (.ref 8), some (.int (Int32.ofInt x)), some (.int (Int32.ofInt d))]) (st' := [.int (Int32.ofInt (-1))]) (σ' := (zN L X (zhi s) R G nc ns)) (fun n => rfl) ?_
            exact zW.jret rfl rfl (hQ0 (-1) (by omega) (by omega))
          · skip
            refine zW.run 2 (pc' := 85) (ls' := [some (.ref 8), some (.int (Int32.ofInt x)), some (.int (Int32.ofInt d))]) (st' := [.int (Int32.ofInt 1), .int (Int32.ofInt x)]) (σ' := (zN L X (zhi s) R G nc ns)) (fun n => rfl) ?_
            refine zW.jadd rfl ?_
            refine zW.run 1 (pc' := 90) (ls' := [some (.ref 8), some (.int (Int32.ofInt x)), some (.int (Int32.ofInt d))]) (st' := [.int (Int32.ofInt (x + 1))]) (σ' := (zN L X (zhi s) R G nc ns)) (fun n => rfl) ?_
            exact zW.jret rfl rfl (hQ0 (x + 1) (by omega) (by omega))
        | 2, d5, f9 =>
          cases f9
          refine zW.run 1 (pc' := 92) (ls' := [some (.ref 8), some (.int (Int32.ofInt x)), some (.int (Int32.ofInt d))]) (st' := [.ref 8]) (σ' := (zN L X (zhi s) R G nc ns)) (fun n => rfl) ?_
          refine zW.getf (v := .ref 15) rfl rfl (zr_8 S (f := 6) (by decide)) ?_
          refine zW.run 1 (pc' := 96) (ls' := [some (.ref 8), some (.int (Int32.ofInt x)), some (.int (Int32.ofInt d))]) (st' := [.int (Int32.ofInt x), .ref 15]) (σ' := (zN L X (zhi s) R G nc ns)) (fun n => rfl) ?_
          refine zW.jald (n := 144) (v := (s 15 x.toNat)) rfl rfl (by decide) (by omega) rfl ?_
          have f12 := zA_cl A (k := x.toNat) (by omega)
          refine zW.run 1 (pc' := 98) (ls' := [some (.ref 8), some (.int (Int32.ofInt x)), some (.int (Int32.ofInt d))]) (st' := [.ref 8, .int (Int32.ofInt (s 15 x.toNat))]) (σ' := (zN L X (zhi s) R G nc ns)) (fun n => rfl) ?_
          refine zW.run 2 (pc' := 102) (ls' := [some (.ref 8), some (.int (Int32.ofInt x)), some (.int (Int32.ofInt d))]) (st' := [.int (Int32.ofInt 1), .int (Int32.ofInt (s 8 10)), .int (Int32.ofInt (s 15 x.toNat))]) (σ' := (zN L X (zhi s) R G nc ns)) (fun n => rfl) ?_
          refine zW.jsub rfl ?_
          refine zW.jcmp_ge rfl (by omega) (fun c13 => ?_) (fun c13 => ?_)
          · skip
            refine zW.run 1 (pc' := 116) (ls' := [some (.ref 8), some (.int (Int32.ofInt x)), some (.int (Int32.ofInt d))]) (st' := [.int (Int32.ofInt (-1))]) (σ' := (zN L X (zhi s) R G nc ns)) (fun n => rfl) ?_
            exact zW.jret rfl rfl (hQ0 (-1) (by omega) (by omega))
          · skip
            refine zW.run 2 (pc' := 108) (ls' := [some (.ref 8), some (.int (Int32.ofInt x)), some (.int (Int32.ofInt d))]) (st' := [.ref 8, .int (Int32.ofInt x)]) (σ' := (zN L X (zhi s) R G nc ns)) (fun n => rfl) ?_
            refine zW.run 1 (pc' := 111) (ls' := [some (.ref 8), some (.int (Int32.ofInt x)), some (.int (Int32.ofInt d))]) (st' := [.int (Int32.ofInt (s 8 9)), .int (Int32.ofInt x)]) (σ' := (zN L X (zhi s) R G nc ns)) (fun n => rfl) ?_
            refine zW.jadd rfl ?_
            refine zW.run 1 (pc' := 116) (ls' := [some (.ref 8), some (.int (Int32.ofInt x)), some (.int (Int32.ofInt d))]) (st' := [.int (Int32.ofInt (x + (s 8 9)))]) (σ' := (zN L X (zhi s) R G nc ns)) (fun n => rfl) ?_
            exact zW.jret rfl rfl (hQ0 (x + (s 8 9)) (by omega) (by omega))
        | n9 + 3, e9, f9 => cases f9
      · skip
        refine zW.run 1 (pc' := 20) (ls' := [some (.ref 8), some (.int (Int32.ofInt x)), some (.int (Int32.ofInt d))]) (st' := [.int (Int32.ofInt (-1))]) (σ' := (zN L X (zhi s) R G nc ns)) (fun n => rfl) ?_
        exact zW.jret rfl rfl (hQ0 (-1) (by omega) (by omega))
set_option maxRecDepth 20000 in
set_option maxHeartbeats 20000000 in
theorem t_Ground_workOf_a (S : zSR R) (A : zA g s) {x : Int} (p0 : -2147483648 ≤ x ∧ x < 2147483648) (p1 : ∀ k : Nat, k < 144 → 0 ≤ s 11 k ∧ s 11 k ≤ 7) (hQ0 : ∀ (v : Int), -1 ≤ v ∧ v ≤ 7 → (0 ≤ x ∧ x < g 2) ∧ v = s 11 x.toNat ∨ (x < 0 ∨ g 2 ≤ x) ∧ v = -1 → Q (.inl (some (.int (Int32.ofInt v)))) (zN L X (zhi s) R G nc ns)) : zW ro 81 0 (zfst [.ref 8, .int (Int32.ofInt x)] 2) [] (zN L X (zhi s) R G nc ns) Q := by
  show zW ro 81 0 [some (.ref 8), some (.int (Int32.ofInt x))] [] (zN L X (zhi s) R G nc ns) Q
  have f1 := zA_geo A
  refine zW.run 2 (pc' := 2) (ls' := [some (.ref 8), some (.int (Int32.ofInt x))]) (st' := [.int (Int32.ofInt x), .ref 8]) (σ' := (zN L X (zhi s) R G nc ns)) (fun n => rfl) ?_
  refine zW.callV rfl (by decide) rfl rfl rfl rfl rfl (Nat.le_of_ble_eq_true rfl) ?_
  refine t_Ground_isOn S A (x := x) (by omega) (fun f2 f3 => ?_) (fun f4 => ?_)
  · skip
    show zW ro 81 5 [some (.ref 8), some (.int (Int32.ofInt x))] [.int (Int32.ofInt 1)] (zN L X (zhi s) R G nc ns) Q
    refine zW.run 1 (pc' := 8) (ls' := [some (.ref 8), some (.int (Int32.ofInt x))]) (st' := []) (σ' := (zN L X (zhi s) R G nc ns)) (fun n => rfl) ?_
    have r9 := p1 x.toNat (by omega)
    refine zW.run 1 (pc' := 9) (ls' := [some (.ref 8), some (.int (Int32.ofInt x))]) (st' := [.ref 8]) (σ' := (zN L X (zhi s) R G nc ns)) (fun n => rfl) ?_
    refine zW.getf (v := .ref 11) rfl rfl (zr_8 S (f := 2) (by decide)) ?_
    refine zW.run 1 (pc' := 13) (ls' := [some (.ref 8), some (.int (Int32.ofInt x))]) (st' := [.int (Int32.ofInt x), .ref 11]) (σ' := (zN L X (zhi s) R G nc ns)) (fun n => rfl) ?_
    refine zW.jald (n := 144) (v := (s 11 x.toNat)) rfl rfl (by decide) (by omega) rfl ?_
    refine zW.run 1 (pc' := 18) (ls' := [some (.ref 8), some (.int (Int32.ofInt x))]) (st' := [.int (Int32.ofInt (s 11 x.toNat))]) (σ' := (zN L X (zhi s) R G nc ns)) (fun n => rfl) ?_
    exact zW.jret rfl rfl (hQ0 (s 11 x.toNat) (by omega) (by omega))
  · skip
    show zW ro 81 5 [some (.ref 8), some (.int (Int32.ofInt x))] [.int (Int32.ofInt 0)] (zN L X (zhi s) R G nc ns) Q
    refine zW.run 2 (pc' := 18) (ls' := [some (.ref 8), some (.int (Int32.ofInt x))]) (st' := [.int (Int32.ofInt (-1))]) (σ' := (zN L X (zhi s) R G nc ns)) (fun n => rfl) ?_
    exact zW.jret rfl rfl (hQ0 (-1) (by omega) (by omega))
set_option maxRecDepth 20000 in
set_option maxHeartbeats 20000000 in
theorem t_Ground_touchesWork_d (S : zSR R) (A : zA g s) {x : Int} (p0 : -2147483648 ≤ x ∧ x < 2147483648) (p1 : x = 0 → ¬ s 11 1 = 1 ∧ ¬ s 11 (g 0).toNat = 1) (p2 : ∀ k : Nat, k < 144 → 0 ≤ s 11 k ∧ s 11 k ≤ 7) (hQ0 : ¬ x = 0 → Q (.inl (some (.int (Int32.ofInt 1)))) (zN L X (zhi s) R G nc ns)) (hQ1 : Q (.inl (some (.int (Int32.ofInt 0)))) (zN L X (zhi s) R G nc ns)) : zW ro 80 0 (zfst [.ref 8, .int (Int32.ofInt x), .int (Int32.ofInt 1)] 5) [] (zN L X (zhi s) R G nc ns) Q := by
  show zW ro 80 0 [some (.ref 8), some (.int (Int32.ofInt x)), some (.int (Int32.ofInt 1)), none, none] [] (zN L X (zhi s) R G nc ns) Q
  have f1 := zA_geo A
  refine zW.run 2 (pc' := 2) (ls' := [some (.ref 8), some (.int (Int32.ofInt x)), some (.int (Int32.ofInt 1)), some (.int (Int32.ofInt 0)), none]) (st' := []) (σ' := (zN L X (zhi s) R G nc ns)) (fun n => rfl) ?_
  have J5 : ∀ m : Nat, ∀ (i_2 : Nat) (w3 : Option Value), i_2 ≤ 4 → 4 - i_2 < m → zW ro 80 2 [some (.ref 8), some (.int (Int32.ofInt x)), some (.int (Int32.ofInt 1)), some (.int (Int32.ofInt (i_2 : Int))), w3] [] (zN L X (zhi s) R G nc ns) Q := by
    intro m
    induction m with
    | zero => intros; omega
    | succ m ih6 =>
      intro i_2 w3 c4 hm7
      refine zW.run 2 (pc' := 4) (ls' := [some (.ref 8), some (.int (Int32.ofInt x)), some (.int (Int32.ofInt 1)), some (.int (Int32.ofInt (i_2 : Int))), w3]) (st' := [.int (Int32.ofInt 4), .int (Int32.ofInt (i_2 : Int))]) (σ' := (zN L X (zhi s) R G nc ns)) (fun n => rfl) ?_
      refine zW.jcmp_ge rfl (by omega) (fun c8 => ?_) (fun c8 => ?_)
      · skip
        refine zW.run 1 (pc' := 40) (ls' := [some (.ref 8), some (.int (Int32.ofInt x)), some (.int (Int32.ofInt 1)), some (.int (Int32.ofInt (i_2 : Int))), w3]) (st' := [.int (Int32.ofInt 0)]) (σ' := (zN L X (zhi s) R G nc ns)) (fun n => rfl) ?_
        exact zW.jretb rfl rfl (by decide) hQ1
      · skip
        refine zW.run 3 (pc' := 10) (ls' := [some (.ref 8), some (.int (Int32.ofInt x)), some (.int (Int32.ofInt 1)), some (.int (Int32.ofInt (i_2 : Int))), w3]) (st' := [.int (Int32.ofInt (i_2 : Int)), .int (Int32.ofInt x), .ref 8]) (σ' := (zN L X (zhi s) R G nc ns)) (fun n => rfl) ?_
        refine zW.callV rfl (by decide) rfl rfl rfl rfl rfl (Nat.le_of_ble_eq_true rfl) ?_
        refine t_Ground_next_z S A (x := x) (d := (i_2 : Int)) (by omega) (by omega) (fun v_9 f10 f11 => ?_)
        show zW ro 80 13 [some (.ref 8), some (.int (Int32.ofInt x)), some (.int (Int32.ofInt 1)), some (.int (Int32.ofInt (i_2 : Int))), w3] [.int (Int32.ofInt v_9)] (zN L X (zhi s) R G nc ns) Q
        refine zW.run 3 (pc' := 18) (ls' := [some (.ref 8), some (.int (Int32.ofInt x)), some (.int (Int32.ofInt 1)), some (.int (Int32.ofInt (i_2 : Int))), some (.int (Int32.ofInt v_9))]) (st' := [.int (Int32.ofInt (-1)), .int (Int32.ofInt v_9)]) (σ' := (zN L X (zhi s) R G nc ns)) (fun n => rfl) ?_
        refine zW.jcmp_eq rfl (by omega) (fun c12 => ?_) (fun c12 => ?_)
        · skip
          refine zW.jinc (ls' := [some (.ref 8), some (.int (Int32.ofInt x)), some (.int (Int32.ofInt 1)), some (.int (Int32.ofInt ((i_2 : Int) + 1))), some (.int (Int32.ofInt v_9))]) rfl (Nat.le_of_ble_eq_true rfl) rfl rfl ?_
          refine zW.run 1 (pc' := 2) (ls' := [some (.ref 8), some (.int (Int32.ofInt x)), some (.int (Int32.ofInt 1)), some (.int (Int32.ofInt ((i_2 : Int) + 1))), some (.int (Int32.ofInt v_9))]) (st' := []) (σ' := (zN L X (zhi s) R G nc ns)) (fun n => rfl) ?_
          exact ih6 (i_2 + 1) (some (.int (Int32.ofInt v_9))) (by omega) (by omega)
        · skip
          refine zW.run 2 (pc' := 24) (ls' := [some (.ref 8), some (.int (Int32.ofInt x)), some (.int (Int32.ofInt 1)), some (.int (Int32.ofInt (i_2 : Int))), some (.int (Int32.ofInt v_9))]) (st' := [.int (Int32.ofInt v_9), .ref 8]) (σ' := (zN L X (zhi s) R G nc ns)) (fun n => rfl) ?_
          refine zW.callV rfl (by decide) rfl rfl rfl rfl rfl (Nat.le_of_ble_eq_true rfl) ?_
          refine t_Ground_workOf_a S A (x := v_9) (by omega) (p2) (fun v_13 f14 f15 => ?_)
          show zW ro 80 27 [some (.ref 8), some (.int (Int32.ofInt x)), some (.int (Int32.ofInt 1)), some (.int (Int32.ofInt (i_2 : Int))), some (.int (Int32.ofInt v_9))] [.int (Int32.ofInt v_13)] (zN L X (zhi s) R G nc ns) Q
          refine zW.run 1 (pc' := 28) (ls' := [some (.ref 8), some (.int (Int32.ofInt x)), some (.int (Int32.ofInt 1)), some (.int (Int32.ofInt (i_2 : Int))), some (.int (Int32.ofInt v_9))]) (st' := [.int (Int32.ofInt 1), .int (Int32.ofInt v_13)]) (σ' := (zN L X (zhi s) R G nc ns)) (fun n => rfl) ?_
          refine zW.jcmp_ne rfl (by omega) (fun c16 => ?_) (fun c16 => ?_)
          · skip
            refine zW.jinc (ls' := [some (.ref 8), some (.int (Int32.ofInt x)), some (.int (Int32.ofInt 1)), some (.int (Int32.ofInt ((i_2 : Int) + 1))), some (.int (Int32.ofInt v_9))]) rfl (Nat.le_of_ble_eq_true rfl) rfl rfl ?_
            refine zW.run 1 (pc' := 2) (ls' := [some (.ref 8), some (.int (Int32.ofInt x)), some (.int (Int32.ofInt 1)), some (.int (Int32.ofInt ((i_2 : Int) + 1))), some (.int (Int32.ofInt v_9))]) (st' := []) (σ' := (zN L X (zhi s) R G nc ns)) (fun n => rfl) ?_
            exact ih6 (i_2 + 1) (some (.int (Int32.ofInt v_9))) (by omega) (by omega)
          · skip
            refine zW.run 1 (pc' := 32) (ls' := [some (.ref 8), some (.int (Int32.ofInt x)), some (.int (Int32.ofInt 1)), some (.int (Int32.ofInt (i_2 : Int))), some (.int (Int32.ofInt v_9))]) (st' := [.int (Int32.ofInt 1)]) (σ' := (zN L X (zhi s) R G nc ns)) (fun n => rfl) ?_
            exact zW.jretb rfl rfl (by decide) (hQ0 (fun h9 => by have q9 := p1 h9; rcases (by omega : v_9 = 1 ∨ v_9 = g 0) with z9 | z9; (have y9 : (v_9).toNat = 1 := (by omega); simp only [y9] at *; omega); (have y9 : (v_9).toNat = (g 0).toNat := (by rw [z9]); simp only [y9] at *; omega)))
  exact J5 _ 0 none (by omega) (Nat.lt_succ_self _)
set_option maxRecDepth 20000 in
set_option maxHeartbeats 20000000 in
theorem t_Ground_digDitch (S : zSR R) {w : Int} {h : Int} {c : Int} {gt : Nat} (p0 : zPf w h c gt s) (p1 : zFb s s) (p2 : s 11 0 = 0) (p3 : s 11 1 = 0) (p4 : s 11 w.toNat = 0) (p5 : s 11 gt = 3) (hQ0 : ∀ (s1 : zJ), zFb s s1 → s1 11 0 = 0 → s1 11 gt = 3 → Q (.inl none) (zN L X (zhi s1) R G nc ns)) : zW ro 62 0 (zfst [.ref 8] 2) [] (zN L X (zhi s) R G nc ns) Q := by
  show zW ro 62 0 [some (.ref 8), none] [] (zN L X (zhi s) R G nc ns) Q
  obtain ⟨hA, hg0, hg1, hg2⟩ := p0
  refine zW.run 2 (pc' := 2) (ls' := [some (.ref 8), some (.int (Int32.ofInt 0))]) (st' := []) (σ' := (zN L X (zhi s) R G nc ns)) (fun n => rfl) ?_
  have J8 : ∀ m : Nat, ∀ (k_1 : Nat) (s2 : zJ), zFb s s2 → s2 11 0 = 0 → s2 11 gt = 3 → (k_1 = 0 → s2 11 1 = 0 ∧ s2 11 w.toNat = 0) → k_1 ≤ 144 → 145 - k_1 < m → zW ro 62 2 [some (.ref 8), some (.int (Int32.ofInt (k_1 : Int)))] [] (zN L X (zhi s2) R G nc ns) Q := by
    intro m
    induction m with
    | zero => intros; omega
    | succ m ih9 =>
      intro k_1 s2 c3 c4 c5 c6 c7 hm10
      have e8 := c3.2 8 11 (by omega)
      refine zW.run 2 (pc' := 4) (ls' := [some (.ref 8), some (.int (Int32.ofInt (k_1 : Int)))]) (st' := [.ref 8, .int (Int32.ofInt (k_1 : Int))]) (σ' := (zN L X (zhi s2) R G nc ns)) (fun n => rfl) ?_
      refine zW.run 1 (pc' := 7) (ls' := [some (.ref 8), some (.int (Int32.ofInt (k_1 : Int)))]) (st' := [.int (Int32.ofInt (s2 8 11)), .int (Int32.ofInt (k_1 : Int))]) (σ' := (zN L X (zhi s2) R G nc ns)) (fun n => rfl) ?_
      refine zW.jcmp_ge rfl (by omega) (fun c11 => ?_) (fun c11 => ?_)
      · skip
        exact zW.vret rfl (hQ0 s2 (c3) (c4) (c5))
      · skip
        refine zW.run 2 (pc' := 14) (ls' := [some (.ref 8), some (.int (Int32.ofInt (k_1 : Int)))]) (st' := [.int (Int32.ofInt 144), .int (Int32.ofInt (k_1 : Int))]) (σ' := (zN L X (zhi s2) R G nc ns)) (fun n => rfl) ?_
        refine zW.jcmp_ge rfl (by omega) (fun c12 => ?_) (fun c12 => ?_)
        · skip
          exact zW.vret rfl (hQ0 s2 (c3) (c4) (c5))
        · skip
          have eq9 := c3.1 k_1
          refine zW.run 1 (pc' := 18) (ls' := [some (.ref 8), some (.int (Int32.ofInt (k_1 : Int)))]) (st' := [.ref 8]) (σ' := (zN L X (zhi s2) R G nc ns)) (fun n => rfl) ?_
          refine zW.getf (v := .ref 11) rfl rfl (zr_8 S (f := 2) (by decide)) ?_
          refine zW.run 1 (pc' := 22) (ls' := [some (.ref 8), some (.int (Int32.ofInt (k_1 : Int)))]) (st' := [.int (Int32.ofInt (k_1 : Int)), .ref 11]) (σ' := (zN L X (zhi s2) R G nc ns)) (fun n => rfl) ?_
          refine zW.jald (n := 144) (v := (s2 11 k_1)) rfl rfl (by decide) (by omega) rfl ?_
          refine zW.jif_ne rfl (by omega) (fun c13 => ?_) (fun c13 => ?_)
          · skip
            refine zW.jinc (ls' := [some (.ref 8), some (.int (Int32.ofInt ((k_1 : Int) + 1)))]) rfl (Nat.le_of_ble_eq_true rfl) rfl rfl ?_
            refine zW.run 1 (pc' := 2) (ls' := [some (.ref 8), some (.int (Int32.ofInt ((k_1 : Int) + 1)))]) (st' := []) (σ' := (zN L X (zhi s2) R G nc ns)) (fun n => rfl) ?_
            exact ih9 (k_1 + 1) s2 (c3) (c4) (c5) (fun h9 => absurd h9 (Nat.succ_ne_zero _)) (by omega) (by omega)
          · skip
            refine zW.run 3 (pc' := 29) (ls' := [some (.ref 8), some (.int (Int32.ofInt (k_1 : Int)))]) (st' := [.int (Int32.ofInt 1), .int (Int32.ofInt (k_1 : Int)), .ref 8]) (σ' := (zN L X (zhi s2) R G nc ns)) (fun n => rfl) ?_
            have zA5 := zA_fr (fun p f h => c3.2 p f (by omega)) hA
            refine zW.callV rfl (by decide) rfl rfl rfl rfl rfl (Nat.le_of_ble_eq_true rfl) ?_
            refine t_Ground_touchesWork_d S zA5 (x := (k_1 : Int)) (by omega) (fun h9 => by have q9 := c6 (by omega); exact ⟨by omega, by show ¬ s2 11 w.toNat = 1; omega⟩) (fun j9 _ => by have q9 := c3.1 j9; omega) (fun f14 => ?_) ?_
            · skip
              show zW ro 62 32 [some (.ref 8), some (.int (Int32.ofInt (k_1 : Int)))] [.int (Int32.ofInt 1)] (zN L X (zhi s2) R G nc ns) Q
              refine zW.run 5 (pc' := 39) (ls' := [some (.ref 8), some (.int (Int32.ofInt (k_1 : Int)))]) (st' := [.ref 8, .int (Int32.ofInt 0), .int (Int32.ofInt (k_1 : Int)), .ref 8]) (σ' := (zN L X (zhi s2) R G nc ns)) (fun n => rfl) ?_
              refine zW.getf (v := .ref 10) rfl rfl (zr_8 S (f := 1) (by decide)) ?_
              refine zW.run 1 (pc' := 43) (ls' := [some (.ref 8), some (.int (Int32.ofInt (k_1 : Int)))]) (st' := [.int (Int32.ofInt (k_1 : Int)), .ref 10, .int (Int32.ofInt 0), .int (Int32.ofInt (k_1 : Int)), .ref 8]) (σ' := (zN L X (zhi s2) R G nc ns)) (fun n => rfl) ?_
              refine zW.jald (n := 144) (v := (s2 10 k_1)) rfl rfl (by decide) (by omega) rfl ?_
              refine zW.run 2 (pc' := 46) (ls' := [some (.ref 8), some (.int (Int32.ofInt (k_1 : Int)))]) (st' := [.int (Int32.ofInt 0), .int (Int32.ofInt 2), .int (Int32.ofInt (s2 10 k_1)), .int (Int32.ofInt 0), .int (Int32.ofInt (k_1 : Int)), .ref 8]) (σ' := (zN L X (zhi s2) R G nc ns)) (fun n => rfl) ?_
              refine zW.callV rfl (by decide) rfl rfl rfl rfl rfl (Nat.le_of_ble_eq_true rfl) ?_
              refine t_Ground_shape_b2 S (x := (k_1 : Int)) (a := 0) (b := (s2 10 k_1)) (e := 0) (c := c) (by omega) (by omega) ?_
              show zW ro 62 49 [some (.ref 8), some (.int (Int32.ofInt (k_1 : Int)))] [] (zN L X (zhi (zup (zup (zup (zup (zup s2 9 k_1 0) 10 k_1 (s2 10 k_1)) 11 k_1 2) 12 k_1 0) 13 k_1 0)) R G nc ns) Q
              refine zW.jinc (ls' := [some (.ref 8), some (.int (Int32.ofInt ((k_1 : Int) + 1)))]) rfl (Nat.le_of_ble_eq_true rfl) rfl rfl ?_
              refine zW.run 1 (pc' := 2) (ls' := [some (.ref 8), some (.int (Int32.ofInt ((k_1 : Int) + 1)))]) (st' := []) (σ' := (zN L X (zhi (zup (zup (zup (zup (zup s2 9 k_1 0) 10 k_1 (s2 10 k_1)) 11 k_1 2) 12 k_1 0) 13 k_1 0)) R G nc ns)) (fun n => rfl) ?_
              exact ih9 (k_1 + 1) (zup (zup (zup (zup (zup s2 9 k_1 0) 10 k_1 (s2 10 k_1)) 11 k_1 2) 12 k_1 0) 13 k_1 0) (zFb_sh c3 (by omega) (by omega) (by omega) (by omega) (by omega)) (by rw [zsh11, if_neg (by omega)]; exact c4) (by rw [zsh11, if_neg (fun h9 => by have z9 := c5; rw [h9] at z9; omega)]; exact c5) (fun h9 => absurd h9 (Nat.succ_ne_zero _)) (by omega) (by omega)
            · skip
              show zW ro 62 32 [some (.ref 8), some (.int (Int32.ofInt (k_1 : Int)))] [.int (Int32.ofInt 0)] (zN L X (zhi s2) R G nc ns) Q
              refine zW.run 1 (pc' := 49) (ls' := [some (.ref 8), some (.int (Int32.ofInt (k_1 : Int)))]) (st' := []) (σ' := (zN L X (zhi s2) R G nc ns)) (fun n => rfl) ?_
              refine zW.jinc (ls' := [some (.ref 8), some (.int (Int32.ofInt ((k_1 : Int) + 1)))]) rfl (Nat.le_of_ble_eq_true rfl) rfl rfl ?_
              refine zW.run 1 (pc' := 2) (ls' := [some (.ref 8), some (.int (Int32.ofInt ((k_1 : Int) + 1)))]) (st' := []) (σ' := (zN L X (zhi s2) R G nc ns)) (fun n => rfl) ?_
              exact ih9 (k_1 + 1) s2 (c3) (c4) (c5) (fun h9 => absurd h9 (Nat.succ_ne_zero _)) (by omega) (by omega)
  exact J8 _ 0 s (p1) (p2) (p5) (fun _ => ⟨p3, p4⟩) (by omega) (Nat.lt_succ_self _)
set_option maxRecDepth 20000 in
set_option maxHeartbeats 20000000 in
theorem t_Ground_openGate (S : zSR R)  (p0 : 6 < s 8 9 ∧ s 8 9 ≤ 12 ∧ 6 < s 8 10 ∧ s 8 10 ≤ 12) (hQ0 : Q (.inl none) (zN L X (zhi (zup s 8 13 ((6 * (s 8 9)) + 6))) R G nc ns)) : zW ro 72 0 (zfst [.ref 8] 1) [] (zN L X (zhi s) R G nc ns) Q := by
  show zW ro 72 0 [some (.ref 8)] [] (zN L X (zhi s) R G nc ns) Q
  refine zW.run 1 (pc' := 1) (ls' := [some (.ref 8)]) (st' := [.ref 8]) (σ' := (zN L X (zhi s) R G nc ns)) (fun n => rfl) ?_
  refine zW.run 2 (pc' := 6) (ls' := [some (.ref 8)]) (st' := [.int (Int32.ofInt 6), .int (Int32.ofInt (s 8 9))]) (σ' := (zN L X (zhi s) R G nc ns)) (fun n => rfl) ?_
  refine zW.jcmp_le rfl (by omega) (fun c1 => ?_) (fun c1 => ?_)
  · exfalso; omega
  refine zW.run 1 (pc' := 10) (ls' := [some (.ref 8)]) (st' := [.ref 8]) (σ' := (zN L X (zhi s) R G nc ns)) (fun n => rfl) ?_
  refine zW.run 2 (pc' := 15) (ls' := [some (.ref 8)]) (st' := [.int (Int32.ofInt 6), .int (Int32.ofInt (s 8 10))]) (σ' := (zN L X (zhi s) R G nc ns)) (fun n => rfl) ?_
  refine zW.jcmp_le rfl (by omega) (fun c2 => ?_) (fun c2 => ?_)
  · exfalso; omega
  refine zW.run 3 (pc' := 22) (ls' := [some (.ref 8)]) (st' := [.ref 8, .int (Int32.ofInt 6), .ref 8]) (σ' := (zN L X (zhi s) R G nc ns)) (fun n => rfl) ?_
  refine zW.run 1 (pc' := 25) (ls' := [some (.ref 8)]) (st' := [.int (Int32.ofInt (s 8 9)), .int (Int32.ofInt 6), .ref 8]) (σ' := (zN L X (zhi s) R G nc ns)) (fun n => rfl) ?_
  refine zW.jmul rfl ?_
  refine zW.run 1 (pc' := 28) (ls' := [some (.ref 8)]) (st' := [.int (Int32.ofInt 6), .int (Int32.ofInt (6 * (s 8 9))), .ref 8]) (σ' := (zN L X (zhi s) R G nc ns)) (fun n => rfl) ?_
  refine zW.jadd rfl ?_
  refine zW.jput rfl rfl rfl ?_
  refine zW.run 1 (pc' := 74) (ls' := [some (.ref 8)]) (st' := []) (σ' := (zN L X (zhi (zup s 8 13 ((6 * (s 8 9)) + 6))) R G nc ns)) (fun n => rfl) ?_
  exact zW.vret rfl hQ0
end ZB
