/-! every instruction is as the tables say -/
set_option maxRecDepth 100000 in
theorem zok_all : ∀ y, ∀ q ∈ zmC (zP y), zok zCl zic zP y q.1 q.2 = true := by
  intro y q hq
  have hy := (zP_in y (fun e => by rw [e] at hq; cases hq)).2
  have go : ∀ a n, zAll a n = true → a ≤ y → y < a + n → zok zCl zic zP y q.1 q.2 = true := fun a n h h1 h2 => List.all_eq_true.mp (List.all_eq_true.mp h y (List.mem_range'_1.mpr ⟨h1, h2⟩)) q hq
  rcases Nat.lt_or_ge y 6 with h0 | h0
  · exact go 0 6 zk_0 (by omega) (by omega)
  rcases Nat.lt_or_ge y 7 with h1 | h1
  · exact go 6 1 zk_6 (by omega) (by omega)
  rcases Nat.lt_or_ge y 15 with h2 | h2
  · exact go 7 8 zk_7 (by omega) (by omega)
  rcases Nat.lt_or_ge y 25 with h3 | h3
  · exact go 15 10 zk_15 (by omega) (by omega)
  rcases Nat.lt_or_ge y 30 with h4 | h4
  · exact go 25 5 zk_25 (by omega) (by omega)
  rcases Nat.lt_or_ge y 39 with h5 | h5
  · exact go 30 9 zk_30 (by omega) (by omega)
  rcases Nat.lt_or_ge y 42 with h6 | h6
  · exact go 39 3 zk_39 (by omega) (by omega)
  rcases Nat.lt_or_ge y 46 with h7 | h7
  · exact go 42 4 zk_42 (by omega) (by omega)
  rcases Nat.lt_or_ge y 50 with h8 | h8
  · exact go 46 4 zk_46 (by omega) (by omega)
  rcases Nat.lt_or_ge y 56 with h9 | h9
  · exact go 50 6 zk_50 (by omega) (by omega)
  rcases Nat.lt_or_ge y 66 with h10 | h10
  · exact go 56 10 zk_56 (by omega) (by omega)
  rcases Nat.lt_or_ge y 70 with h11 | h11
  · exact go 66 4 zk_66 (by omega) (by omega)
  rcases Nat.lt_or_ge y 73 with h12 | h12
  · exact go 70 3 zk_70 (by omega) (by omega)
  rcases Nat.lt_or_ge y 81 with h13 | h13
  · exact go 73 8 zk_73 (by omega) (by omega)
  rcases Nat.lt_or_ge y 91 with h14 | h14
  · exact go 81 10 zk_81 (by omega) (by omega)
  rcases Nat.lt_or_ge y 95 with h15 | h15
  · exact go 91 4 zk_91 (by omega) (by omega)
  rcases Nat.lt_or_ge y 100 with h16 | h16
  · exact go 95 5 zk_95 (by omega) (by omega)
  rcases Nat.lt_or_ge y 109 with h17 | h17
  · exact go 100 9 zk_100 (by omega) (by omega)
  rcases Nat.lt_or_ge y 113 with h18 | h18
  · exact go 109 4 zk_109 (by omega) (by omega)
  rcases Nat.lt_or_ge y 120 with h19 | h19
  · exact go 113 7 zk_113 (by omega) (by omega)
  rcases Nat.lt_or_ge y 128 with h20 | h20
  · exact go 120 8 zk_120 (by omega) (by omega)
  rcases Nat.lt_or_ge y 136 with h21 | h21
  · exact go 128 8 zk_128 (by omega) (by omega)
  rcases Nat.lt_or_ge y 145 with h22 | h22
  · exact go 136 9 zk_136 (by omega) (by omega)
  rcases Nat.lt_or_ge y 149 with h23 | h23
  · exact go 145 4 zk_145 (by omega) (by omega)
  rcases Nat.lt_or_ge y 156 with h24 | h24
  · exact go 149 7 zk_149 (by omega) (by omega)
  rcases Nat.lt_or_ge y 163 with h25 | h25
  · exact go 156 7 zk_156 (by omega) (by omega)
  rcases Nat.lt_or_ge y 165 with h26 | h26
  · exact go 163 2 zk_163 (by omega) (by omega)
  rcases Nat.lt_or_ge y 166 with h27 | h27
  · have hy9 : y = 165 := by omega
    subst hy9
    have pc : ∀ (l : List (Nat × zI)) (n : Nat), q ∈ l → q ∈ l.take n ∨ q ∈ l.drop n := fun l n hq => List.mem_append.mp (by rw [List.take_append_drop]; exact hq)
    have hq0 : q ∈ (zmC (zP 165)).drop 0 := hq
    rcases pc _ 125 hq0 with h9 | hq1
    · exact List.all_eq_true.mp zk_165_0 q h9
    rw [List.drop_drop] at hq1
    rcases pc _ 125 hq1 with h9 | hq2
    · exact List.all_eq_true.mp zk_165_125 q h9
    rw [List.drop_drop] at hq2
    rcases pc _ 125 hq2 with h9 | hq3
    · exact List.all_eq_true.mp zk_165_250 q h9
    rw [List.drop_drop] at hq3
    rcases pc _ 125 hq3 with h9 | hq4
    · exact List.all_eq_true.mp zk_165_375 q h9
    rw [List.drop_drop] at hq4
    exact absurd (show q ∈ ([] : List (Nat × zI)) from hq4) List.not_mem_nil
  rcases Nat.lt_or_ge y 167 with h28 | h28
  · exact go 166 1 zk_166 (by omega) (by omega)
  exact go 167 6 zk_167 (by omega) (by omega)
