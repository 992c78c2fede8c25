/-! what the statement gives of the start (printed by program) -/
def zRa : List (List Int32) := [[0, 3, 1, 2], [2, 3, 4, 5], [1, 3, 4, 5, 6, 7], [1, 2, 3, 4, 5, 6], [2, 4, 5, 6, 7, 8]]
def zRl : List Nat := [4, 4, 6, 6, 6]
/-- what the cells hold that nobody writes: the statics' rows, the script -/
def zRO (L : Nat) (xs : Nat → Int32) : (Nat → Nat → Int32) × (Nat → Nat) := (fun p j => if p < 5 then (zRa.getD p []).getD j 0 else xs j, fun p => if p < 5 then zRl.getD p 0 else L)
theorem zfl {args : Array Value} {s : State} (h : (Jvm.Cond.and given_1 narrow_1).before args s = true) {w : Cond} (k : Nat) (e : (flatC (Jvm.Cond.and given_1 narrow_1))[k]? = some w) : w.before args s = true := flat_of_before _ h w (List.mem_of_getElem? e)
set_option maxRecDepth 100000 in
theorem zT_0 {args : Array Value} {s : State} {A : Nat → Prop} (L : Nat) (xs : Nat → Int32) (h : (Jvm.Cond.and given_1 narrow_1).before args s = true) (hA : ∀ a : Nat, a < s.heap.size → ¬ A a) : ∃ t : Nat, (Term.static "Siegelines" "BY_NUMBERS" "[I").eval args s none [] s = some (.ref t) ∧ va_T .int t ((zRO L xs).2 0) (fun j => .int ((zRO L xs).1 0 j)) A s s.heap :=
  va_Tof (N := 4) (by decide) (zfl h 7 rfl) (va_eqt (zfl h 8 rfl)) (fun j hj => match j, hj with
    | 0, _ => va_eqt (zfl h 9 rfl)
    | 1, _ => va_eqt (zfl h 10 rfl)
    | 2, _ => va_eqt (zfl h 11 rfl)
    | 3, _ => va_eqt (zfl h 12 rfl)
    | n + 4, h9 => absurd h9 (by omega)) hA
set_option maxRecDepth 100000 in
theorem zT_1 {args : Array Value} {s : State} {A : Nat → Prop} (L : Nat) (xs : Nat → Int32) (h : (Jvm.Cond.and given_1 narrow_1).before args s = true) (hA : ∀ a : Nat, a < s.heap.size → ¬ A a) : ∃ t : Nat, (Term.static "Siegelines" "SQUARE_FACTS" "[I").eval args s none [] s = some (.ref t) ∧ va_T .int t ((zRO L xs).2 1) (fun j => .int ((zRO L xs).1 1 j)) A s s.heap :=
  va_Tof (N := 4) (by decide) (zfl h 14 rfl) (va_eqt (zfl h 15 rfl)) (fun j hj => match j, hj with
    | 0, _ => va_eqt (zfl h 16 rfl)
    | 1, _ => va_eqt (zfl h 17 rfl)
    | 2, _ => va_eqt (zfl h 18 rfl)
    | 3, _ => va_eqt (zfl h 19 rfl)
    | n + 4, h9 => absurd h9 (by omega)) hA
set_option maxRecDepth 100000 in
theorem zT_2 {args : Array Value} {s : State} {A : Nat → Prop} (L : Nat) (xs : Nat → Int32) (h : (Jvm.Cond.and given_1 narrow_1).before args s = true) (hA : ∀ a : Nat, a < s.heap.size → ¬ A a) : ∃ t : Nat, (Term.static "Siegelines" "GUN_FACTS" "[I").eval args s none [] s = some (.ref t) ∧ va_T .int t ((zRO L xs).2 2) (fun j => .int ((zRO L xs).1 2 j)) A s s.heap :=
  va_Tof (N := 6) (by decide) (zfl h 21 rfl) (va_eqt (zfl h 22 rfl)) (fun j hj => match j, hj with
    | 0, _ => va_eqt (zfl h 23 rfl)
    | 1, _ => va_eqt (zfl h 24 rfl)
    | 2, _ => va_eqt (zfl h 25 rfl)
    | 3, _ => va_eqt (zfl h 26 rfl)
    | 4, _ => va_eqt (zfl h 27 rfl)
    | 5, _ => va_eqt (zfl h 28 rfl)
    | n + 6, h9 => absurd h9 (by omega)) hA
set_option maxRecDepth 100000 in
theorem zT_3 {args : Array Value} {s : State} {A : Nat → Prop} (L : Nat) (xs : Nat → Int32) (h : (Jvm.Cond.and given_1 narrow_1).before args s = true) (hA : ∀ a : Nat, a < s.heap.size → ¬ A a) : ∃ t : Nat, (Term.static "Siegelines" "COMPANY_FACTS" "[I").eval args s none [] s = some (.ref t) ∧ va_T .int t ((zRO L xs).2 3) (fun j => .int ((zRO L xs).1 3 j)) A s s.heap :=
  va_Tof (N := 6) (by decide) (zfl h 30 rfl) (va_eqt (zfl h 31 rfl)) (fun j hj => match j, hj with
    | 0, _ => va_eqt (zfl h 32 rfl)
    | 1, _ => va_eqt (zfl h 33 rfl)
    | 2, _ => va_eqt (zfl h 34 rfl)
    | 3, _ => va_eqt (zfl h 35 rfl)
    | 4, _ => va_eqt (zfl h 36 rfl)
    | 5, _ => va_eqt (zfl h 37 rfl)
    | n + 6, h9 => absurd h9 (by omega)) hA
set_option maxRecDepth 100000 in
theorem zT_4 {args : Array Value} {s : State} {A : Nat → Prop} (L : Nat) (xs : Nat → Int32) (h : (Jvm.Cond.and given_1 narrow_1).before args s = true) (hA : ∀ a : Nat, a < s.heap.size → ¬ A a) : ∃ t : Nat, (Term.static "Siegelines" "MINE_FACTS" "[I").eval args s none [] s = some (.ref t) ∧ va_T .int t ((zRO L xs).2 4) (fun j => .int ((zRO L xs).1 4 j)) A s s.heap :=
  va_Tof (N := 6) (by decide) (zfl h 39 rfl) (va_eqt (zfl h 40 rfl)) (fun j hj => match j, hj with
    | 0, _ => va_eqt (zfl h 41 rfl)
    | 1, _ => va_eqt (zfl h 42 rfl)
    | 2, _ => va_eqt (zfl h 43 rfl)
    | 3, _ => va_eqt (zfl h 44 rfl)
    | 4, _ => va_eqt (zfl h 45 rfl)
    | 5, _ => va_eqt (zfl h 46 rfl)
    | n + 6, h9 => absurd h9 (by omega)) hA
set_option maxRecDepth 100000 in
theorem zStr_ok {args : Array Value} {s : State} (hts : ∀ w ∈ lw_tbl, w.before args s = true) (h : (Jvm.Cond.and given_1 narrow_1).before args s = true) : ∀ x ∈ zStr, ∃ sa, vk_R x.1 x.2.1 x.2.2 sa s := by
  have go : ∀ (k : Nat) (t : String), Cond.stringRef "Siegelines" k t ∈ lw_tbl → (Cond.exactly (.string "Siegelines" k) "java/lang/String").before args s = true → ∃ sa, vk_R "Siegelines" k t sa s := fun k t h1 h2 => by
    obtain ⟨a, c, cell, kk, e, -⟩ := Cond.exactly_spec h2
    exact ⟨a, vk_R.of (hts _ h1) e⟩
  have key : ∀ (k : Nat) (t : String), ("Siegelines", k, t) ∈ zStr → Cond.stringRef "Siegelines" k t ∈ lw_tbl := fun k t hx => by
    obtain ⟨w, hw, e⟩ := List.mem_filterMap.mp hx
    cases w <;> first | (cases e; done) | (cases e; exact hw)
  have all : ∀ x ∈ zStr, x.1 = "Siegelines" ∧ (Cond.exactly (.string "Siegelines" x.2.1) "java/lang/String").before args s = true := by
    have e : zStr = [("Siegelines", 312, "no such hours"), ("Siegelines", 317, "no siege goes on, or no time is left"), ("Siegelines", 335, "no such side or question"), ("Siegelines", 322, "no such question"), ("Siegelines", 21, "no such map"), ("Siegelines", 32, "not the setting"), ("Siegelines", 141, "no such seed"), ("Siegelines", 146, "not the setting, no map, or not empty"), ("Siegelines", 158, "not the setting, or a side without companies"), ("Siegelines", 367, "no such row"), ("Siegelines", 566, ".#~Tc=/u"), ("Siegelines", 134, "no such company"), ("Siegelines", 177, "no such company or square"), ("Siegelines", 184, "no such order"), ("Siegelines", 189, "no siege goes on, or the company is gone"), ("Siegelines", 126, "no such gun"), ("Siegelines", 201, "no such gun or square"), ("Siegelines", 203, "no siege goes on"), ("Siegelines", 217, "no siege goes on, or the gun can not go there"), ("Siegelines", 224, "no company to haul it"), ("Siegelines", 232, "no siege goes on, or the gun is ready"), ("Siegelines", 234, "no company to set it right"), ("Siegelines", 242, "no such direction"), ("Siegelines", 253, "no siege goes on, or no mine can be begun"), ("Siegelines", 262, "no such mine"), ("Siegelines", 264, "no such charge"), ("Siegelines", 273, "no siege goes on, no such mine any more, or no powder"), ("Siegelines", 278, "no siege goes on, or the mine can not be blown"), ("Siegelines", 299, "no siege goes on, no night, or no further letter"), ("Siegelines", 58, "no such square")] := rfl
    intro x hx
    rw [e] at hx
    rcases List.mem_cons.mp hx with rfl | hx
    · exact ⟨rfl, zfl h 115 rfl⟩
    rcases List.mem_cons.mp hx with rfl | hx
    · exact ⟨rfl, zfl h 132 rfl⟩
    rcases List.mem_cons.mp hx with rfl | hx
    · exact ⟨rfl, zfl h 172 rfl⟩
    rcases List.mem_cons.mp hx with rfl | hx
    · exact ⟨rfl, zfl h 200 rfl⟩
    rcases List.mem_cons.mp hx with rfl | hx
    · exact ⟨rfl, zfl h 220 rfl⟩
    rcases List.mem_cons.mp hx with rfl | hx
    · exact ⟨rfl, zfl h 235 rfl⟩
    rcases List.mem_cons.mp hx with rfl | hx
    · exact ⟨rfl, zfl h 254 rfl⟩
    rcases List.mem_cons.mp hx with rfl | hx
    · exact ⟨rfl, zfl h 270 rfl⟩
    rcases List.mem_cons.mp hx with rfl | hx
    · exact ⟨rfl, zfl h 311 rfl⟩
    rcases List.mem_cons.mp hx with rfl | hx
    · exact ⟨rfl, zfl h 359 rfl⟩
    rcases List.mem_cons.mp hx with rfl | hx
    · exact ⟨rfl, zfl h 374 rfl⟩
    rcases List.mem_cons.mp hx with rfl | hx
    · exact ⟨rfl, zfl h 386 rfl⟩
    rcases List.mem_cons.mp hx with rfl | hx
    · exact ⟨rfl, zfl h 405 rfl⟩
    rcases List.mem_cons.mp hx with rfl | hx
    · exact ⟨rfl, zfl h 434 rfl⟩
    rcases List.mem_cons.mp hx with rfl | hx
    · exact ⟨rfl, zfl h 451 rfl⟩
    rcases List.mem_cons.mp hx with rfl | hx
    · exact ⟨rfl, zfl h 495 rfl⟩
    rcases List.mem_cons.mp hx with rfl | hx
    · exact ⟨rfl, zfl h 510 rfl⟩
    rcases List.mem_cons.mp hx with rfl | hx
    · exact ⟨rfl, zfl h 535 rfl⟩
    rcases List.mem_cons.mp hx with rfl | hx
    · exact ⟨rfl, zfl h 555 rfl⟩
    rcases List.mem_cons.mp hx with rfl | hx
    · exact ⟨rfl, zfl h 604 rfl⟩
    rcases List.mem_cons.mp hx with rfl | hx
    · exact ⟨rfl, zfl h 629 rfl⟩
    rcases List.mem_cons.mp hx with rfl | hx
    · exact ⟨rfl, zfl h 670 rfl⟩
    rcases List.mem_cons.mp hx with rfl | hx
    · exact ⟨rfl, zfl h 700 rfl⟩
    rcases List.mem_cons.mp hx with rfl | hx
    · exact ⟨rfl, zfl h 721 rfl⟩
    rcases List.mem_cons.mp hx with rfl | hx
    · exact ⟨rfl, zfl h 766 rfl⟩
    rcases List.mem_cons.mp hx with rfl | hx
    · exact ⟨rfl, zfl h 782 rfl⟩
    rcases List.mem_cons.mp hx with rfl | hx
    · exact ⟨rfl, zfl h 800 rfl⟩
    rcases List.mem_cons.mp hx with rfl | hx
    · exact ⟨rfl, zfl h 857 rfl⟩
    rcases List.mem_cons.mp hx with rfl | hx
    · exact ⟨rfl, zfl h 907 rfl⟩
    rcases List.mem_cons.mp hx with rfl | hx
    · exact ⟨rfl, zfl h 959 rfl⟩
    cases hx
  intro x hx
  obtain ⟨a, k, t⟩ := x
  obtain ⟨rfl, h2⟩ := all _ hx
  exact go k t (key k t hx) h2
set_option maxRecDepth 100000 in
theorem zNcs_ok {args : Array Value} {s : State} (h : (Jvm.Cond.and given_1 narrow_1).before args s = true) : ∀ x ∈ zNcs, va_Nc x.1 x.2 s := by
  intro x hx
  unfold zNcs at hx
  rcases List.mem_cons.mp hx with rfl | hx
  · exact va_Nc.of (zfl h 61 rfl)
  rcases List.mem_cons.mp hx with rfl | hx
  · exact va_Nc.of (zfl h 73 rfl)
  rcases List.mem_cons.mp hx with rfl | hx
  · exact va_Nc.of (zfl h 60 rfl)
  rcases List.mem_cons.mp hx with rfl | hx
  · exact va_Nc.of (zfl h 72 rfl)
  cases hx
theorem zTb_sub {args : Array Value} {s : State} (hts : ∀ w ∈ lw_tbl, w.before args s = true) : ∀ w ∈ zTb, w.before args s = true := fun w hw => hts w (List.mem_filter.mp hw).1
set_option maxRecDepth 100000 in
theorem zZq_ok {args : Array Value} {s : State} {A : Nat → Prop} (hts : ∀ w ∈ lw_tbl, w.before args s = true) (h : (Jvm.Cond.and given_1 narrow_1).before args s = true) (hA : ∀ a : Nat, a < s.heap.size → ¬ A a) : vx_Zq Bundle.tN "UNASSIGNED_STACK" Bundle.steD A s s.heap ∧ vx_Zq Bundle.tN "SUPPRESSED_SENTINEL" Bundle.listD A s s.heap :=
  ⟨vx_Zqof (hts _ (List.mem_of_getElem? (i := 81) rfl)) (hts _ (List.mem_of_getElem? (i := 28) rfl)) (zfl h 4 rfl) hA, vx_Zqof (hts _ (List.mem_of_getElem? (i := 83) rfl)) (hts _ (List.mem_of_getElem? (i := 28) rfl)) (zfl h 5 rfl) hA⟩
set_option maxRecDepth 100000 in
theorem zZ_0 {args : Array Value} {s : State} {A : Nat → Prop} {t : Nat} (hts : ∀ w ∈ lw_tbl, w.before args s = true) (hA : ∀ a : Nat, a < s.heap.size → ¬ A a) (hv : (Term.static "Siegelines" "BY_NUMBERS" "[I").eval args s none [] s = some (.ref t)) : va_Z "Siegelines" (zSN 0) "[I" (.ref t) A s s.heap := va_Zof (hts _ (List.mem_of_getElem? (i := 311) rfl)) (hts _ (List.mem_of_getElem? (i := 20) rfl)) hv hA
set_option maxRecDepth 100000 in
theorem zZ_1 {args : Array Value} {s : State} {A : Nat → Prop} {t : Nat} (hts : ∀ w ∈ lw_tbl, w.before args s = true) (hA : ∀ a : Nat, a < s.heap.size → ¬ A a) (hv : (Term.static "Siegelines" "SQUARE_FACTS" "[I").eval args s none [] s = some (.ref t)) : va_Z "Siegelines" (zSN 1) "[I" (.ref t) A s s.heap := va_Zof (hts _ (List.mem_of_getElem? (i := 502) rfl)) (hts _ (List.mem_of_getElem? (i := 20) rfl)) hv hA
set_option maxRecDepth 100000 in
theorem zZ_2 {args : Array Value} {s : State} {A : Nat → Prop} {t : Nat} (hts : ∀ w ∈ lw_tbl, w.before args s = true) (hA : ∀ a : Nat, a < s.heap.size → ¬ A a) (hv : (Term.static "Siegelines" "GUN_FACTS" "[I").eval args s none [] s = some (.ref t)) : va_Z "Siegelines" (zSN 2) "[I" (.ref t) A s s.heap := va_Zof (hts _ (List.mem_of_getElem? (i := 532) rfl)) (hts _ (List.mem_of_getElem? (i := 20) rfl)) hv hA
set_option maxRecDepth 100000 in
theorem zZ_3 {args : Array Value} {s : State} {A : Nat → Prop} {t : Nat} (hts : ∀ w ∈ lw_tbl, w.before args s = true) (hA : ∀ a : Nat, a < s.heap.size → ¬ A a) (hv : (Term.static "Siegelines" "COMPANY_FACTS" "[I").eval args s none [] s = some (.ref t)) : va_Z "Siegelines" (zSN 3) "[I" (.ref t) A s s.heap := va_Zof (hts _ (List.mem_of_getElem? (i := 540) rfl)) (hts _ (List.mem_of_getElem? (i := 20) rfl)) hv hA
set_option maxRecDepth 100000 in
theorem zZ_4 {args : Array Value} {s : State} {A : Nat → Prop} {t : Nat} (hts : ∀ w ∈ lw_tbl, w.before args s = true) (hA : ∀ a : Nat, a < s.heap.size → ¬ A a) (hv : (Term.static "Siegelines" "MINE_FACTS" "[I").eval args s none [] s = some (.ref t)) : va_Z "Siegelines" (zSN 4) "[I" (.ref t) A s s.heap := va_Zof (hts _ (List.mem_of_getElem? (i := 551) rfl)) (hts _ (List.mem_of_getElem? (i := 20) rfl)) hv hA
set_option maxRecDepth 100000 in
theorem zAO_ok {args : Array Value} {s : State} (hts : ∀ w ∈ lw_tbl, w.before args s = true) : ∀ k, k = 103 ∨ k = 104 ∨ k = 105 → va_AO (zAC k) s := by
  intro k hk
  rcases hk with rfl | rfl | rfl
  · exact va_AO.of (hts (Cond.arrayOver (.object "Siegelines$Gun")) (List.mem_of_getElem? (i := 681) rfl))
  · exact va_AO.of (hts (Cond.arrayOver (.object "Siegelines$Company")) (List.mem_of_getElem? (i := 683) rfl))
  · exact va_AO.of (hts (Cond.arrayOver (.object "Siegelines$Mine")) (List.mem_of_getElem? (i := 685) rfl))
def zArI : Nat := 679
/-- a private method of a class above: it is the one that runs -/
theorem zb_sel {C : String} {x' y' y : MethodName} {s : State} {args : Array Value} (hc : y'.cls = y.cls) (hy : y.cls ≠ "java/lang/invoke/MethodHandle" ∧ y.cls ≠ "java/lang/invoke/VarHandle") (h0 : (Cond.selects C x' y').before args s = true) (hpriv : (Cond.privateMethod y).before args s = true) (hinst : (Cond.instanceMethod y).before args s = true) : (Cond.selects C y y).before args s = true := by
  obtain ⟨c, r, m, h1, -, h3, -, mk1, h5, h6⟩ := Cond.selects_spec h0
  obtain ⟨mk, methM, hnamed, hmethM, -, -⟩ := Cond.instanceMethod_spec hinst
  have hfound : s.methodFound? y.cls y.name y.desc = some mk := State.methodFound?_of_named hnamed hy
  have hcls : mk.cls = m.cls := by
    have e1 := findClass_of_methodNamed hnamed
    have e2 := findClass_of_methodNamed h3
    rw [hc] at e2
    exact Option.some.inj (e1.symm.trans e2)
  have hsel : selectMethod {} s.vm c mk = .method mk := selectMethod_private hmethM (Cond.privateMethod_at hpriv mk methM hnamed hmethM)
  simp only [Cond.before, Cond.holds, Cond.value, h1, hfound, hnamed, hsel, hcls, h5]
  simp
  exact h6
set_option maxRecDepth 100000 in
theorem zTx_ok {args : Array Value} {s : State} {A : Nat → Prop} (hts : ∀ w ∈ lw_tbl, w.before args s = true) (h : (Jvm.Cond.and given_1 narrow_1).before args s = true) (hA : ∀ a : Nat, a < s.heap.size → ¬ A a) : zTx A s s.heap := by
  have m1 : Cond.laysStatic "java/lang/String" "COMPACT_STRINGS" "Z" ∈ lw_tbl := by decide +kernel
  have m2 : Cond.initialized "java/lang/String" ∈ lw_tbl := by decide +kernel
  have m3 : Cond.laysStatic "jdk/internal/util/Preconditions" "SIOOBE_FORMATTER" "Ljava/util/function/BiFunction;" ∈ lw_tbl := by decide +kernel
  have m4 : Cond.initialized "jdk/internal/util/Preconditions" ∈ lw_tbl := by decide +kernel
  have m5 : Cond.stringRef "Siegelines" 566 ".#~Tc=/u" ∈ lw_tbl := by decide +kernel
  obtain ⟨ka, va, g1, g2⟩ := vk_Sof (args := args) (s := s) (N := 1) (tm := fun _ => Term.string "Siegelines" 566) (len := [8]) (byt := [[46, 35, 126, 84, 99, 61, 47, 117]]) (A := A)
    (fun i hi => by obtain rfl : i = 0 := by omega
                    decide)
    (fun i hi => zfl h 374 rfl)
    (fun i hi => zfl h 375 rfl)
    (fun i hi => zfl h 376 rfl)
    (fun i hi => by obtain rfl : i = 0 := by omega
                    exact zfl h 377 rfl)
    (fun i hi j hj => by
      obtain rfl : i = 0 := by omega
      exact (match j, hj with
        | 0, _ => zfl h 378 rfl
        | 1, _ => zfl h 379 rfl
        | 2, _ => zfl h 380 rfl
        | 3, _ => zfl h 381 rfl
        | 4, _ => zfl h 382 rfl
        | 5, _ => zfl h 383 rfl
        | 6, _ => zfl h 384 rfl
        | 7, _ => zfl h 385 rfl
        | n + 8, h9 => absurd (show n + 8 < 8 from h9) (by omega)))
    (fun i j hi hj hne => absurd (show i = j by omega) hne) hA
  have e0 : (Term.string "Siegelines" 566).eval args s none [] s = some (.ref (ka 0)) := g2 0 (by decide)
  have m6 : Cond.selects "java/lang/StringBuilder" ⟨"java/lang/AbstractStringBuilder", "isLatin1", "()Z"⟩ ⟨"java/lang/AbstractStringBuilder", "isLatin1", "()Z"⟩ ∈ lw_tbl := by decide +kernel
  have m7 : Cond.privateMethod zyE ∈ lw_tbl := by decide +kernel
  have m8 : Cond.instanceMethod zyE ∈ lw_tbl := by decide +kernel
  have e9 : (Cond.selects "java/lang/StringBuilder" zyE zyE).before args s = true := zb_sel (y' := ⟨"java/lang/AbstractStringBuilder", "isLatin1", "()Z"⟩) rfl ⟨by decide +kernel, by decide +kernel⟩ (hts _ m6) (hts _ m7) (hts _ m8)
  exact ⟨va_tabs rfl rfl e9, va_Zof (hts _ m1) (hts _ m2) (va_eqt (zfl h 47 rfl)) hA, va_Zqof (hts _ m3) (hts _ m4) (zfl h 48 rfl) hA, ka, va, vk_R.of (hts _ m5) e0, g1⟩
