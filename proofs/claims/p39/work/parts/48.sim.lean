/-! the interpreter and the machine: what the tables must say of an instruction, and that this is enough -/
def zmem (k : Nat) (w : Cond) : Bool := decide (lw_tbl[k]? = some w) && goodWord w
def zmeW (k : Nat) (w : Cond) : Bool := decide (lw_tbl[k]? = some w) && zWk w
theorem zmem_in {k : Nat} {w : Cond} (h : zmem k w = true) : w ∈ zTb := by
  unfold zmem at h
  rw [Bool.and_eq_true] at h
  exact List.mem_filter.mpr ⟨List.mem_of_getElem? (of_decide_eq_true h.1), h.2⟩
theorem zmeW_in {k : Nat} {w : Cond} (h : zmeW k w = true) : w ∈ zWs := by
  unfold zmeW at h
  rw [Bool.and_eq_true] at h
  exact List.mem_filter.mpr ⟨List.mem_of_getElem? (of_decide_eq_true h.1), h.2⟩
def zdec (b : ByteArray) (pc : Nat) (i : Instr) (n : Nat) : Bool := decide (decode b pc = .ok (i, n))
theorem zdec_is {b : ByteArray} {pc : Nat} {i : Instr} {n : Nat} (h : zdec b pc i n = true) : decode b pc = .ok (i, n) := of_decide_eq_true h
/-- what is so of a method that may be called -/
def zMk (q : zM) : Prop := zcw q ∈ zTb ∧ Cond.initialized (zmN q).cls ∈ zTb ∧ (zmN q).cls ≠ "java/lang/invoke/MethodHandle" ∧ (zmN q).cls ≠ "java/lang/invoke/VarHandle" ∧ plainFor (zmN q) = true
def zcdB (q0 q : zM) (n : Nat) : Bool := !(zmC q).isEmpty && decide (zmF q ≠ 12) && decide ((parseMethodDescriptor (zmN q).desc).map (fun d => d.parameters.length) = some n) && decide (zmF q + 1 ≤ zmF q0) && decide (8 + (zmL q + 11) + zmW q ≤ zmW q0)
theorem zcdB_is {q0 q : zM} {n : Nat} (h : zcdB q0 q n = true) (hm : zmC q ≠ [] → zmF q ≠ 12 → zMk q) : zCd q0 q n ∧ plainFor (zmN q) = true := by
  unfold zcdB at h
  simp only [Bool.and_eq_true, decide_eq_true_eq, Bool.not_eq_true', List.isEmpty_eq_false_iff] at h
  obtain ⟨⟨⟨⟨h0, h12⟩, h5⟩, h6⟩, h7⟩ := h
  obtain ⟨m1, m2, m3, m4, m5⟩ := hm h0 h12
  exact ⟨⟨m1, m2, ⟨m3, m4, h5⟩, h6, h7⟩, m5⟩
/-- the constructors of what is thrown, in the class's own numbers -/
def zik (E : Nat) : Nat := if E = 86 then 30 else if E = 43 then 56 else 19
def zstrB (own : String) (k is : Nat) : Bool := match lw_tbl[k]? with
  | some (.stringRef a i _) => decide (a = own) && decide (i = is)
  | _ => false
theorem zstrB_is {own : String} {k is : Nat} (h : zstrB own k is = true) : ∃ t, (own, is, t) ∈ zStr := by
  unfold zstrB at h
  split at h
  · rename_i a i t hq
    simp only [Bool.and_eq_true, decide_eq_true_eq] at h
    obtain ⟨rfl, rfl⟩ := h
    exact ⟨t, List.mem_filterMap.mpr ⟨_, List.mem_of_getElem? hq, rfl⟩⟩
  · cases h
/-- what is asked of an instruction -/
def zok (cl : List vw_C) (zic : Nat → Nat) (P : Nat → zM) (y pc : Nat) (e : zI) : Bool := match e with
  | (i, r1, r2, r3, tg) => match i with
  | .aload k => zdec (zmB (P y)) pc (.aload k) 2
  | .aload_n k => zdec (zmB (P y)) pc (.aload_n k) 1
  | .iload k => zdec (zmB (P y)) pc (.iload k) 2
  | .iload_n k => zdec (zmB (P y)) pc (.iload_n k) 1
  | .lload k => zdec (zmB (P y)) pc (.lload k) 2
  | .lload_n k => zdec (zmB (P y)) pc (.lload_n k) 1
  | .astore k => zdec (zmB (P y)) pc (.astore k) 2
  | .astore_n k => zdec (zmB (P y)) pc (.astore_n k) 1
  | .istore k => zdec (zmB (P y)) pc (.istore k) 2
  | .istore_n k => zdec (zmB (P y)) pc (.istore_n k) 1
  | .lstore k => zdec (zmB (P y)) pc (.lstore k) 2
  | .lstore_n k => zdec (zmB (P y)) pc (.lstore_n k) 1
  | .iinc k n => zdec (zmB (P y)) pc (.iinc k n) 3
  | .iconst n => zdec (zmB (P y)) pc (.iconst n) 1
  | .bipush n => zdec (zmB (P y)) pc (.bipush n) 2
  | .sipush n => zdec (zmB (P y)) pc (.sipush n) 3
  | .lconst n => zdec (zmB (P y)) pc (.lconst n) 1
  | .ldc x => zdec (zmB (P y)) pc (.ldc x) 2 && zmem (tg.getD 0 0) (.constant (zmN (P y)).cls x (Int32.ofNat r1))
  | .ldc2_w x => zdec (zmB (P y)) pc (.ldc2_w x) 3 && zmem (tg.getD 0 0) (.constantLong (zmN (P y)).cls x (Int64.ofNat r1))
  | .aconst_null => zdec (zmB (P y)) pc .aconst_null 1
  | .pop => zdec (zmB (P y)) pc .pop 1
  | .dup => zdec (zmB (P y)) pc .dup 1
  | .dup2 => zdec (zmB (P y)) pc .dup2 1
  | .iadd => zdec (zmB (P y)) pc .iadd 1
  | .isub => zdec (zmB (P y)) pc .isub 1
  | .imul => zdec (zmB (P y)) pc .imul 1
  | .idiv => zdec (zmB (P y)) pc .idiv 1
  | .irem => zdec (zmB (P y)) pc .irem 1
  | .iand => zdec (zmB (P y)) pc .iand 1
  | .ixor => zdec (zmB (P y)) pc .ixor 1
  | .ishr => zdec (zmB (P y)) pc .ishr 1
  | .ishl => zdec (zmB (P y)) pc .ishl 1
  | .ineg => zdec (zmB (P y)) pc .ineg 1
  | .i2l => zdec (zmB (P y)) pc .i2l 1
  | .i2b => zdec (zmB (P y)) pc .i2b 1
  | .ladd => zdec (zmB (P y)) pc .ladd 1
  | .lmul => zdec (zmB (P y)) pc .lmul 1
  | .lcmp => zdec (zmB (P y)) pc .lcmp 1
  | .goto o => zdec (zmB (P y)) pc (.goto o) 3 && decide ((pc : Int) + o = (r1 : Int))
  | .ifCond c o => zdec (zmB (P y)) pc (.ifCond c o) 3 && decide ((pc : Int) + o = (r1 : Int))
  | .if_icmp c o => zdec (zmB (P y)) pc (.if_icmp c o) 3 && decide ((pc : Int) + o = (r1 : Int))
  | .ifnull o => zdec (zmB (P y)) pc (.ifnull o) 3 && decide ((pc : Int) + o = (r1 : Int))
  | .ifnonnull o => zdec (zmB (P y)) pc (.ifnonnull o) 3 && decide ((pc : Int) + o = (r1 : Int))
  | .tableswitch df lo hi offs => zdec (zmB (P y)) pc (.tableswitch df lo hi offs) r3 && decide ((pc : Int) + df = (r2 : Int)) && decide (offs.toList.map (fun o => (pc : Int) + o) = tg.map (fun t : Nat => Int.ofNat t))
  | .getfield x => zdec (zmB (P y)) pc (.getfield x) 3 && (match cl[r1]? with
    | some (_, T, N) => decide (r2 < N) && zmem (tg.getD 0 0) (.fieldLink (zmN (P y)).cls x (T r2).1 (T r2).2.1 (T r2).2.2.1)
    | none => false)
  | .putfield x => zdec (zmB (P y)) pc (.putfield x) 3 && (match cl[r1]? with
    | some (_, T, N) => decide (r2 < N) && zmem (tg.getD 0 0) (.fieldLink (zmN (P y)).cls x (T r2).1 (T r2).2.1 (T r2).2.2.1) && (!(T r2).2.2.2 || (decide ((zmN (P y)).name = "<init>") && decide ((T r2).1 = (zmN (P y)).cls)))
    | none => false)
  | .getstatic x => zdec (zmB (P y)) pc (.getstatic x) 3 && decide (r1 < 5) && (zmem (tg.getD 0 0) (.fieldLink (zmN (P y)).cls x "Siegelines" (zSN r1) "[I") || zmeW (tg.getD 0 0) (.fieldLinkNest (zmN (P y)).cls x "Siegelines" (zSN r1) "[I" "Siegelines"))
  | .arraylength => zdec (zmB (P y)) pc .arraylength 1
  | .iaload => zdec (zmB (P y)) pc .iaload 1
  | .iastore => zdec (zmB (P y)) pc .iastore 1
  | .aaload => zdec (zmB (P y)) pc .aaload 1
  | .aastore => zdec (zmB (P y)) pc .aastore 1 && decide (r1 = 103 ∨ r1 = 104 ∨ r1 = 105) && (match cl[r2]? with
    | some (C, _, _) => decide (C = zAC r1)
    | none => false)
  | .newarray t => decide (t = .int) && zdec (zmB (P y)) pc (.newarray .int) 2 && decide (r1 = 100) && zmem (tg.getD 0 0) (.arrayClass .int)
  | .anewarray x => zdec (zmB (P y)) pc (.anewarray x) 3 && decide (r1 = 103 ∨ r1 = 104 ∨ r1 = 105) && zmem (tg.getD 0 0) (.classLink (zmN (P y)).cls x (zAC r1))
  | .new x => if r3 = 0 then zdec (zmB (P y)) pc (.new x) 3 && (match cl[r1]? with
      | some (C, _, _) => zmem (tg.getD 0 0) (.classLink (zmN (P y)).cls x C)
      | none => false)
    else zdec (zmB (P y)) pc (.new x) 3 && zdec (zmB (P y)) (pc + 3) .dup 1 && ((zdec (zmB (P y)) (pc + 4) (.ldc r2) 2 && zdec (zmB (P y)) (pc + 6) (.invokespecial (zic r1)) 3 && zdec (zmB (P y)) (pc + 9) .athrow 1) || (zdec (zmB (P y)) (pc + 4) (.ldc_w r2) 3 && zdec (zmB (P y)) (pc + 7) (.invokespecial (zic r1)) 3 && zdec (zmB (P y)) (pc + 10) .athrow 1)) && decide ((zmN (P y)).cls = "Siegelines") && decide (r1 = 86 ∨ r1 = 43 ∨ r1 = 0) && decide (x = zik r1) && zstrB "Siegelines" (tg.getD 0 0) r2 && decide (zmH (P y) = []) && decide (6 ≤ zmF (P y)) && decide (82 ≤ zmW (P y))
  | .ireturn => zdec (zmB (P y)) pc .ireturn 1
  | .lreturn => zdec (zmB (P y)) pc .lreturn 1 && decide (zmR (P y) = some .long)
  | .areturn => zdec (zmB (P y)) pc .areturn 1 && (match zmR (P y) with
    | some (.object _) => true
    | _ => false)
  | .return_ => zdec (zmB (P y)) pc .return_ 1 && decide (zmR (P y) = none)
  | .invokestatic x => zdec (zmB (P y)) pc (.invokestatic x) 3 && zcdB (P y) (P r1) r2 && zmem (tg.getD 1 0) (.static (zmN (P r1))) && (zmem (tg.getD 0 0) (.methodLink (zmN (P y)).cls x (zmN (P r1))) || (zmeW (tg.getD 0 0) (.methodLinkNest (zmN (P y)).cls x (zmN (P r1)) "Siegelines") && decide (zmH (P r1) = [])))
  | .invokevirtual x => if r3 = 2000 then true else zdec (zmB (P y)) pc (.invokevirtual x) 3 && zcdB (P y) (P r1) r2 && decide (zmH (P r1) = []) && zmem (tg.getD 1 0) (.instanceMethod (zmN (P r1))) && zmem (tg.getD 2 0) (.selects (zmN (P r1)).cls (zmN (P r1)) (zmN (P r1))) && zmem (tg.getD 0 0) (.methodLink (zmN (P y)).cls x (zmN (P r1))) && (match cl[r3]? with
    | some (C, _, _) => decide (C = (zmN (P r1)).cls)
    | none => false)
  | .invokespecial x => if r3 = 1000 then zdec (zmB (P y)) pc (.invokespecial x) 3 && zmem (tg.getD 0 0) (.methodLink (zmN (P y)).cls x Lib.objectInit) && decide (1 ≤ zmF (P y)) && decide (20 ≤ zmW (P y))
    else zdec (zmB (P y)) pc (.invokespecial x) 3 && zcdB (P y) (P r1) r2 && decide (zmH (P r1) = []) && decide (zmR (P r1) = none) && decide ((zmN (P r1)).name = "<init>") && zmem (tg.getD 1 0) (.instanceMethod (zmN (P r1))) && (zmem (tg.getD 0 0) (.methodLink (zmN (P y)).cls x (zmN (P r1))) || zmeW (tg.getD 0 0) (.methodLinkNest (zmN (P y)).cls x (zmN (P r1)) "Siegelines"))
  | _ => true
theorem zlk_in {l : List (Nat × zI)} {pc : Nat} {e : zI} (h : zlk l pc = some e) : (pc, e) ∈ l := by
  induction l with
  | nil => cases h
  | cons a r ih =>
    unfold zlk at h
    split at h
    · rename_i h1
      cases h
      rw [← h1]
      exact List.mem_cons_self
    · exact List.mem_cons_of_mem _ (ih h)
theorem zcat_no {pc E : Nat} : ∀ {hs : List (Nat × Nat × Nat × Nat)}, zcat hs pc E = none → ∀ x ∈ hs, ¬ (x.1 ≤ pc ∧ pc < x.2.1) ∨ x.2.2.2 ≠ E
  | [], _, _, h => nomatch h
  | a :: r, h, x, hx => by
    unfold zcat at h
    split at h
    · cases h
    · rename_i h1
      rcases List.mem_cons.mp hx with rfl | hx
      · by_cases hc : x.1 ≤ pc ∧ pc < x.2.1
        · exact Or.inr (fun q => h1 ⟨hc.1, hc.2, q⟩)
        · exact Or.inl hc
      · exact zcat_no h x hx
theorem zcat_yes {pc E h9 : Nat} : ∀ {hs : List (Nat × Nat × Nat × Nat)}, zcat hs pc E = some h9 → ∃ pre x suf, hs = pre ++ x :: suf ∧ (∀ z ∈ pre, ¬ (z.1 ≤ pc ∧ pc < z.2.1) ∨ z.2.2.2 ≠ E) ∧ (x.1 ≤ pc ∧ pc < x.2.1) ∧ x.2.2.2 = E ∧ x.2.2.1 = h9
  | [], h => by cases h
  | a :: r, h => by
    unfold zcat at h
    split at h
    · rename_i h1
      cases h
      exact ⟨[], a, r, rfl, (fun z hz => nomatch hz), ⟨h1.1, h1.2.1⟩, h1.2.2, rfl⟩
    · rename_i h1
      obtain ⟨pre, x, suf, h2, h3, h4⟩ := zcat_yes h
      refine ⟨a :: pre, x, suf, by rw [h2]; rfl, fun z hz => ?_, h4⟩
      rcases List.mem_cons.mp hz with rfl | hz
      · by_cases hc : z.1 ≤ pc ∧ pc < z.2.1
        · exact Or.inr (fun q => h1 ⟨hc.1, hc.2, q⟩)
        · exact Or.inl hc
      · exact h3 z hz
theorem zNc_in {E t : Nat} (ht : t = 86 ∨ t = 43) (h : t ≠ E) : (zEx E, zEx t) ∈ zNcs := by
  by_cases h1 : E = 86
  · subst h1
    rcases ht with rfl | rfl
    · exact absurd rfl h
    · decide +kernel
  · by_cases h2 : E = 43
    · subst h2
      rcases ht with rfl | rfl
      · decide +kernel
      · exact absurd rfl h
    · have e : zEx E = "java/lang/IllegalArgumentException" := by unfold zEx; rw [if_neg h1, if_neg h2]
      rw [e]
      rcases ht with rfl | rfl
      · decide +kernel
      · decide +kernel
