section
-- ===== PART A: goes FIRST, ahead of the names: the tables' words, and 'selects' of the private methods out of them =====
/-- a private method of a class that the tables say can be made, by its rows of tables_1 -/
def lw_okq (q : MethodName × Nat) : Prop := (q.1.cls ≠ "java/lang/invoke/MethodHandle" ∧ q.1.cls ≠ "java/lang/invoke/VarHandle") ∧ Cond.instantiable q.1.cls q.2 ∈ tables_1 ∧ Cond.privateMethod q.1 ∈ tables_1 ∧ Cond.instanceMethod q.1 ∈ tables_1
theorem lw_p0 : lw_okq (⟨"java/lang/Throwable", "fillInStackTrace", "(I)Ljava/lang/Throwable;"⟩, 6) := ⟨⟨by decide +kernel, by decide +kernel⟩, List.mem_of_getElem? (i := 74) (by decide +kernel), List.mem_of_getElem? (i := 72) (by decide +kernel), List.mem_of_getElem? (i := 73) (by decide +kernel)⟩
theorem lw_p1 : lw_okq (⟨"Siegelines$Ground", "bodyOverTop", "(I)I"⟩, 14) := ⟨⟨by decide +kernel, by decide +kernel⟩, List.mem_of_getElem? (i := 165) (by decide +kernel), List.mem_of_getElem? (i := 163) (by decide +kernel), List.mem_of_getElem? (i := 164) (by decide +kernel)⟩
theorem lw_p2 : lw_okq (⟨"Siegelines$Siege", "end", "(I)V"⟩, 17) := ⟨⟨by decide +kernel, by decide +kernel⟩, List.mem_of_getElem? (i := 231) (by decide +kernel), List.mem_of_getElem? (i := 229) (by decide +kernel), List.mem_of_getElem? (i := 230) (by decide +kernel)⟩
theorem lw_p3 : lw_okq (⟨"Siegelines$Post", "comeThrough", "()V"⟩, 7) := ⟨⟨by decide +kernel, by decide +kernel⟩, List.mem_of_getElem? (i := 411) (by decide +kernel), List.mem_of_getElem? (i := 409) (by decide +kernel), List.mem_of_getElem? (i := 410) (by decide +kernel)⟩
theorem lw_p4 : lw_okq (⟨"Siegelines", "sideFact", "(II)I"⟩, 2) := ⟨⟨by decide +kernel, by decide +kernel⟩, List.mem_of_getElem? (i := 432) (by decide +kernel), List.mem_of_getElem? (i := 430) (by decide +kernel), List.mem_of_getElem? (i := 431) (by decide +kernel)⟩
theorem lw_p5 : lw_okq (⟨"Siegelines", "siegeFact", "(I)I"⟩, 2) := ⟨⟨by decide +kernel, by decide +kernel⟩, List.mem_of_getElem? (i := 432) (by decide +kernel), List.mem_of_getElem? (i := 448) (by decide +kernel), List.mem_of_getElem? (i := 449) (by decide +kernel)⟩
theorem lw_p6 : lw_okq (⟨"Siegelines$Siege", "standsIn", "(I)Z"⟩, 17) := ⟨⟨by decide +kernel, by decide +kernel⟩, List.mem_of_getElem? (i := 231) (by decide +kernel), List.mem_of_getElem? (i := 456) (by decide +kernel), List.mem_of_getElem? (i := 457) (by decide +kernel)⟩
theorem lw_p7 : lw_okq (⟨"Siegelines$Siege", "standsAtBreach", "()Z"⟩, 17) := ⟨⟨by decide +kernel, by decide +kernel⟩, List.mem_of_getElem? (i := 231) (by decide +kernel), List.mem_of_getElem? (i := 462) (by decide +kernel), List.mem_of_getElem? (i := 463) (by decide +kernel)⟩
theorem lw_p8 : lw_okq (⟨"Siegelines", "squareFact", "(II)I"⟩, 2) := ⟨⟨by decide +kernel, by decide +kernel⟩, List.mem_of_getElem? (i := 432) (by decide +kernel), List.mem_of_getElem? (i := 485) (by decide +kernel), List.mem_of_getElem? (i := 486) (by decide +kernel)⟩
theorem lw_p9 : lw_okq (⟨"Siegelines", "gunFact", "(LSiegelines$Gun;I)I"⟩, 2) := ⟨⟨by decide +kernel, by decide +kernel⟩, List.mem_of_getElem? (i := 432) (by decide +kernel), List.mem_of_getElem? (i := 516) (by decide +kernel), List.mem_of_getElem? (i := 517) (by decide +kernel)⟩
theorem lw_p10 : lw_okq (⟨"Siegelines", "companyFact", "(LSiegelines$Company;I)I"⟩, 2) := ⟨⟨by decide +kernel, by decide +kernel⟩, List.mem_of_getElem? (i := 432) (by decide +kernel), List.mem_of_getElem? (i := 527) (by decide +kernel), List.mem_of_getElem? (i := 528) (by decide +kernel)⟩
theorem lw_p11 : lw_okq (⟨"Siegelines", "mineFact", "(LSiegelines$Mine;I)I"⟩, 2) := ⟨⟨by decide +kernel, by decide +kernel⟩, List.mem_of_getElem? (i := 432) (by decide +kernel), List.mem_of_getElem? (i := 535) (by decide +kernel), List.mem_of_getElem? (i := 536) (by decide +kernel)⟩
theorem lw_p12 : lw_okq (⟨"Siegelines$Siege", "isSideSound", "(I)Z"⟩, 17) := ⟨⟨by decide +kernel, by decide +kernel⟩, List.mem_of_getElem? (i := 231) (by decide +kernel), List.mem_of_getElem? (i := 553) (by decide +kernel), List.mem_of_getElem? (i := 554) (by decide +kernel)⟩
theorem lw_p13 : lw_okq (⟨"Siegelines$Siege", "areMenSound", "()Z"⟩, 17) := ⟨⟨by decide +kernel, by decide +kernel⟩, List.mem_of_getElem? (i := 231) (by decide +kernel), List.mem_of_getElem? (i := 558) (by decide +kernel), List.mem_of_getElem? (i := 559) (by decide +kernel)⟩
theorem lw_p14 : lw_okq (⟨"Siegelines$Siege", "isGroundSound", "()Z"⟩, 17) := ⟨⟨by decide +kernel, by decide +kernel⟩, List.mem_of_getElem? (i := 231) (by decide +kernel), List.mem_of_getElem? (i := 562) (by decide +kernel), List.mem_of_getElem? (i := 563) (by decide +kernel)⟩
theorem lw_p15 : lw_okq (⟨"Siegelines$Ground", "raiseFort", "()V"⟩, 14) := ⟨⟨by decide +kernel, by decide +kernel⟩, List.mem_of_getElem? (i := 165) (by decide +kernel), List.mem_of_getElem? (i := 1028) (by decide +kernel), List.mem_of_getElem? (i := 1029) (by decide +kernel)⟩
def lw_privs_1 : List (MethodName × Nat) := [(⟨"java/lang/Throwable", "fillInStackTrace", "(I)Ljava/lang/Throwable;"⟩, 6), (⟨"Siegelines$Ground", "bodyOverTop", "(I)I"⟩, 14), (⟨"Siegelines$Siege", "end", "(I)V"⟩, 17), (⟨"Siegelines$Post", "comeThrough", "()V"⟩, 7), (⟨"Siegelines", "sideFact", "(II)I"⟩, 2), (⟨"Siegelines", "siegeFact", "(I)I"⟩, 2), (⟨"Siegelines$Siege", "standsIn", "(I)Z"⟩, 17), (⟨"Siegelines$Siege", "standsAtBreach", "()Z"⟩, 17), (⟨"Siegelines", "squareFact", "(II)I"⟩, 2), (⟨"Siegelines", "gunFact", "(LSiegelines$Gun;I)I"⟩, 2), (⟨"Siegelines", "companyFact", "(LSiegelines$Company;I)I"⟩, 2), (⟨"Siegelines", "mineFact", "(LSiegelines$Mine;I)I"⟩, 2), (⟨"Siegelines$Siege", "isSideSound", "(I)Z"⟩, 17), (⟨"Siegelines$Siege", "areMenSound", "()Z"⟩, 17), (⟨"Siegelines$Siege", "isGroundSound", "()Z"⟩, 17), (⟨"Siegelines$Ground", "raiseFort", "()V"⟩, 14)]
theorem lw_r1 : ∀ q ∈ lw_privs_1, lw_okq q := List.forall_mem_cons.mpr ⟨lw_p0, List.forall_mem_cons.mpr ⟨lw_p1, List.forall_mem_cons.mpr ⟨lw_p2, List.forall_mem_cons.mpr ⟨lw_p3, List.forall_mem_cons.mpr ⟨lw_p4, List.forall_mem_cons.mpr ⟨lw_p5, List.forall_mem_cons.mpr ⟨lw_p6, List.forall_mem_cons.mpr ⟨lw_p7, List.forall_mem_cons.mpr ⟨lw_p8, List.forall_mem_cons.mpr ⟨lw_p9, List.forall_mem_cons.mpr ⟨lw_p10, List.forall_mem_cons.mpr ⟨lw_p11, List.forall_mem_cons.mpr ⟨lw_p12, List.forall_mem_cons.mpr ⟨lw_p13, List.forall_mem_cons.mpr ⟨lw_p14, List.forall_mem_cons.mpr ⟨lw_p15, fun _ h => absurd h List.not_mem_nil⟩⟩⟩⟩⟩⟩⟩⟩⟩⟩⟩⟩⟩⟩⟩⟩
theorem lw_p16 : lw_okq (⟨"Siegelines$Ground", "digDitch", "()V"⟩, 14) := ⟨⟨by decide +kernel, by decide +kernel⟩, List.mem_of_getElem? (i := 165) (by decide +kernel), List.mem_of_getElem? (i := 1032) (by decide +kernel), List.mem_of_getElem? (i := 1033) (by decide +kernel)⟩
theorem lw_p17 : lw_okq (⟨"Siegelines$Ground", "openGate", "()V"⟩, 14) := ⟨⟨by decide +kernel, by decide +kernel⟩, List.mem_of_getElem? (i := 165) (by decide +kernel), List.mem_of_getElem? (i := 1037) (by decide +kernel), List.mem_of_getElem? (i := 1038) (by decide +kernel)⟩
theorem lw_p18 : lw_okq (⟨"Siegelines", "signOf", "(I)C"⟩, 2) := ⟨⟨by decide +kernel, by decide +kernel⟩, List.mem_of_getElem? (i := 432) (by decide +kernel), List.mem_of_getElem? (i := 1121) (by decide +kernel), List.mem_of_getElem? (i := 1122) (by decide +kernel)⟩
def lw_privs_2 : List (MethodName × Nat) := [(⟨"Siegelines$Ground", "digDitch", "()V"⟩, 14), (⟨"Siegelines$Ground", "openGate", "()V"⟩, 14), (⟨"Siegelines", "signOf", "(I)C"⟩, 2)]
theorem lw_r2 : ∀ q ∈ lw_privs_2, lw_okq q := List.forall_mem_cons.mpr ⟨lw_p16, List.forall_mem_cons.mpr ⟨lw_p17, List.forall_mem_cons.mpr ⟨lw_p18, fun _ h => absurd h List.not_mem_nil⟩⟩⟩
def lw_privs : List (MethodName × Nat) := lw_privs_1 ++ (lw_privs_2)
def lw_tbl : List Cond := k2_sels lw_privs ++ tables_1
theorem lw_privs_ok : ∀ q ∈ lw_privs, lw_okq q := by
  show ∀ q ∈ lw_privs_1 ++ (lw_privs_2), lw_okq q
  exact List.forall_mem_append.mpr ⟨lw_r1, lw_r2⟩
-- ===== end of PART A; then your names; then what follows =====
end
section
/-! ===== BEGIN words of one list among another's, by their places ===== -/
theorem goodIn_r {big : List Cond} (ws : List Cond) (ps : List Nat) (hp : ws = ps.filterMap (fun i => big[i]?)) (h : ws.all goodWord = true) : GoodIn big ws := by
  intro w hw
  have h1 := List.all_eq_true.mp h w hw
  rw [hp] at hw
  obtain ⟨i, -, hi⟩ := List.mem_filterMap.mp hw
  have hm : w ∈ big := by first | exact List.mem_of_getElem? hi | exact List.getElem?_mem hi
  exact ⟨hm, good_of_word h1⟩
theorem goodIn_app {big a b : List Cond} (ha : GoodIn big a) (hb : GoodIn big b) : GoodIn big (a ++ b) := fun w h => (List.mem_append.mp h).elim (ha w) (hb w)
theorem goodIn_ca {big a b : List Cond} {c : Cond} (ha : GoodIn big (c :: a)) (hb : GoodIn big b) : GoodIn big (c :: (a ++ b)) := fun w h => (List.mem_cons.mp h).elim (fun e => ha w (List.mem_cons.mpr (Or.inl e))) (fun h => (List.mem_append.mp h).elim (fun h => ha w (List.mem_cons.mpr (Or.inr h))) (hb w))
theorem goodIn_sub {big ws : List Cond} (hm : ∀ w ∈ ws, w ∈ big) (h : ws.all goodWord = true) : GoodIn big ws := fun w hw => ⟨hm w hw, good_of_word (List.all_eq_true.mp h w hw)⟩
/-! ===== END ===== -/
/-! ===== BEGIN exceptions that leave a method, and their catching by the caller (launches without stack traces) ===== -/
section VXA
/-! The laws vx_back, vx_callV, vx_callS, vx_callSW, vx_throw0, vx_throwS follow proofs of the library, with one case more: JvmDerived/Free/Laws.lean (Back.of_free), Shelf42/LK1.lean (callV, callS), Shelf/KitTraced.lean (throwNew0V, throwNewS). -/
/-- where a method has thrown q: the class by its name, the cell, what was written, the world -/
def vx_T (XC : String → State → State → Prop) (st : State) (q : Addr) (t : State) (mc ms : Nat) (free : Addr → Prop) : Prop :=
  ∃ (E : String) (ce : Cell) (L : List Loc), XC E st t ∧ t.heap[q]? = some ce ∧ ce.vm = .none ∧ st.vm.findClass E = some ce.cls ∧ st.WarmedH t.vm ∧ st.sameButNew ({ t with vm := st.vm } : State) L mc ms ∧ ∀ z ∈ L, free z.base
def vx_Q (Qc : Array Value → State → Outcome → State → Prop) (XC : String → State → State → Prop) (mc ms : Nat) (free : Addr → Prop) : Array Value → State → Outcome → State → Prop := fun a st o t =>
  (Qc a st o t ∧ ∃ L, FrameEnd st o t L mc ms ∧ ∀ q ∈ L, free q.base) ∨ ∃ q, o = .threw q ∧ vx_T XC st q t mc ms free
/-- a callee that returns or throws -/
def vx_Met (l : Launch) (y : MethodName) (ws : List Cond) (rm : Room) (Pc : Array Value → State → Prop) (Qc : Array Value → State → Outcome → State → Prop) (XC : String → State → State → Prop) (mc ms : Nat) (free : Addr → Prop) : Prop :=
  MetFree l y (headSpec ws rm) Pc (fun _ _ _ _ _ => True) (vx_Q Qc XC mc ms free)
def vx_Post (XC : String → State → State → Prop) (mc ms : Nat) (free : Addr → Prop) : Pt → Array Value → Addr → Pt → Prop := fun A a q B =>
  ∃ (g : JFrame) (mk : MethodId) (t : State) (L : List Loc) (E : String) (ce : Cell), B.U.heap = t.heap ∧ B.U.vm = t.vm ∧ XC E (A.U.calling g mk a) t ∧ t.heap[q]? = some ce ∧ ce.vm = .none ∧ A.U.vm.findClass E = some ce.cls ∧ B.locs = A.locs ++ L ∧ (∀ z ∈ L, free z.base) ∧ B.cells = A.cells + mc ∧ B.slots = A.slots + ms
def vx_Back (l : Launch) (R : Room) (p : Program) (e : Env) (below : List Frame) (s : State) (sargs : Array Value) (y : MethodName) (len W9 : Nat)
    (Pre : Pt → Array Value → Prop) (Post : Pt → Array Value → Option Value → Pt → Prop) (PostX : Pt → Array Value → Addr → Pt → Prop) : Prop :=
  ∀ (m : MethodId) (meth : Method) (c : Code) (A : Pt) (g : JFrame) (ig : Instr) (mk : MethodId) (a : Array Value),
    Stand p l e R s m sargs below meth c A.U A.locs A.cells A.slots → g.method = m → g.locals.size = c.maxLocals → decode c.code g.pc = .ok (ig, len) →
    2 * g.monitorRoom + (g.stack.map fun v => v.category).sum ≤ W9 → A.U.methodNamed? y = some mk → Pre A a →
    (∃ (v : Option Value) (B : Pt), Stand p l e R s m sargs below meth c B.U B.locs B.cells B.slots ∧ Post A a v B ∧
      Steps p.tables e below (doInvoke e (A.U.setTop g) [] mk a).1 (B.U.setTop { g with pc := g.pc + len, stack := v.toList ++ g.stack })) ∨
    (∃ (q : Addr) (B : Pt), Stand p l e R s m sargs below meth c B.U B.locs B.cells B.slots ∧ PostX A a q B ∧
      Steps p.tables e below (doInvoke e (A.U.setTop g) [] mk a).1 ((B.U.setTop g).pushFrame (.throwing q)))
section Payer
variable {l : Launch} {R : Room} {p : Program} {e : Env} {below : List Frame} {s : State} {sargs : Array Value} {y : MethodName} {len W9 : Nat}
theorem vx_back {ws : List Cond} {rm : Room} {Pc : Array Value → State → Prop} {Qc : Array Value → State → Outcome → State → Prop} {XC : String → State → State → Prop} {mc ms : Nat} {free : Addr → Prop} {bytes : ByteArray} {maxL : Nat} {ret : Option FieldType}
    (hM : vx_Met l y ws rm Pc Qc XC mc ms free) (hblind : FrameBlind Pc) (hrc : rm.cells = mc) (hrs : rm.slots = ms)
    (hframes : rm.frames + 1 ≤ R.frames) (hlocals : W9 + (maxL + 11) + rm.locals ≤ R.locals)
    (hws : ∀ w ∈ ws, ∀ a' U, s.WarmedH U.vm → w.before a' U = true) (hcode : Cond.code y bytes maxL ret ∈ ws) (hinit : ∀ a' U, s.WarmedH U.vm → (Cond.initialized y.cls).before a' U = true) :
    vx_Back l R p e below s sargs y len W9 (PreOf R mc ms Pc) (PostOf Qc mc ms free) (vx_Post XC mc ms free) := by
  intro m meth c A g ig mk a X hg hsize hdg hW hn hp
  have h1 : (headSpec ws rm).pre.before a A.U = true := atoms_intro fun w hw => hws w hw _ _ X.warmed
  have h2 : (Cond.code y bytes maxL ret).before a A.U = true := hws _ hcode _ _ X.warmed
  have h3 : (Cond.initialized y.cls).before a A.U = true := hinit _ _ X.warmed
  have h4 : A.cells + (headSpec ws rm).room.cells ≤ R.cells := by rw [show (headSpec ws rm).room.cells = mc from hrc]; exact hp.1
  have h5 : A.slots + (headSpec ws rm).room.slots ≤ R.slots := by rw [show (headSpec ws rm).room.slots = ms from hrs]; exact hp.2.1
  have hPc : Pc a (A.U.calling g mk a) := hblind _ _ _ _ hp.2.2
  obtain ⟨U, Ls, c0, s0⟩ := A
  dsimp only [Pt.U, Pt.locs, Pt.cells, Pt.slots] at h1 h2 h3 h4 h5 X hn hPc ⊢
  obtain ⟨methY, cY, hmY, hcY, -, hlY, -, -, -, -⟩ := Cond.code_spec hn h2
  obtain ⟨kY, hkY, -⟩ := className_of_methodNamed hn
  have hinitY : kY.init = .initialized := Cond.initialized_spec (findClass_of_methodNamed hn) hkY h3
  have h : At U g.method c below := by rw [hg]; exact X.here
  have hlocals9 : W9 + (maxL + 11) + (headSpec ws rm).room.locals ≤ R.locals := hlocals
  have happ : (headSpec ws rm).appliesLoose y e.platform (U.calling g mk a) = true :=
    Spec.appliesLoose_calling (g := g) h hdg hn hkY hinitY
      (X.room_calling (g := g) (R' := (headSpec ws rm).room) hsize hmY hcY hframes (by rw [hlY]; omega) h4 h5) h1
  obtain ⟨mid, hmid⟩ := h.above
  have hfr : (U.setTop g).frames = (.java g :: mid) ++ below := by rw [State.frames_setTop' g h.top, hmid]; rfl
  obtain ⟨o, s₂, hsteps, -, hend, hq⟩ := Steps.callFree hM p X.admits X.cas X.clock (acts := []) hfr happ hPc trivial
  have hq' : vx_Q Qc XC mc ms free a (U.calling g mk a) o s₂ := hq
  rw [State.frames_setTop' g h.top] at hend
  obtain ⟨g₀, hg0⟩ := Option.isSome_iff_exists.mp h.top
  obtain ⟨r, hr⟩ := State.topJava?_eq_some.mp hg0
  have hr' : (({ U with heap := s₂.heap, slotsUsed := s₂.slotsUsed } : State).setVm s₂.vm).frames = .java g₀ :: r := hr
  rcases hq' with ⟨hqc, L, hfe, hL⟩ | ⟨q, rfl, E, ce, L, hx, hce, hcv, hcl, hW₂, hsm, hL⟩
  · obtain ⟨⟨v, rfl⟩, hW₂, e2, q2, q3, q4, q5, q6⟩ := id hfe
    have e3 : s₂ = ({ (U.calling g mk a).setFrames s₂.frames with heap := s₂.heap, slotsUsed := s₂.slotsUsed } : State).setVm s₂.vm := by
      have : s₂ = ({ s₂ with vm := (U.calling g mk a).vm } : State).setVm s₂.vm := rfl
      rw [e2] at this
      exact this
    obtain ⟨c₂, i₂, len₂, hc₂, hd₂, hf₂⟩ := hend
    have hW' : U.WarmedH s₂.vm := hW₂
    have hcc : c₂ = c := by
      have h1 : s₂.code? g.method = U.code? g.method := by
        rw [State.code?_eq, State.code?_eq, hW'.alike.method?]
      exact Option.some.inj (hc₂.symm.trans (h1.trans h.code))
    subst hcc
    have hlen : len₂ = len := by rw [hdg] at hd₂; cases hd₂; rfl
    subst hlen
    have hs₂ : s₂ = (({ U with heap := s₂.heap, slotsUsed := s₂.slotsUsed } : State).setVm s₂.vm).setTop { g with pc := g.pc + len₂, stack := v.toList ++ g.stack } := by
      refine e3.trans ?_
      rw [hf₂, State.calling_eq h.top, State.setFrames_setFrames, State.setTop_of_frames _ hr', hr]
      rfl
    have hsame : U.sameButNew ({ U with heap := s₂.heap, slotsUsed := s₂.slotsUsed } : State) L mc ms := by
      refine ⟨?_, q2, q3, q4, q5, q6⟩
      obtain ⟨t, ht, -⟩ := State.frames_cons hr
      show ({ U with heap := s₂.heap, slotsUsed := s₂.slotsUsed } : State) = { U.setFrames U.frames with heap := s₂.heap, slotsUsed := s₂.slotsUsed }
      rw [State.setFrames_self ht]
    subst hg
    refine Or.inl ⟨v, ⟨(({ U with heap := s₂.heap, slotsUsed := s₂.slotsUsed } : State).setVm s₂.vm), Ls ++ L, c0 + mc, s0 + ms⟩,
      ⟨X.admits, X.cas, X.clock, X.frames, X.room, X.hears, X.method, X.code, (X.here.setHeapUsed s₂.heap s₂.slotsUsed).setVm hW'.alike, X.tail, State.WarmedH.trans X.warmed hW', X.limits, X.bytes, X.same.trans (hsame.setVm s.vm)⟩,
      ⟨g, mk, s₂, L, rfl, rfl, hqc, rfl, hL, rfl, rfl⟩, ?_⟩
    show Steps p.tables e below _ ((({ U with heap := s₂.heap, slotsUsed := s₂.slotsUsed } : State).setVm s₂.vm).setTop { g with pc := g.pc + len₂, stack := v.toList ++ g.stack })
    rw [← hs₂]
    exact hsteps
  · obtain ⟨e2, q2, q3, q4, q5, q6⟩ := id hsm
    have e3 : s₂ = ({ (U.calling g mk a).setFrames s₂.frames with heap := s₂.heap, slotsUsed := s₂.slotsUsed } : State).setVm s₂.vm := by
      have : s₂ = ({ s₂ with vm := (U.calling g mk a).vm } : State).setVm s₂.vm := rfl
      rw [e2] at this
      exact this
    have hf₂ : s₂.frames = .throwing q :: .java g :: U.frames.tail := hend
    have hW' : U.WarmedH s₂.vm := hW₂
    have hs₂ : s₂ = ((({ U with heap := s₂.heap, slotsUsed := s₂.slotsUsed } : State).setVm s₂.vm).setTop g).pushFrame (.throwing q) := by
      refine e3.trans ?_
      rw [hf₂, State.calling_eq h.top, State.setFrames_setFrames, State.pushFrame, State.frames_setTop _ hr', State.setTop_of_frames _ hr', State.setFrames_setFrames, hr]
      rfl
    have hsame : U.sameButNew ({ U with heap := s₂.heap, slotsUsed := s₂.slotsUsed } : State) L mc ms := by
      refine ⟨?_, q2, q3, q4, q5, q6⟩
      obtain ⟨t, ht, -⟩ := State.frames_cons hr
      show ({ U with heap := s₂.heap, slotsUsed := s₂.slotsUsed } : State) = { U.setFrames U.frames with heap := s₂.heap, slotsUsed := s₂.slotsUsed }
      rw [State.setFrames_self ht]
    subst hg
    refine Or.inr ⟨q, ⟨(({ U with heap := s₂.heap, slotsUsed := s₂.slotsUsed } : State).setVm s₂.vm), Ls ++ L, c0 + mc, s0 + ms⟩,
      ⟨X.admits, X.cas, X.clock, X.frames, X.room, X.hears, X.method, X.code, (X.here.setHeapUsed s₂.heap s₂.slotsUsed).setVm hW'.alike, X.tail, State.WarmedH.trans X.warmed hW', X.limits, X.bytes, X.same.trans (hsame.setVm s.vm)⟩,
      ⟨g, mk, s₂, L, E, ce, rfl, rfl, hx, hce, hcv, hcl, rfl, hL, rfl, rfl⟩, ?_⟩
    show Steps p.tables e below _ (((({ U with heap := s₂.heap, slotsUsed := s₂.slotsUsed } : State).setVm s₂.vm).setTop g).pushFrame (.throwing q))
    rw [← hs₂]
    exact hsteps
end Payer
section Calls
variable {p : Program} {l : Launch} {e : Env} {R : Room} {s : State} {m : MethodId} {args : Array Value} {below : List Frame} {meth : Method} {c : Code} {T : State} {locs : List Loc} {cells slots : Nat}
theorem vx_callV (X : Stand p l e R s m args below meth c T locs cells slots) (hexec : p.tables.exec = Jvm.exec) {own C : String} {index : Nat} {y : MethodName} {bytes : ByteArray} {maxL : Nat} {ret : Option FieldType}
    (hown : s.vm.findClass own = some m.cls) (hlink : (Cond.methodLink own index y).before args s = true) (hinst : (Cond.instanceMethod y).before args s = true) (hsel : (Cond.selects C y y).before args s = true)
    (hcode : (Cond.code y bytes maxL ret).before args s = true) (hy : y.cls ≠ "java/lang/invoke/MethodHandle" ∧ y.cls ≠ "java/lang/invoke/VarHandle")
    {W9 : Nat} {Pre : Pt → Array Value → Prop} {Post : Pt → Array Value → Option Value → Pt → Prop} {PostX : Pt → Array Value → Addr → Pt → Prop} (hK : vx_Back l R p e below s args y 3 W9 Pre Post PostX)
    {b : Addr} {cellB : Cell} (hcell : T.heap[b]? = some cellB) (hobj : cellB.vm.isStatics = false) (hcls : s.vm.findClass C = some cellB.cls)
    {g : JFrame} (hg : g.method = m) (hsize : g.locals.size = c.maxLocals) {argsL rest : List Value} (hlen : ∀ sig, parseMethodDescriptor y.desc = some sig → argsL.length = sig.parameters.length)
    (hstack : g.stack = argsL.reverse ++ .ref b :: rest) (hW : 2 * g.monitorRoom + (rest.map fun v => v.category).sum ≤ W9) (hdg : decode c.code g.pc = .ok (.invokevirtual index, 3))
    (hpre : ∀ vm₁, s.WarmedH vm₁ → Pre ⟨T.setVm vm₁, locs, cells, slots⟩ (Value.ref b :: argsL).toArray) :
    (∃ (v : Option Value) (vm₁ : Vm) (B : Pt), s.WarmedH vm₁ ∧ Stand p l e R s m args below meth c B.U B.locs B.cells B.slots ∧ Post ⟨T.setVm vm₁, locs, cells, slots⟩ (Value.ref b :: argsL).toArray v B ∧
      ∀ target, Steps p.tables e below (B.U.setTop { g with pc := g.pc + 3, stack := v.toList ++ rest }) target → Steps p.tables e below (T.setTop g) target) ∨
    (∃ (q : Addr) (vm₁ : Vm) (B : Pt), s.WarmedH vm₁ ∧ Stand p l e R s m args below meth c B.U B.locs B.cells B.slots ∧ PostX ⟨T.setVm vm₁, locs, cells, slots⟩ (Value.ref b :: argsL).toArray q B ∧
      Steps p.tables e below (T.setTop g) ((B.U.setTop { g with stack := rest }).pushFrame (.throwing q))) := by
  obtain ⟨mk, methM, hnamed, hmethM, hstM, habM⟩ := Cond.instanceMethod_spec hinst
  obtain ⟨methM', cM, hmethM', -, -, -, -, -, -, hsigM⟩ := Cond.code_spec hnamed hcode
  cases hmethM.symm.trans hmethM'
  obtain ⟨c2, r2, m2, q1, q2, q3, q4, kP, hkP, hkPi⟩ := Cond.selects_spec hsel
  cases hcls.symm.trans q1
  cases (State.methodFound?_of_named hnamed hy).symm.trans q2
  cases hnamed.symm.trans q3
  have hselP : selectMethod e.platform s.vm cellB.cls mk = .method mk := by rw [Launch.admits_selectMethod X.admits]; exact q4
  obtain ⟨vm₁, X₁, hstep₁⟩ := X.invokevirtual hexec hown hlink hnamed hmethM hstM hkP hkPi hy (a := b) (cell := cellB) hcell
    (fun z h => by rw [h] at hobj; cases hobj) hselP hmethM habM hkP hkPi (g := g) hg (argsL := argsL) (rest := rest) (hlen _ hsigM) hstack hdg
  rcases hK m meth c ⟨T.setVm vm₁, locs, cells, slots⟩ { g with stack := rest } (.invokevirtual index) mk (Value.ref b :: argsL).toArray X₁ hg hsize hdg hW (X₁.named hnamed) (hpre vm₁ X₁.warmed) with ⟨v, B, X', hpost, hsteps⟩ | ⟨q, B, X', hpost, hsteps⟩
  · exact Or.inl ⟨v, vm₁, B, X₁.warmed, X', hpost, fun target h => hstep₁ _ fun acts => by rw [doInvoke_state]; exact hsteps.trans h⟩
  · exact Or.inr ⟨q, vm₁, B, X₁.warmed, X', hpost, hstep₁ _ fun acts => by rw [doInvoke_state]; exact hsteps⟩
theorem vx_callS (X : Stand p l e R s m args below meth c T locs cells slots) (hexec : p.tables.exec = Jvm.exec) {own : String} {index : Nat} {y : MethodName} {bytes : ByteArray} {maxL : Nat} {ret : Option FieldType}
    (hown : s.vm.findClass own = some m.cls) (hlink : (Cond.methodLink own index y).before args s = true) (hstat : (Cond.static y).before args s = true) (hinit : (Cond.initialized y.cls).before args s = true)
    (hcode : (Cond.code y bytes maxL ret).before args s = true) (hy : y.cls ≠ "java/lang/invoke/MethodHandle" ∧ y.cls ≠ "java/lang/invoke/VarHandle")
    {W9 : Nat} {Pre : Pt → Array Value → Prop} {Post : Pt → Array Value → Option Value → Pt → Prop} {PostX : Pt → Array Value → Addr → Pt → Prop} (hK : vx_Back l R p e below s args y 3 W9 Pre Post PostX)
    {g : JFrame} (hg : g.method = m) (hsize : g.locals.size = c.maxLocals) {argsL rest : List Value} (hlen : ∀ sig, parseMethodDescriptor y.desc = some sig → argsL.length = sig.parameters.length)
    (hstack : g.stack = argsL.reverse ++ rest) (hW : 2 * g.monitorRoom + (rest.map fun v => v.category).sum ≤ W9) (hdg : decode c.code g.pc = .ok (.invokestatic index, 3))
    (hpre : ∀ vm₁, s.WarmedH vm₁ → Pre ⟨T.setVm vm₁, locs, cells, slots⟩ argsL.toArray) :
    (∃ (v : Option Value) (vm₁ : Vm) (B : Pt), s.WarmedH vm₁ ∧ Stand p l e R s m args below meth c B.U B.locs B.cells B.slots ∧ Post ⟨T.setVm vm₁, locs, cells, slots⟩ argsL.toArray v B ∧
      ∀ target, Steps p.tables e below (B.U.setTop { g with pc := g.pc + 3, stack := v.toList ++ rest }) target → Steps p.tables e below (T.setTop g) target) ∨
    (∃ (q : Addr) (vm₁ : Vm) (B : Pt), s.WarmedH vm₁ ∧ Stand p l e R s m args below meth c B.U B.locs B.cells B.slots ∧ PostX ⟨T.setVm vm₁, locs, cells, slots⟩ argsL.toArray q B ∧
      Steps p.tables e below (T.setTop g) ((B.U.setTop { g with stack := rest }).pushFrame (.throwing q))) := by
  obtain ⟨mk, hnamed⟩ := Cond.code_named hcode
  obtain ⟨methM, cM, hmethM, -, -, -, -, -, -, hsigM⟩ := Cond.code_spec hnamed hcode
  have hstatic : methM.isStatic = true := Cond.static_spec hnamed hmethM hstat
  obtain ⟨kP, hkP, -⟩ := className_of_methodNamed hnamed
  have hinitP : kP.init = .initialized := Cond.initialized_spec (findClass_of_methodNamed hnamed) hkP hinit
  obtain ⟨vm₁, X₁, hstep₁⟩ := X.invokestatic hexec hown hlink hnamed hmethM hstatic hkP hinitP hy (g := g) hg (argsL := argsL) (rest := rest) (hlen _ hsigM) hstack hdg
  rcases hK m meth c ⟨T.setVm vm₁, locs, cells, slots⟩ { g with stack := rest } (.invokestatic index) mk argsL.toArray X₁ hg hsize hdg hW (X₁.named hnamed) (hpre vm₁ X₁.warmed) with ⟨v, B, X', hpost, hsteps⟩ | ⟨q, B, X', hpost, hsteps⟩
  · exact Or.inl ⟨v, vm₁, B, X₁.warmed, X', hpost, fun target h => hstep₁ _ fun acts => by rw [doInvoke_state]; exact hsteps.trans h⟩
  · exact Or.inr ⟨q, vm₁, B, X₁.warmed, X', hpost, hstep₁ _ fun acts => by rw [doInvoke_state]; exact hsteps⟩
end Calls
theorem vx_cls {s : State} {T : State} {vm₁ : Vm} {E : String} {k : ClassId} (hW : s.WarmedH vm₁) (h : (T.setVm vm₁).vm.findClass E = some k) : s.vm.findClass E = some k := by
  have h1 : vm₁.findClass E = some k := h
  rw [hW.alike.findClass] at h1
  exact h1
/-- the method's frame g, with q thrown over it -/
def vx_W (p : Program) (l : Launch) (e : Env) (R : Room) (s : State) (m : MethodId) (args : Array Value) (below : List Frame) (meth : Method) (c : Code) (H : Heap) (locs : List Loc) (cells slots : Nat) (Q : State → Prop) (g : JFrame) (q : Addr) : Prop :=
  ∀ T : State, T.heap = H → Stand p l e R s m args below meth c T locs cells slots → ∃ t, Steps p.tables e below ((T.setTop g).pushFrame (.throwing q)) t ∧ Q t
def vx_Run (p : Program) (l : Launch) (e : Env) (R : Room) (s : State) (m : MethodId) (args : Array Value) (below : List Frame) (meth : Method) (c : Code) (H : Heap) (locs : List Loc) (cells slots mc ms : Nat) (g : JFrame) (rest : List Value) (Qa : State → Outcome → State → Prop) (XC : String → State → State → Prop) (free : Addr → Prop) : Prop :=
  ∀ T : State, T.heap = H → Stand p l e R s m args below meth c T locs cells slots →
    (∃ (v : Option Value) (st₀ t T' : State) (L : List Loc), st₀.heap = H ∧ Stand p l e R s m args below meth c T' (locs ++ L) (cells + mc) (slots + ms) ∧ (∀ q ∈ L, free q.base) ∧ T'.heap = t.heap ∧ T'.vm = t.vm ∧ Qa st₀ (.returned v) t ∧
      Goes p e below T g T' { g with pc := g.pc + 3, stack := v.toList ++ rest }) ∨
    (∃ (q : Addr) (st₀ t T' : State) (L : List Loc) (E : String) (ce : Cell), st₀.heap = H ∧ Stand p l e R s m args below meth c T' (locs ++ L) (cells + mc) (slots + ms) ∧ (∀ z ∈ L, free z.base) ∧ T'.heap = t.heap ∧ T'.vm = t.vm ∧ XC E st₀ t ∧ t.heap[q]? = some ce ∧ ce.vm = .none ∧ s.vm.findClass E = some ce.cls ∧
      Steps p.tables e below (T.setTop g) ((T'.setTop { g with stack := rest }).pushFrame (.throwing q)))
def vx_X {S : Type} (px : S → Prop) (B : String → S → State → Prop) (A : Nat → Prop) : String → State → State → Prop := fun E st t => ∃ u : S, px u ∧ B E u t ∧ va_F A st t
section Runs
variable {p : Program} {l : Launch} {e : Env} {R : Room} {s : State} {m : MethodId} {args : Array Value} {below : List Frame} {meth : Method} {c : Code} {H : Heap} {locs : List Loc} {cells slots : Nat}
variable {y : MethodName} {bytes cc : ByteArray} {maxL nL mc ms n index : Nat} {ret : Option FieldType} {ws : List Cond} {rm : Room} {Pc : Array Value → State → Prop} {Qc : Array Value → State → Outcome → State → Prop} {XC : String → State → State → Prop} {free : Addr → Prop} {Ts : List Cond} {own C : String} {b : Addr} {As rest : List Value} {g : JFrame}
theorem vx_callBack (cb : CallB R s args own index y bytes maxL ret ws rm mc ms n) (hM : vx_Met l y ws rm Pc Qc XC mc ms free) (hbl : FrameBlind Pc) : vx_Back l R p e below s args y 3 8 (PreOf R mc ms Pc) (PostOf Qc mc ms free) (vx_Post XC mc ms free) := by
  obtain ⟨hrc, hrs, hfr, hlo, hws, hcw, -, hini, -⟩ := cb
  exact vx_back (bytes := bytes) (maxL := maxL) (ret := ret) hM hbl hrc hrs hfr hlo hws hcw (fun a' U hW => word_at hW (Or.inl (by first | rfl | simp [Cond.onTables, Cond.keeps, Cond.steady])) hini)
theorem vx_runV (S : CallFix p m c cc nL s args Ts own) (hM : vx_Met l y ws rm Pc Qc XC mc ms free) (cw : CallW R s args own C index y bytes maxL ret ws rm mc ms n) (hp : PreV s H C b Pc As)
    (hg : g.method = m) (hn : As.length = n) (hsize : g.locals.size = nL) (hstack : g.stack = As.reverse ++ .ref b :: rest) (hW : 2 * g.monitorRoom + (rest.map fun v => v.category).sum ≤ 8) (hdg : decode cc g.pc = .ok (.invokevirtual index, 3)) (hf : cells + mc ≤ R.cells ∧ slots + ms ≤ R.slots) :
    vx_Run p l e R s m args below meth c H locs cells slots mc ms g rest (Qc (Value.ref b :: As).toArray) XC free := by
  have hK : vx_Back l R p e below s args y 3 8 (PreOf R mc ms Pc) (PostOf Qc mc ms free) (vx_Post XC mc ms free) := vx_callBack cw.1 hM hp.1
  obtain ⟨⟨-, -, -, -, -, -, hcode, -, hy, hlen, hl⟩, hin, hse⟩ := cw
  obtain ⟨hx, hb, hml, ho, -⟩ := S
  obtain ⟨-, ⟨cellB, hcB, hoB, hclB⟩, hPc⟩ := hp
  intro T hT X
  rcases vx_callV X hx (C := C) (bytes := bytes) (maxL := maxL) (ret := ret) ho hl hin hse hcode hy hK (by rw [hT]; exact hcB) hoB hclB hg (hsize.trans hml.symm) (argsL := As) (rest := rest) (fun sig h => hn.trans (hlen sig h)) hstack hW (by rw [hb]; exact hdg)
    (fun vm₁ hW₁ => ⟨hf.1, hf.2, hPc (T.setVm vm₁) hT hW₁⟩) with ⟨v, vm₁, ⟨U', l2, c2, s2⟩, hW₁, X', ⟨g', mk, t, L, e1, e2, hq, h1, hL, h2, h3⟩, st⟩ | ⟨q, vm₁, ⟨U', l2, c2, s2⟩, hW₁, X', ⟨g', mk, t, L, E, ce, e1, e2, hq, hce, hcv, hcl, h1, hL, h2, h3⟩, st⟩
  · dsimp only [Pt.U, Pt.locs, Pt.cells, Pt.slots] at X' e1 e2 h1 h2 h3 st
    subst h1; subst h2; subst h3
    exact Or.inl ⟨v, (T.setVm vm₁).calling g' mk (Value.ref b :: As).toArray, t, U', L, hT, X', hL, e1, e2, hq, st⟩
  · dsimp only [Pt.U, Pt.locs, Pt.cells, Pt.slots] at X' e1 e2 h1 h2 h3 st hcl
    subst h1; subst h2; subst h3
    exact Or.inr ⟨q, (T.setVm vm₁).calling g' mk (Value.ref b :: As).toArray, t, U', L, E, ce, hT, X', hL, e1, e2, hq, hce, hcv, vx_cls hW₁ hcl, st⟩
theorem vx_runS (S : CallFix p m c cc nL s args Ts own) (hM : vx_Met l y ws rm Pc Qc XC mc ms free) (cw : CallB R s args own index y bytes maxL ret ws rm mc ms n ∧ (Cond.static y).before args s = true) (hp : PreS s H Pc As)
    (hg : g.method = m) (hn : As.length = n) (hsize : g.locals.size = nL) (hstack : g.stack = As.reverse ++ rest) (hW : 2 * g.monitorRoom + (rest.map fun v => v.category).sum ≤ 8) (hdg : decode cc g.pc = .ok (.invokestatic index, 3)) (hf : cells + mc ≤ R.cells ∧ slots + ms ≤ R.slots) :
    vx_Run p l e R s m args below meth c H locs cells slots mc ms g rest (Qc As.toArray) XC free := by
  have hK : vx_Back l R p e below s args y 3 8 (PreOf R mc ms Pc) (PostOf Qc mc ms free) (vx_Post XC mc ms free) := vx_callBack cw.1 hM hp.1
  obtain ⟨⟨-, -, -, -, -, -, hcode, hini, hy, hlen, hl⟩, hstt⟩ := cw
  obtain ⟨hx, hb, hml, ho, -⟩ := S
  intro T hT X
  rcases vx_callS X hx (bytes := bytes) (maxL := maxL) (ret := ret) ho hl hstt hini hcode hy hK hg (hsize.trans hml.symm) (argsL := As) (rest := rest) (fun sig h => hn.trans (hlen sig h)) hstack hW (by rw [hb]; exact hdg)
    (fun vm₁ hW₁ => ⟨hf.1, hf.2, hp.2 (T.setVm vm₁) hT hW₁⟩) with ⟨v, vm₁, ⟨U', l2, c2, s2⟩, hW₁, X', ⟨g', mk, t, L, e1, e2, hq, h1, hL, h2, h3⟩, st⟩ | ⟨q, vm₁, ⟨U', l2, c2, s2⟩, hW₁, X', ⟨g', mk, t, L, E, ce, e1, e2, hq, hce, hcv, hcl, h1, hL, h2, h3⟩, st⟩
  · dsimp only [Pt.U, Pt.locs, Pt.cells, Pt.slots] at X' e1 e2 h1 h2 h3 st
    subst h1; subst h2; subst h3
    exact Or.inl ⟨v, (T.setVm vm₁).calling g' mk As.toArray, t, U', L, hT, X', hL, e1, e2, hq, st⟩
  · dsimp only [Pt.U, Pt.locs, Pt.cells, Pt.slots] at X' e1 e2 h1 h2 h3 st hcl
    subst h1; subst h2; subst h3
    exact Or.inr ⟨q, (T.setVm vm₁).calling g' mk As.toArray, t, U', L, E, ce, hT, X', hL, e1, e2, hq, hce, hcv, vx_cls hW₁ hcl, st⟩
end Runs
section Rows
variable {p : Program} {l : Launch} {e : Env} {R : Room} {s : State} {m : MethodId} {args : Array Value} {below : List Frame} {meth : Method} {c : Code} {H : Heap} {locs : List Loc} {cells slots : Nat} {Q : State → Prop}
variable {mc ms : Nat} {free : Addr → Prop} {A0 A1 : Nat → Prop} {H0 : Heap} {a : Array Value} {pc : Nat} {ls : Array Slot} {st0 rest : List Value}
theorem vx_keep {st₀ t T' : State} {L : List Loc} (h0 : st₀.heap = H) (e1 : T'.heap = t.heap) (hS : va_S A0 H0 H locs) (hA : ∀ q, q < H.size → A1 q → A0 q) (hf : ∀ q, free q → A0 q) (hL : ∀ q ∈ L, free q.base) (hF : va_F A1 st₀ t) :
    H.size ≤ T'.heap.size ∧ (∀ q : Nat, q < H.size → ¬ A1 q → T'.heap[q]? = H[q]?) ∧ va_S A0 H0 T'.heap (locs ++ L) := by
  obtain ⟨hz, hk⟩ := hF
  rw [h0] at hz hk
  exact ⟨by rw [e1]; exact hz, fun q h1 h2 => by rw [e1]; exact hk q h1 h2,
    ⟨Nat.le_trans hS.1 (by rw [e1]; exact hz), fun q h1 h2 => by rw [e1, hk q (Nat.lt_of_lt_of_le h1 hS.1) (fun z => h2 (hA q (Nat.lt_of_lt_of_le h1 hS.1) z))]; exact hS.2.1 q h1 h2, fun q hq => by
      rcases List.mem_append.mp hq with h | h
      · exact hS.2.2 q h
      · exact hf _ (hL q h)⟩⟩
theorem vx_calli {S SX : Type} {post : Int32 → S → Prop} {px : SX → Prop} {B : S → State → Prop} {BX : String → SX → State → Prop} {AX : Nat → Prop} (hr : vx_Run p l e R s m args below meth c H locs cells slots mc ms (F0 m pc ls st0) rest (va_Qi post B A1 a) (vx_X px BX AX) free) (hS : va_S A0 H0 H locs) (hA : ∀ q, q < H.size → A1 q → A0 q) (hf : ∀ q, free q → A0 q) (hAX : ∀ q, q < H.size → AX q → A0 q)
    (kx : ∀ (E : String) (ce : Cell) (q9 : Addr) (u : SX) (t : State) (H1 : Heap) (locs1 : List Loc), t.heap = H1 → s.vm.Alike t.vm → px u → BX E u t → H.size ≤ H1.size → (∀ q : Nat, q < H.size → ¬ AX q → H1[q]? = H[q]?) → va_S A0 H0 H1 locs1 → H1[q9]? = some ce → ce.vm = .none → s.vm.findClass E = some ce.cls → vx_W p l e R s m args below meth c H1 locs1 (cells + mc) (slots + ms) Q (F0 m pc ls rest) q9)
    (kk : ∀ (r : Int32) (u : S) (t : State) (H1 : Heap) (locs1 : List Loc), t.heap = H1 → s.vm.Alike t.vm → post r u → B u t → H.size ≤ H1.size → (∀ q : Nat, q < H.size → ¬ A1 q → H1[q]? = H[q]?) → va_S A0 H0 H1 locs1 → W p l e R s m args below meth c H1 locs1 (cells + mc) (slots + ms) Q (F0 m (pc + 3) ls (.int r :: rest))) : W p l e R s m args below meth c H locs cells slots Q (F0 m pc ls st0) := by
  intro T hT X
  rcases hr T hT X with ⟨v, st₀, t, T', L, h0, X', hL, e1, e2, ⟨⟨r, u, hv, hp, hb⟩, hF⟩, st⟩ | ⟨q, st₀, t, T', L, E, ce, h0, X', hL, e1, e2, ⟨u, hp, hb, hF⟩, hce, hcv, hcl, st⟩
  · cases hv
    obtain ⟨k1, k2, k3⟩ := vx_keep h0 e1 hS hA hf hL hF
    obtain ⟨t2, a1, b1⟩ := kk r u t T'.heap (locs ++ L) e1.symm (by rw [← e2]; exact X'.warmed.alike) hp hb k1 k2 k3 T' rfl X'
    exact ⟨t2, st t2 a1, b1⟩
  · obtain ⟨k1, k2, k3⟩ := vx_keep h0 e1 hS hAX hf hL hF
    obtain ⟨t2, a1, b1⟩ := kx E ce q u t T'.heap (locs ++ L) e1.symm (by rw [← e2]; exact X'.warmed.alike) hp hb k1 k2 k3 (by rw [e1]; exact hce) hcv hcl T' rfl X'
    exact ⟨t2, st.trans a1, b1⟩
theorem vx_calll {S SX : Type} {post : Int64 → S → Prop} {px : SX → Prop} {B : S → State → Prop} {BX : String → SX → State → Prop} {AX : Nat → Prop} (hr : vx_Run p l e R s m args below meth c H locs cells slots mc ms (F0 m pc ls st0) rest (va_Ql post B A1 a) (vx_X px BX AX) free) (hS : va_S A0 H0 H locs) (hA : ∀ q, q < H.size → A1 q → A0 q) (hf : ∀ q, free q → A0 q) (hAX : ∀ q, q < H.size → AX q → A0 q)
    (kx : ∀ (E : String) (ce : Cell) (q9 : Addr) (u : SX) (t : State) (H1 : Heap) (locs1 : List Loc), t.heap = H1 → s.vm.Alike t.vm → px u → BX E u t → H.size ≤ H1.size → (∀ q : Nat, q < H.size → ¬ AX q → H1[q]? = H[q]?) → va_S A0 H0 H1 locs1 → H1[q9]? = some ce → ce.vm = .none → s.vm.findClass E = some ce.cls → vx_W p l e R s m args below meth c H1 locs1 (cells + mc) (slots + ms) Q (F0 m pc ls rest) q9)
    (kk : ∀ (r : Int64) (u : S) (t : State) (H1 : Heap) (locs1 : List Loc), t.heap = H1 → s.vm.Alike t.vm → post r u → B u t → H.size ≤ H1.size → (∀ q : Nat, q < H.size → ¬ A1 q → H1[q]? = H[q]?) → va_S A0 H0 H1 locs1 → W p l e R s m args below meth c H1 locs1 (cells + mc) (slots + ms) Q (F0 m (pc + 3) ls (.long r :: rest))) : W p l e R s m args below meth c H locs cells slots Q (F0 m pc ls st0) := by
  intro T hT X
  rcases hr T hT X with ⟨v, st₀, t, T', L, h0, X', hL, e1, e2, ⟨⟨r, u, hv, hp, hb⟩, hF⟩, st⟩ | ⟨q, st₀, t, T', L, E, ce, h0, X', hL, e1, e2, ⟨u, hp, hb, hF⟩, hce, hcv, hcl, st⟩
  · cases hv
    obtain ⟨k1, k2, k3⟩ := vx_keep h0 e1 hS hA hf hL hF
    obtain ⟨t2, a1, b1⟩ := kk r u t T'.heap (locs ++ L) e1.symm (by rw [← e2]; exact X'.warmed.alike) hp hb k1 k2 k3 T' rfl X'
    exact ⟨t2, st t2 a1, b1⟩
  · obtain ⟨k1, k2, k3⟩ := vx_keep h0 e1 hS hAX hf hL hF
    obtain ⟨t2, a1, b1⟩ := kx E ce q u t T'.heap (locs ++ L) e1.symm (by rw [← e2]; exact X'.warmed.alike) hp hb k1 k2 k3 (by rw [e1]; exact hce) hcv hcl T' rfl X'
    exact ⟨t2, st.trans a1, b1⟩
theorem vx_callf {S SX : Type} {post : UInt32 → S → Prop} {px : SX → Prop} {B : S → State → Prop} {BX : String → SX → State → Prop} {AX : Nat → Prop} (hr : vx_Run p l e R s m args below meth c H locs cells slots mc ms (F0 m pc ls st0) rest (va_Qf post B A1 a) (vx_X px BX AX) free) (hS : va_S A0 H0 H locs) (hA : ∀ q, q < H.size → A1 q → A0 q) (hf : ∀ q, free q → A0 q) (hAX : ∀ q, q < H.size → AX q → A0 q)
    (kx : ∀ (E : String) (ce : Cell) (q9 : Addr) (u : SX) (t : State) (H1 : Heap) (locs1 : List Loc), t.heap = H1 → s.vm.Alike t.vm → px u → BX E u t → H.size ≤ H1.size → (∀ q : Nat, q < H.size → ¬ AX q → H1[q]? = H[q]?) → va_S A0 H0 H1 locs1 → H1[q9]? = some ce → ce.vm = .none → s.vm.findClass E = some ce.cls → vx_W p l e R s m args below meth c H1 locs1 (cells + mc) (slots + ms) Q (F0 m pc ls rest) q9)
    (kk : ∀ (r : UInt32) (u : S) (t : State) (H1 : Heap) (locs1 : List Loc), t.heap = H1 → s.vm.Alike t.vm → post r u → B u t → H.size ≤ H1.size → (∀ q : Nat, q < H.size → ¬ A1 q → H1[q]? = H[q]?) → va_S A0 H0 H1 locs1 → W p l e R s m args below meth c H1 locs1 (cells + mc) (slots + ms) Q (F0 m (pc + 3) ls (.float r :: rest))) : W p l e R s m args below meth c H locs cells slots Q (F0 m pc ls st0) := by
  intro T hT X
  rcases hr T hT X with ⟨v, st₀, t, T', L, h0, X', hL, e1, e2, ⟨⟨r, u, hv, hp, hb⟩, hF⟩, st⟩ | ⟨q, st₀, t, T', L, E, ce, h0, X', hL, e1, e2, ⟨u, hp, hb, hF⟩, hce, hcv, hcl, st⟩
  · cases hv
    obtain ⟨k1, k2, k3⟩ := vx_keep h0 e1 hS hA hf hL hF
    obtain ⟨t2, a1, b1⟩ := kk r u t T'.heap (locs ++ L) e1.symm (by rw [← e2]; exact X'.warmed.alike) hp hb k1 k2 k3 T' rfl X'
    exact ⟨t2, st t2 a1, b1⟩
  · obtain ⟨k1, k2, k3⟩ := vx_keep h0 e1 hS hAX hf hL hF
    obtain ⟨t2, a1, b1⟩ := kx E ce q u t T'.heap (locs ++ L) e1.symm (by rw [← e2]; exact X'.warmed.alike) hp hb k1 k2 k3 (by rw [e1]; exact hce) hcv hcl T' rfl X'
    exact ⟨t2, st.trans a1, b1⟩
theorem vx_calld {S SX : Type} {post : UInt64 → S → Prop} {px : SX → Prop} {B : S → State → Prop} {BX : String → SX → State → Prop} {AX : Nat → Prop} (hr : vx_Run p l e R s m args below meth c H locs cells slots mc ms (F0 m pc ls st0) rest (va_Qd post B A1 a) (vx_X px BX AX) free) (hS : va_S A0 H0 H locs) (hA : ∀ q, q < H.size → A1 q → A0 q) (hf : ∀ q, free q → A0 q) (hAX : ∀ q, q < H.size → AX q → A0 q)
    (kx : ∀ (E : String) (ce : Cell) (q9 : Addr) (u : SX) (t : State) (H1 : Heap) (locs1 : List Loc), t.heap = H1 → s.vm.Alike t.vm → px u → BX E u t → H.size ≤ H1.size → (∀ q : Nat, q < H.size → ¬ AX q → H1[q]? = H[q]?) → va_S A0 H0 H1 locs1 → H1[q9]? = some ce → ce.vm = .none → s.vm.findClass E = some ce.cls → vx_W p l e R s m args below meth c H1 locs1 (cells + mc) (slots + ms) Q (F0 m pc ls rest) q9)
    (kk : ∀ (r : UInt64) (u : S) (t : State) (H1 : Heap) (locs1 : List Loc), t.heap = H1 → s.vm.Alike t.vm → post r u → B u t → H.size ≤ H1.size → (∀ q : Nat, q < H.size → ¬ A1 q → H1[q]? = H[q]?) → va_S A0 H0 H1 locs1 → W p l e R s m args below meth c H1 locs1 (cells + mc) (slots + ms) Q (F0 m (pc + 3) ls (.double r :: rest))) : W p l e R s m args below meth c H locs cells slots Q (F0 m pc ls st0) := by
  intro T hT X
  rcases hr T hT X with ⟨v, st₀, t, T', L, h0, X', hL, e1, e2, ⟨⟨r, u, hv, hp, hb⟩, hF⟩, st⟩ | ⟨q, st₀, t, T', L, E, ce, h0, X', hL, e1, e2, ⟨u, hp, hb, hF⟩, hce, hcv, hcl, st⟩
  · cases hv
    obtain ⟨k1, k2, k3⟩ := vx_keep h0 e1 hS hA hf hL hF
    obtain ⟨t2, a1, b1⟩ := kk r u t T'.heap (locs ++ L) e1.symm (by rw [← e2]; exact X'.warmed.alike) hp hb k1 k2 k3 T' rfl X'
    exact ⟨t2, st t2 a1, b1⟩
  · obtain ⟨k1, k2, k3⟩ := vx_keep h0 e1 hS hAX hf hL hF
    obtain ⟨t2, a1, b1⟩ := kx E ce q u t T'.heap (locs ++ L) e1.symm (by rw [← e2]; exact X'.warmed.alike) hp hb k1 k2 k3 (by rw [e1]; exact hce) hcv hcl T' rfl X'
    exact ⟨t2, st.trans a1, b1⟩
theorem vx_callv {S SX : Type} {post : S → Prop} {px : SX → Prop} {B : S → State → Prop} {BX : String → SX → State → Prop} {AX : Nat → Prop} (hr : vx_Run p l e R s m args below meth c H locs cells slots mc ms (F0 m pc ls st0) rest (va_Qv post B A1 a) (vx_X px BX AX) free) (hS : va_S A0 H0 H locs) (hA : ∀ q, q < H.size → A1 q → A0 q) (hf : ∀ q, free q → A0 q) (hAX : ∀ q, q < H.size → AX q → A0 q)
    (kx : ∀ (E : String) (ce : Cell) (q9 : Addr) (u : SX) (t : State) (H1 : Heap) (locs1 : List Loc), t.heap = H1 → s.vm.Alike t.vm → px u → BX E u t → H.size ≤ H1.size → (∀ q : Nat, q < H.size → ¬ AX q → H1[q]? = H[q]?) → va_S A0 H0 H1 locs1 → H1[q9]? = some ce → ce.vm = .none → s.vm.findClass E = some ce.cls → vx_W p l e R s m args below meth c H1 locs1 (cells + mc) (slots + ms) Q (F0 m pc ls rest) q9)
    (kk : ∀ (u : S) (t : State) (H1 : Heap) (locs1 : List Loc), t.heap = H1 → s.vm.Alike t.vm → post u → B u t → H.size ≤ H1.size → (∀ q : Nat, q < H.size → ¬ A1 q → H1[q]? = H[q]?) → va_S A0 H0 H1 locs1 → W p l e R s m args below meth c H1 locs1 (cells + mc) (slots + ms) Q (F0 m (pc + 3) ls (rest))) : W p l e R s m args below meth c H locs cells slots Q (F0 m pc ls st0) := by
  intro T hT X
  rcases hr T hT X with ⟨v, st₀, t, T', L, h0, X', hL, e1, e2, ⟨⟨u, hv, hp, hb⟩, hF⟩, st⟩ | ⟨q, st₀, t, T', L, E, ce, h0, X', hL, e1, e2, ⟨u, hp, hb, hF⟩, hce, hcv, hcl, st⟩
  · cases hv
    obtain ⟨k1, k2, k3⟩ := vx_keep h0 e1 hS hA hf hL hF
    obtain ⟨t2, a1, b1⟩ := kk u t T'.heap (locs ++ L) e1.symm (by rw [← e2]; exact X'.warmed.alike) hp hb k1 k2 k3 T' rfl X'
    exact ⟨t2, st t2 a1, b1⟩
  · obtain ⟨k1, k2, k3⟩ := vx_keep h0 e1 hS hAX hf hL hF
    obtain ⟨t2, a1, b1⟩ := kx E ce q u t T'.heap (locs ++ L) e1.symm (by rw [← e2]; exact X'.warmed.alike) hp hb k1 k2 k3 (by rw [e1]; exact hce) hcv hcl T' rfl X'
    exact ⟨t2, st.trans a1, b1⟩
/-- caught by the row x of this method's table; the rows ahead don't take it -/
theorem vx_catch {own name : String} {E : String} {ce : Cell} {q : Addr} (hown : s.vm.findClass own = some m.cls) (pre : List ExceptionTableEntry) (x : ExceptionTableEntry) (suf : List ExceptionTableEntry) (hsplit : c.exceptionTable.toList = pre ++ x :: suf)
    (hpass : ∀ z ∈ pre, covers z pc = false ∨ (z.catchType ≠ 0 ∧ ∃ nm : String, (Cond.classLink own z.catchType nm).before args s = true ∧ va_Nc E nm s)) (hx : covers x pc = true) (h0 : x.catchType ≠ 0)
    (hlink : (Cond.classLink own x.catchType name).before args s = true) (hcast : (Cond.castable E name).before args s = true) (hcell : H[q]? = some ce) (hv : ce.vm = .none) (hcl : s.vm.findClass E = some ce.cls)
    (kk : W p l e R s m args below meth c H locs cells slots Q (F0 m x.handlerPc ls [.ref q])) : vx_W p l e R s m args below meth c H locs cells slots Q (F0 m pc ls rest) q := by
  intro T hT X
  have hpl : e.platform.magicAccessors = ({} : Platform).magicAccessors := by rw [X.admits.platform]
  obtain ⟨c3, c4, hc3, hc4, hasg⟩ := Cond.castable_spec hcast
  cases Option.some.inj (hc3.symm.trans hcl)
  obtain ⟨c5, hc5, hcl5⟩ := Cond.classLink_spec hown hlink e.platform hpl
  cases Option.some.inj (hc4.symm.trans hc5)
  obtain ⟨vm', X', st⟩ := X.thenCaughtThrough q (g := F0 m pc ls rest) rfl (Steps.refl _) (by rw [hT]; exact hcell) (by rw [hv]; rfl) (by obtain ⟨k9, h9, -⟩ := Vm.findClass_spec hcl; exact ⟨k9, h9⟩) pre x suf hsplit
    (fun z hz => by
      rcases hpass z hz with h | ⟨hz0, nm, hl1, hn1⟩
      · exact Or.inl h
      · obtain ⟨c6, hc6, hcl6⟩ := Cond.classLink_spec hown hl1 e.platform hpl
        obtain ⟨a8, b8, h1, h2, h3⟩ := hn1
        cases Option.some.inj (h1.symm.trans hcl)
        cases Option.some.inj (h2.symm.trans hc6)
        exact Or.inr ⟨hz0, _, hcl6, h3⟩) hx (Or.inr ⟨h0, c4, hcl5, hasg⟩)
  obtain ⟨t, a1, b1⟩ := kk (T.setVm vm') hT X'
  exact ⟨t, st.trans a1, b1⟩
end Rows
section Ends
variable {p : Program} {l : Launch} {e : Env} {R : Room} {s : State} {m : MethodId} {args : Array Value} {below : List Frame} {meth : Method} {c : Code} {H : Heap} {locs : List Loc} {cells slots : Nat} {Q : State → Prop}
variable {mc ms : Nat} {free : Addr → Prop} {A0 A1 : Nat → Prop} {H0 : Heap} {a : Array Value} {ls : Array Slot} {st0 rest : List Value}
variable {Qc : Array Value → State → Outcome → State → Prop} {XC : String → State → State → Prop}
/-- what a body that may throw owes at its end -/
def vx_MQ (below : List Frame) (Qc : Array Value → State → Outcome → State → Prop) (XC : String → State → State → Prop) (a : Array Value) (s : State) (mc ms : Nat) (free : Addr → Prop) : State → Prop := fun t =>
  ∃ o, t.status = .running ∧ Ended t below o ∧ vx_Q Qc XC mc ms free a s o t
theorem vx_ret {g : JFrame} {mc ms : Nat} (k : W p l e R s m args below meth c H locs cells slots (MQ below Qc args s mc ms free) g) : W p l e R s m args below meth c H locs cells slots (vx_MQ below Qc XC args s mc ms free) g := by
  intro T hT X
  obtain ⟨t, a1, o, b1, b2, b3, b4⟩ := k T hT X
  exact ⟨t, a1, o, b1, b2, Or.inl ⟨b3, b4⟩⟩
/-- not caught here: it goes on to the caller -/
theorem vx_widen {g : JFrame} {q : Addr} {k n : Nat} (h1 : cells ≤ k) (h2 : slots ≤ n) (kk : vx_W p l e R s m args below meth c H locs k n Q g q) : vx_W p l e R s m args below meth c H locs cells slots Q g q := fun T hT X => kk T hT (stand_widen X h1 h2)
theorem vx_out {pc : Nat} {E : String} {ce : Cell} {q : Addr} {mc ms : Nat} (hout : ∀ x ∈ c.exceptionTable.toList, covers x pc = false) (hlocks : meth.locks = false) (hcell : H[q]? = some ce) (hv : ce.vm = .none) (hcl : s.vm.findClass E = some ce.cls)
    (hx : ∀ t : State, t.heap = H → s.vm.Alike t.vm → XC E s t) (hf : ∀ z ∈ locs, free z.base) (hc : cells ≤ mc) (hs : slots ≤ ms) :
    vx_W p l e R s m args below meth c H locs cells slots (vx_MQ below Qc XC args s mc ms free) (F0 m pc ls rest) q := by
  intro T hT X
  obtain ⟨st1, hrun, hend, hW, hsm⟩ := X.leaveThrown q (g := F0 m pc ls rest) rfl rfl rfl hout hlocks
  have hcell9 : (T.setFrames (.throwing q :: below)).heap[q]? = some ce := by
    show T.heap[q]? = some ce
    rw [hT]; exact hcell
  exact ⟨_, st1, .threw q, hrun, hend, Or.inr ⟨q, rfl, E, ce, locs, hx _ hT hW.alike, hcell9, hv, hcl, hW, hsm.mono hc hs, hf⟩⟩
theorem vx_frame {U : State} {k n : Nat} (h : s.sameButNew ({ U with vm := s.vm } : State) locs k n) : s.heap.size ≤ U.heap.size ∧ ∀ q : Nat, q < s.heap.size → (∀ z ∈ locs, z.base ≠ q) → U.heap[q]? = s.heap[q]? := by
  obtain ⟨-, h2, -, -, -, h6⟩ := h
  refine ⟨h2, fun q hq hz => ?_⟩
  obtain ⟨c9, e1, e2, e3, e4⟩ := h6 q _ (Array.getElem?_eq_getElem hq)
  have hs : c9.slots = (s.heap[q]).slots := Array.ext_getElem? fun i => e4 i fun hm => hz _ hm rfl
  have h9 : c9 = s.heap[q] := by
    rw [hs] at e2
    exact e2
  have e5 : U.heap[q]? = some c9 := e1
  rw [e5, h9, Array.getElem?_eq_getElem hq]
/-- the words of a throw but the four that speak of the heap -/
def vx_no (w : Cond) : Bool := decide (w ≠ .isRef (.static Bundle.tN "UNASSIGNED_STACK" Bundle.steD)) && decide (w ≠ .isRef (.static Bundle.tN "SUPPRESSED_SENTINEL" Bundle.listD)) && decide (w ≠ .laysStatic Bundle.tN "UNASSIGNED_STACK" Bundle.steD) && decide (w ≠ .laysStatic Bundle.tN "SUPPRESSED_SENTINEL" Bundle.listD)
def vx_at0 (own : String) (ic : Nat) (X : String) (names : List String) : List Cond := (Bundle.ownAtoms0 own ic X names).filter vx_no
def vx_atS (own : String) (ic : Nat) (X : String) (names : List String) : List Cond := (Bundle.ownAtoms own ic X names).filter vx_no
/-- a word that the tables alone decide, or a good one -/
def vx_ot (w : Cond) : Bool := w.onTables || goodWord w
theorem vx_ot_at {args a' : Array Value} {s U : State} {w : Cond} (hW : s.WarmedH U.vm) (hvm : s.vm = U.vm) (hg : vx_ot w = true) (h : w.before args s = true) : w.before a' U = true := by
  simp only [vx_ot, Bool.or_eq_true] at hg
  rcases hg with hg | hg
  · exact va_tabs hg hvm h
  · exact word_at hW (good_of_word hg) h
/-- a list's words: the good ones out of the method's own list, the others by premises of their own -/
theorem vx_hat {args : Array Value} {s : State} {L B : List Cond} (h1 : ∀ w ∈ L.filter goodWord, w.before args s = true) (h2 : ∀ w ∈ L.filter (fun w => !goodWord w), w ∈ B) (h3 : ∀ w ∈ B, w.before args s = true) : ∀ w ∈ L, w.before args s = true := by
  intro w hw
  by_cases g : goodWord w = true
  · exact h1 w (List.mem_filter.mpr ⟨hw, g⟩)
  · refine h3 w (h2 w (List.mem_filter.mpr ⟨hw, ?_⟩))
    show (!goodWord w) = true
    cases hgw : goodWord w
    · rfl
    · exact absurd hgw g
theorem vx_c {args : Array Value} {s : State} {w : Cond} {B : List Cond} (h : w.before args s = true) (t : ∀ w ∈ B, w.before args s = true) : ∀ w' ∈ w :: B, w'.before args s = true := fun w' h' => (List.mem_cons.mp h').elim (fun e => by rw [e]; exact h) (t w')
theorem vx_n {args : Array Value} {s : State} : ∀ w ∈ ([] : List Cond), w.before args s = true := fun _ h => nomatch h
theorem vx_own {args : Array Value} {s : State} {L : List Cond} (h1 : ∀ w ∈ L.filter vx_no, w.before args s = true)
    (hU : (Cond.isRef (.static Bundle.tN "UNASSIGNED_STACK" Bundle.steD)).before args s = true) (hN : (Cond.isRef (.static Bundle.tN "SUPPRESSED_SENTINEL" Bundle.listD)).before args s = true)
    (lU : (Cond.laysStatic Bundle.tN "UNASSIGNED_STACK" Bundle.steD).before args s = true) (lN : (Cond.laysStatic Bundle.tN "SUPPRESSED_SENTINEL" Bundle.listD).before args s = true) : ∀ w ∈ L, w.before args s = true := by
  intro w hw
  by_cases e1 : w = .isRef (.static Bundle.tN "UNASSIGNED_STACK" Bundle.steD)
  · rw [e1]; exact hU
  · by_cases e2 : w = .isRef (.static Bundle.tN "SUPPRESSED_SENTINEL" Bundle.listD)
    · rw [e2]; exact hN
    · by_cases e3 : w = .laysStatic Bundle.tN "UNASSIGNED_STACK" Bundle.steD
      · rw [e3]; exact lU
      · by_cases e4 : w = .laysStatic Bundle.tN "SUPPRESSED_SENTINEL" Bundle.listD
        · rw [e4]; exact lN
        · exact h1 w (List.mem_filter.mpr ⟨hw, by unfold vx_no; rw [decide_eq_true e1, decide_eq_true e2, decide_eq_true e3, decide_eq_true e4]; rfl⟩)
/-- where a static field lies, its class's statics cell in H -/
def vx_L (C n d : String) (A : Nat → Prop) (U : State) (H : Heap) : Prop := ∃ (c : ClassId) (k : Class) (i : Nat) (f : Field) (a : Nat) (cell : Cell), U.vm.findClass C = some c ∧ U.fieldFound? C n d = some (c, k, i, f) ∧ f.isStatic = true ∧ k.statics = some a ∧ H[a]? = some cell ∧ cell.vm.isStatics = true ∧ cell.cls = c ∧ f.slot < cell.slots.size ∧ k.staticTypes[f.slot]? = some f.type ∧ ¬ A a
theorem vx_L.moved {C n d : String} {A : Nat → Prop} {u U : State} {H : Heap} (hvm : u.vm.Alike U.vm) (h : vx_L C n d A u H) : vx_L C n d A U H := by
  obtain ⟨c, k, i, f, a, cell, h1, h2, h3, h4, h5, h6, h7, h8, h9, h10⟩ := h
  obtain ⟨k', hi', he⟩ := State.fieldFound?_setVm hvm h2
  exact ⟨c, k', i, f, a, cell, by rw [hvm.findClass]; exact h1, hi', h3, by rw [he]; exact h4, h5, h6, h7, h8, by rw [he]; exact h9, h10⟩
theorem vx_L.kept {C n d : String} {A : Nat → Prop} {U : State} {H H1 : Heap} (h : vx_L C n d A U H) (hq : ∀ a : Nat, a < H.size → ¬ A a → H1[a]? = H[a]?) : vx_L C n d A U H1 := by
  obtain ⟨c, k, i, f, a, cell, h1, h2, h3, h4, h5, h6, h7, h8, h9, h10⟩ := h
  exact ⟨c, k, i, f, a, cell, h1, h2, h3, h4, by rw [hq a (Array.getElem?_eq_some_iff.mp h5).1 h10]; exact h5, h6, h7, h8, h9, h10⟩
theorem vx_L.narrow {C n d : String} {A B : Nat → Prop} {U : State} {H : Heap} (h : vx_L C n d A U H) (hAB : ∀ q, B q → A q) : vx_L C n d B U H := by
  obtain ⟨c, k, i, f, a, cell, h1, h2, h3, h4, h5, h6, h7, h8, h9, h10⟩ := h
  exact ⟨c, k, i, f, a, cell, h1, h2, h3, h4, h5, h6, h7, h8, h9, fun z => h10 (hAB _ z)⟩
theorem vx_L.word {C n d : String} {A : Nat → Prop} {s : State} {args : Array Value} (h : vx_L C n d A s s.heap) : (Cond.laysStatic C n d).before args s = true := by
  obtain ⟨c, k, i, f, a, cell, h1, h2, h3, h4, h5, h6, h7, h8, h9, -⟩ := h
  show (Cond.laysStatic C n d).holds args s none s [] = true
  exact Cond.laysStatic_of h1 h2 h3 h4 h5 h6 h7 h8 h9
/-- .. and what it holds: null or some reference -/
def vx_Zq (C n d : String) (A : Nat → Prop) (U : State) (H : Heap) : Prop := va_Zq C n d A U H ∧ vx_L C n d A U H
theorem vx_Zq.moved {C n d : String} {A : Nat → Prop} {u U : State} {H : Heap} (hvm : u.vm.Alike U.vm) (h : vx_Zq C n d A u H) : vx_Zq C n d A U H := ⟨va_Zq.moved hvm h.1, vx_L.moved hvm h.2⟩
theorem vx_Zq.kept {C n d : String} {A : Nat → Prop} {U : State} {H H1 : Heap} (h : vx_Zq C n d A U H) (hq : ∀ a : Nat, a < H.size → ¬ A a → H1[a]? = H[a]?) : vx_Zq C n d A U H1 := ⟨va_Zq.kept h.1 hq, vx_L.kept h.2 hq⟩
theorem vx_Zq.narrow {C n d : String} {A B : Nat → Prop} {U : State} {H : Heap} (h : vx_Zq C n d A U H) (hAB : ∀ q, B q → A q) : vx_Zq C n d B U H := ⟨va_Zq.narrow h.1 hAB, vx_L.narrow h.2 hAB⟩
theorem vx_Zqof {args : Array Value} {s : State} {C n d : String} {A : Nat → Prop} (hl : (Cond.laysStatic C n d).before args s = true) (hini : (Cond.initialized C).before args s = true) (h : (Cond.isRef (.static C n d)).before args s = true) (hA : ∀ a : Nat, a < s.heap.size → ¬ A a) : vx_Zq C n d A s s.heap := by
  refine ⟨va_Zqof hl hini h hA, ?_⟩
  obtain ⟨c, k, i, f, a, cell, h1, h2, h3, h4, h5, h6, h7, h8, h9⟩ := Cond.laysStatic_spec hl
  exact ⟨c, k, i, f, a, cell, h1, h2, h3, h4, h5, h6, h7, h8, h9, hA a (Array.getElem?_eq_some_iff.mp h5).1⟩
theorem vx_isRef {C n d : String} {v : Value} {A : Nat → Prop} {s : State} {args : Array Value} (h : va_Z C n d v A s s.heap) (hv : v.isRef = true) : (Cond.isRef (.static C n d)).before args s = true := by
  obtain ⟨cf, kf, fi, f, a, cell, h1, h2, h3, h4, h5, h6, h7, -⟩ := h
  have he : (Term.static C n d).eval args s none [] s = some v := by
    simp [Term.eval, State.fieldNamed?, h1, h2, h4, h5, h6, h7]
  simp only [Cond.before, Cond.holds, Cond.value, he]
  cases v <;> simp_all [Value.isRef]
theorem vx_isRefq {C n d : String} {A : Nat → Prop} {s : State} {args : Array Value} (h : va_Zq C n d A s s.heap) : (Cond.isRef (.static C n d)).before args s = true := by
  rcases h with h | ⟨t, h⟩
  · exact vx_isRef h rfl
  · exact vx_isRef h rfl
/-- the same frame, seen from here: as if the method were called anew in this heap -/
theorem vx_rebase {T : State} (X : Stand p l e R s m args below meth c T locs cells slots) {R' : Room} (hf : R'.frames ≤ R.frames) (hl : R'.locals ≤ R.locals) (hc : cells + R'.cells ≤ R.cells) (hs : slots + R'.slots ≤ R.slots) :
    Stand p l e R' ((T.setVm s.vm).setFrames (.invoking m args :: below)) m args below meth c T [] 0 0 := by
  have htop : (T.setVm s.vm).topJava?.isSome := X.here.top
  have hF : ((T.setVm s.vm).setFrames (.invoking m args :: below)).frames = .invoking m args :: below := State.frames_setFrames _ (State.cur_lt_of_top htop)
  obtain ⟨g₀, hg0⟩ := Option.isSome_iff_exists.mp htop
  obtain ⟨r, hr⟩ := State.topJava?_eq_some.mp hg0
  have hl9 : e.platform.stackLimits (T.setVm s.vm).me = e.platform.stackLimits s.me := X.limits
  have hb9 : (T.setVm s.vm).me.stackBytes = s.me.stackBytes := X.bytes
  refine ⟨X.admits, X.cas, X.clock, hF, ?_, X.hears, X.method, X.code, X.here, X.tail, X.warmed, ?_, ?_, ?_⟩
  · have h := X.room
    have hU : ((T.setVm s.vm).setFrames (.invoking m args :: below)).localsInUse = s.localsInUse := by
      rw [State.localsInUse_invoking hF (meth := meth) (c := c) X.method X.code, State.localsInUse_invoking X.frames X.method X.code]
    simp only [State.hasRoom, Bool.and_eq_true, decide_eq_true_eq] at h ⊢
    obtain ⟨⟨⟨⟨h1, h2, h3, h4, h5, h6⟩, h7⟩, h8⟩, h9⟩ := h
    rw [X.frames, List.length_cons] at h2 h3
    have q1 := X.heapSize
    have q2 := X.used
    simp only [hF, hU, List.length_cons, State.stackLimits_setFrames, State.stackBytes_setFrames, hl9, hb9]
    refine ⟨⟨⟨⟨by omega, by omega, by omega, by omega, by omega, h6⟩, ?_⟩, ?_⟩, X.book⟩
    · show T.heap.size + R'.cells ≤ e.platform.maxCells
      omega
    · show T.slotsUsed + R'.slots ≤ e.platform.maxSlots
      omega
  · rw [State.stackLimits_setFrames]; rfl
  · rw [State.stackBytes_setFrames]; rfl
  · refine ⟨?_, Nat.le_refl _, Nat.le_refl _, ?_, ?_, fun a c9 h9 => ⟨c9, h9, rfl, rfl, fun _ _ => rfl⟩⟩
    · obtain ⟨t, ht, -⟩ := State.frames_cons hr
      show T.setVm s.vm = { ((T.setVm s.vm).setFrames (.invoking m args :: below)).setFrames (T.setVm s.vm).frames with heap := T.heap, slotsUsed := T.slotsUsed }
      rw [State.setFrames_setFrames, State.setFrames_self ht]
      rfl
    · show T.slotsUsed = T.slotsUsed + ((T.heap.toList.drop T.heap.size).map (·.slots.size)).sum
      rw [List.drop_eq_nil_of_le (Nat.le_of_eq Array.length_toList)]
      rfl
    · show ((T.heap.toList.drop T.heap.size).map (·.slots.size)).sum ≤ 0
      rw [List.drop_eq_nil_of_le (Nat.le_of_eq Array.length_toList)]
      exact Nat.le_refl _
/-- 'throw new E()': new; dup; invokespecial; athrow -/
theorem vx_throw0 {cc : ByteArray} {pc : Nat} (hexec : p.tables.exec = Jvm.exec) (hb : c.code = cc) (hl : l.stackTraces = false) {own cls : String} {names : List String} {ik ic mc ms : Nat} {A : Nat → Prop}
    (hown : s.vm.findClass own = some m.cls) (hcls : Bundle.fit cls = true) (hnames : ∀ n ∈ names, Bundle.fit n = true)
    (hk : (Cond.classLink own ik cls).before args s = true) (hini : (Cond.initialized cls).before args s = true) (hat : ∀ w ∈ vx_at0 own ic cls names, w.before args s = true)
    (hgood : ∀ w ∈ Cond.classLink own ik cls :: Cond.initialized cls :: vx_at0 own ic cls names, vx_ot w = true)
    (hU : vx_Zq Bundle.tN "UNASSIGNED_STACK" Bundle.steD A s s.heap) (hN : vx_Zq Bundle.tN "SUPPRESSED_SENTINEL" Bundle.listD A s s.heap) (hS : va_S A s.heap H locs) (hsize : ls.size = c.maxLocals)
    (d0 : decode cc pc = .ok (.new ik, 3)) (d3 : decode cc (pc + 3) = .ok (.dup, 1)) (d4 : decode cc (pc + 4) = .ok (.invokespecial ic, 3)) (d7 : decode cc (pc + 7) = .ok (.athrow, 1))
    (hout : ∀ x ∈ c.exceptionTable.toList, covers x (pc + 7) = false)
    (hRframes : names.length + 3 < R.frames) (hRlocals : (rest.map fun v => v.category).sum + (13 * (names.length + 1) + 42) ≤ R.locals) (hRcells : cells + 1 ≤ R.cells) (hRslots : slots + 6 ≤ R.slots) (hlocks : meth.locks = false)
    (hx : ∀ t : State, s.vm.Alike t.vm → H.size ≤ t.heap.size → (∀ q : Nat, q < H.size → t.heap[q]? = H[q]?) → XC cls s t)
    (hf : ∀ z ∈ locs, free z.base) (hc : cells + 1 ≤ mc) (hs : slots + 6 ≤ ms) :
    W p l e R s m args below meth c H locs cells slots (vx_MQ below Qc XC args s mc ms free) (F0 m pc ls rest) := by
  intro T hT X
  have htr : e.platform.stackTraces = false := (show e.platform.stackTraces = l.stackTraces by rw [X.admits.platform]).trans hl
  have Y := vx_rebase X (R' := { frames := R.frames, locals := R.locals, cells := 1, slots := 6 }) (Nat.le_refl _) (Nat.le_refl _) hRcells hRslots
  obtain ⟨s', hA⟩ : ∃ z, z = (T.setVm s.vm).setFrames (.invoking m args :: below) := ⟨_, rfl⟩
  rw [← hA] at Y
  have hvm : s'.vm = s.vm := by rw [hA]; rfl
  have hhp : s'.heap = H := by rw [hA]; exact hT
  have hW0 : s.WarmedH s'.vm := by rw [hvm]; exact State.WarmedH.refl s
  have hat' : ∀ w ∈ vx_at0 own ic cls names, w.before args s' = true := fun w hw => vx_ot_at hW0 hvm.symm (hgood w (List.mem_cons_of_mem _ (List.mem_cons_of_mem _ hw))) (hat w hw)
  have hk' : (Cond.classLink own ik cls).before args s' = true := vx_ot_at hW0 hvm.symm (hgood _ List.mem_cons_self) hk
  have hini' : (Cond.initialized cls).before args s' = true := vx_ot_at hW0 hvm.symm (hgood _ (List.mem_cons_of_mem _ List.mem_cons_self)) hini
  have hU' : vx_Zq Bundle.tN "UNASSIGNED_STACK" Bundle.steD A s' s'.heap := by rw [hhp]; exact vx_Zq.moved hW0.alike (hU.kept hS.2.1)
  have hN' : vx_Zq Bundle.tN "SUPPRESSED_SENTINEL" Bundle.listD A s' s'.heap := by rw [hhp]; exact vx_Zq.moved hW0.alike (hN.kept hS.2.1)
  have h : ∀ w ∈ Bundle.ownAtoms0 own ic cls names, w.before args s' = true := vx_own hat' (vx_isRefq hU'.1) (vx_isRefq hN'.1) hU'.2.word hN'.2.word
  have hown' : s'.vm.findClass own = some m.cls := by rw [hvm]; exact hown
  have hins : (Cond.instantiable cls 6).before args s' = true := h _ (by simp [Bundle.ownAtoms0])
  obtain ⟨vm₁, cX, kX, hfX, hkX, -, -, X₁, st1⟩ := Y.newCold hexec (own := own) (C := cls) (index := ik) (n := 6) hown' hk' hins hini'
    (g := F0 m pc ls rest) rfl (by rw [hb]; exact d0) (Nat.le_refl _) (Nat.le_refl _)
  generalize hT1 : (T.setVm vm₁).pushCell { cls := cX, slots := kX.instanceTypes.map defaultValue, vm := .none } = T1 at X₁ st1
  have hcat : (Value.ref T.heap.size).category = 1 := rfl
  have hcellA : T1.heap[T.heap.size]? = some (freshCell cX kX) := by rw [← hT1]; exact State.heap_pushCell_size _ _
  have d3' : decode c.code (pc + 3) = .ok (.dup, 1) := by rw [hb]; exact d3
  obtain ⟨U, hsteps, hrun, hend, hW, hsame, ce, hce, hO⟩ := X₁.ctorThrow0 hexec htr (own := own) (cls := cls) (names := names) (ic := ic) hown' hcls hnames h (fun x hx => nomatch hx) hfX hkX hcellA (by rw [hhp, hT]; exact Nat.le_refl _)
    (g := { method := m, pc := pc + 4, locals := ls, stack := .ref T.heap.size :: .ref T.heap.size :: rest, locked := none }) rfl hsize rfl rfl (rest := rest) rfl
    (by rw [hb]; exact d4) (by rw [hb]; exact d7) hout hRframes (by simp only [List.map_cons, List.sum_cons, hcat]; omega) hlocks
  obtain ⟨f1, f2⟩ := vx_frame hsame
  rw [hhp] at f1 f2
  have hWs : s.WarmedH U.vm := State.WarmedH.trans hW0 hW
  have hcl : s.vm.findClass cls = some ce.cls := by
    have h9 := hO.cls
    rw [hvm] at h9
    exact h9
  have hall : s.sameButNew ({ U with vm := s.vm } : State) locs mc ms := by
    subst hA
    obtain ⟨e1, e2⟩ := hsame
    rw [State.setFrames_setFrames] at e1
    have h2 : (T.setVm s.vm).sameButNew ({ U with vm := s.vm } : State) [] (0 + 1) (0 + 6) := ⟨e1, e2⟩
    have h3 := X.same.trans h2
    rw [List.append_nil] at h3
    exact h3.mono hc hs
  refine ⟨U, ?_, .threw T.heap.size, hrun, hend, Or.inr ⟨T.heap.size, rfl, cls, ce, locs, hx U hWs.alike f1 (fun q hq => f2 q hq (fun z hz => nomatch hz)), hce, hO.vm, hcl, hWs, hall, hf⟩⟩
  refine st1 _ ?_
  show Steps p.tables e below (T1.setTop { method := m, pc := pc + 3, locals := ls, stack := .ref T.heap.size :: rest, locked := none }) _
  jvm_step X₁.here [X₁.here.top, hexec, d3', Value.category]
  exact hsteps
/-- 'throw new E("text")': new; dup; ldc; invokespecial; athrow -/
theorem vx_throwS {cc : ByteArray} {pc : Nat} (hexec : p.tables.exec = Jvm.exec) (hb : c.code = cc) (hl : l.stackTraces = false) {own cls text : String} {names : List String} {ik is ic mc ms sa : Nat} {A : Nat → Prop}
    (hown : s.vm.findClass own = some m.cls) (hcls : Bundle.fit cls = true) (hnames : ∀ n ∈ names, Bundle.fit n = true)
    (hk : (Cond.classLink own ik cls).before args s = true) (hini : (Cond.initialized cls).before args s = true) (hstr : vk_R own is text sa s) (hat : ∀ w ∈ vx_atS own ic cls names, w.before args s = true)
    (hgood : ∀ w ∈ Cond.classLink own ik cls :: Cond.initialized cls :: vx_atS own ic cls names, vx_ot w = true)
    (hU : vx_Zq Bundle.tN "UNASSIGNED_STACK" Bundle.steD A s s.heap) (hN : vx_Zq Bundle.tN "SUPPRESSED_SENTINEL" Bundle.listD A s s.heap) (hS : va_S A s.heap H locs) (hsize : ls.size = c.maxLocals)
    (d0 : decode cc pc = .ok (.new ik, 3)) (d3 : decode cc (pc + 3) = .ok (.dup, 1)) (d4 : decode cc (pc + 4) = .ok (.ldc is, 2)) (d6 : decode cc (pc + 6) = .ok (.invokespecial ic, 3)) (d9 : decode cc (pc + 9) = .ok (.athrow, 1))
    (hout : ∀ x ∈ c.exceptionTable.toList, covers x (pc + 9) = false)
    (hRframes : names.length + 3 < R.frames) (hRlocals : (rest.map fun v => v.category).sum + (13 * (names.length + 1) + 43) ≤ R.locals) (hRcells : cells + 1 ≤ R.cells) (hRslots : slots + 6 ≤ R.slots) (hlocks : meth.locks = false)
    (hx : ∀ t : State, s.vm.Alike t.vm → H.size ≤ t.heap.size → (∀ q : Nat, q < H.size → t.heap[q]? = H[q]?) → XC cls s t)
    (hf : ∀ z ∈ locs, free z.base) (hc : cells + 1 ≤ mc) (hs : slots + 6 ≤ ms) :
    W p l e R s m args below meth c H locs cells slots (vx_MQ below Qc XC args s mc ms free) (F0 m pc ls rest) := by
  intro T hT X
  have htr : e.platform.stackTraces = false := (show e.platform.stackTraces = l.stackTraces by rw [X.admits.platform]).trans hl
  have Y := vx_rebase X (R' := { frames := R.frames, locals := R.locals, cells := 1, slots := 6 }) (Nat.le_refl _) (Nat.le_refl _) hRcells hRslots
  obtain ⟨s', hA⟩ : ∃ z, z = (T.setVm s.vm).setFrames (.invoking m args :: below) := ⟨_, rfl⟩
  rw [← hA] at Y
  have hvm : s'.vm = s.vm := by rw [hA]; rfl
  have hhp : s'.heap = H := by rw [hA]; exact hT
  have hW0 : s.WarmedH s'.vm := by rw [hvm]; exact State.WarmedH.refl s
  have hat' : ∀ w ∈ vx_atS own ic cls names, w.before args s' = true := fun w hw => vx_ot_at hW0 hvm.symm (hgood w (List.mem_cons_of_mem _ (List.mem_cons_of_mem _ hw))) (hat w hw)
  have hk' : (Cond.classLink own ik cls).before args s' = true := vx_ot_at hW0 hvm.symm (hgood _ List.mem_cons_self) hk
  have hini' : (Cond.initialized cls).before args s' = true := vx_ot_at hW0 hvm.symm (hgood _ (List.mem_cons_of_mem _ List.mem_cons_self)) hini
  have hU' : vx_Zq Bundle.tN "UNASSIGNED_STACK" Bundle.steD A s' s'.heap := by rw [hhp]; exact vx_Zq.moved hW0.alike (hU.kept hS.2.1)
  have hN' : vx_Zq Bundle.tN "SUPPRESSED_SENTINEL" Bundle.listD A s' s'.heap := by rw [hhp]; exact vx_Zq.moved hW0.alike (hN.kept hS.2.1)
  have h : ∀ w ∈ Bundle.ownAtoms own ic cls names, w.before args s' = true := vx_own hat' (vx_isRefq hU'.1) (vx_isRefq hN'.1) hU'.2.word hN'.2.word
  have hown' : s'.vm.findClass own = some m.cls := by rw [hvm]; exact hown
  have hins : (Cond.instantiable cls 6).before args s' = true := h _ (by simp [Bundle.ownAtoms])
  obtain ⟨vm₁, cX, kX, hfX, hkX, -, -, X₁, st1⟩ := Y.newCold hexec (own := own) (C := cls) (index := ik) (n := 6) hown' hk' hins hini'
    (g := F0 m pc ls rest) rfl (by rw [hb]; exact d0) (Nat.le_refl _) (Nat.le_refl _)
  generalize hT1 : (T.setVm vm₁).pushCell { cls := cX, slots := kX.instanceTypes.map defaultValue, vm := .none } = T1 at X₁ st1
  have hcat : (Value.ref T.heap.size).category = 1 := rfl
  have hcellA : T1.heap[T.heap.size]? = some (freshCell cX kX) := by rw [← hT1]; exact State.heap_pushCell_size _ _
  have d3' : decode c.code (pc + 3) = .ok (.dup, 1) := by rw [hb]; exact d3
  have d4' : decode c.code (pc + 4) = .ok (.ldc is, 2) := by rw [hb]; exact d4
  have hstr' : vk_R own is text sa s' := vk_R.warm hW0 hstr
  obtain ⟨U, hsteps, hrun, hend, hW, hsame, ce, hce, hO⟩ := X₁.ctorThrowS hexec htr (own := own) (cls := cls) (names := names) (ic := ic) hown' hcls hnames h (fun x hx => nomatch hx) hfX hkX hcellA (by rw [hhp, hT]; exact Nat.le_refl _) (msg := .ref sa) rfl
    (g := { method := m, pc := pc + 6, locals := ls, stack := .ref sa :: .ref T.heap.size :: .ref T.heap.size :: rest, locked := none }) rfl hsize rfl rfl (rest := rest) rfl
    (by rw [hb]; exact d6) (by rw [hb]; exact d9) hout hRframes (by simp only [List.map_cons, List.sum_cons, hcat]; omega) hlocks
  obtain ⟨f1, f2⟩ := vx_frame hsame
  rw [hhp] at f1 f2
  have hWs : s.WarmedH U.vm := State.WarmedH.trans hW0 hW
  have hcl : s.vm.findClass cls = some ce.cls := by
    have h9 := hO.cls
    rw [hvm] at h9
    exact h9
  have hall : s.sameButNew ({ U with vm := s.vm } : State) locs mc ms := by
    subst hA
    obtain ⟨e1, e2⟩ := hsame
    rw [State.setFrames_setFrames] at e1
    have h2 : (T.setVm s.vm).sameButNew ({ U with vm := s.vm } : State) [] (0 + 1) (0 + 6) := ⟨e1, e2⟩
    have h3 := X.same.trans h2
    rw [List.append_nil] at h3
    exact h3.mono hc hs
  refine ⟨U, ?_, .threw T.heap.size, hrun, hend, Or.inr ⟨T.heap.size, rfl, cls, ce, locs, hx U hWs.alike f1 (fun q hq => f2 q hq (fun z hz => nomatch hz)), hce, hO.vm, hcl, hWs, hall, hf⟩⟩
  refine st1 _ ?_
  show Steps p.tables e below (T1.setTop { method := m, pc := pc + 3, locals := ls, stack := .ref T.heap.size :: rest, locked := none }) _
  jvm_step X₁.here [X₁.here.top, hexec, d3', Value.category]
  exact X₁.ldcString hexec (own := own) (text := text) (index := is) (a := sa) hown' hstr'.1 hstr'.2
    (g := { method := m, pc := pc + 4, locals := ls, stack := .ref T.heap.size :: .ref T.heap.size :: rest, locked := none }) rfl d4' _ hsteps
/-- 'throw new E("text")', the text by a wide index -/
theorem vx_throwSW {cc : ByteArray} {pc : Nat} (hexec : p.tables.exec = Jvm.exec) (hb : c.code = cc) (hl : l.stackTraces = false) {own cls text : String} {names : List String} {ik is ic mc ms sa : Nat} {A : Nat → Prop}
    (hown : s.vm.findClass own = some m.cls) (hcls : Bundle.fit cls = true) (hnames : ∀ n ∈ names, Bundle.fit n = true)
    (hk : (Cond.classLink own ik cls).before args s = true) (hini : (Cond.initialized cls).before args s = true) (hstr : vk_R own is text sa s) (hat : ∀ w ∈ vx_atS own ic cls names, w.before args s = true)
    (hgood : ∀ w ∈ Cond.classLink own ik cls :: Cond.initialized cls :: vx_atS own ic cls names, vx_ot w = true)
    (hU : vx_Zq Bundle.tN "UNASSIGNED_STACK" Bundle.steD A s s.heap) (hN : vx_Zq Bundle.tN "SUPPRESSED_SENTINEL" Bundle.listD A s s.heap) (hS : va_S A s.heap H locs) (hsize : ls.size = c.maxLocals)
    (d0 : decode cc pc = .ok (.new ik, 3)) (d3 : decode cc (pc + 3) = .ok (.dup, 1)) (d4 : decode cc (pc + 4) = .ok (.ldc_w is, 3)) (d7 : decode cc (pc + 7) = .ok (.invokespecial ic, 3)) (d10 : decode cc (pc + 10) = .ok (.athrow, 1))
    (hout : ∀ x ∈ c.exceptionTable.toList, covers x (pc + 10) = false)
    (hRframes : names.length + 3 < R.frames) (hRlocals : (rest.map fun v => v.category).sum + (13 * (names.length + 1) + 43) ≤ R.locals) (hRcells : cells + 1 ≤ R.cells) (hRslots : slots + 6 ≤ R.slots) (hlocks : meth.locks = false)
    (hx : ∀ t : State, s.vm.Alike t.vm → H.size ≤ t.heap.size → (∀ q : Nat, q < H.size → t.heap[q]? = H[q]?) → XC cls s t)
    (hf : ∀ z ∈ locs, free z.base) (hc : cells + 1 ≤ mc) (hs : slots + 6 ≤ ms) :
    W p l e R s m args below meth c H locs cells slots (vx_MQ below Qc XC args s mc ms free) (F0 m pc ls rest) := by
  intro T hT X
  have htr : e.platform.stackTraces = false := (show e.platform.stackTraces = l.stackTraces by rw [X.admits.platform]).trans hl
  have Y := vx_rebase X (R' := { frames := R.frames, locals := R.locals, cells := 1, slots := 6 }) (Nat.le_refl _) (Nat.le_refl _) hRcells hRslots
  obtain ⟨s', hA⟩ : ∃ z, z = (T.setVm s.vm).setFrames (.invoking m args :: below) := ⟨_, rfl⟩
  rw [← hA] at Y
  have hvm : s'.vm = s.vm := by rw [hA]; rfl
  have hhp : s'.heap = H := by rw [hA]; exact hT
  have hW0 : s.WarmedH s'.vm := by rw [hvm]; exact State.WarmedH.refl s
  have hat' : ∀ w ∈ vx_atS own ic cls names, w.before args s' = true := fun w hw => vx_ot_at hW0 hvm.symm (hgood w (List.mem_cons_of_mem _ (List.mem_cons_of_mem _ hw))) (hat w hw)
  have hk' : (Cond.classLink own ik cls).before args s' = true := vx_ot_at hW0 hvm.symm (hgood _ List.mem_cons_self) hk
  have hini' : (Cond.initialized cls).before args s' = true := vx_ot_at hW0 hvm.symm (hgood _ (List.mem_cons_of_mem _ List.mem_cons_self)) hini
  have hU' : vx_Zq Bundle.tN "UNASSIGNED_STACK" Bundle.steD A s' s'.heap := by rw [hhp]; exact vx_Zq.moved hW0.alike (hU.kept hS.2.1)
  have hN' : vx_Zq Bundle.tN "SUPPRESSED_SENTINEL" Bundle.listD A s' s'.heap := by rw [hhp]; exact vx_Zq.moved hW0.alike (hN.kept hS.2.1)
  have h : ∀ w ∈ Bundle.ownAtoms own ic cls names, w.before args s' = true := vx_own hat' (vx_isRefq hU'.1) (vx_isRefq hN'.1) hU'.2.word hN'.2.word
  have hown' : s'.vm.findClass own = some m.cls := by rw [hvm]; exact hown
  have hins : (Cond.instantiable cls 6).before args s' = true := h _ (by simp [Bundle.ownAtoms])
  obtain ⟨vm₁, cX, kX, hfX, hkX, -, -, X₁, st1⟩ := Y.newCold hexec (own := own) (C := cls) (index := ik) (n := 6) hown' hk' hins hini'
    (g := F0 m pc ls rest) rfl (by rw [hb]; exact d0) (Nat.le_refl _) (Nat.le_refl _)
  generalize hT1 : (T.setVm vm₁).pushCell { cls := cX, slots := kX.instanceTypes.map defaultValue, vm := .none } = T1 at X₁ st1
  have hcat : (Value.ref T.heap.size).category = 1 := rfl
  have hcellA : T1.heap[T.heap.size]? = some (freshCell cX kX) := by rw [← hT1]; exact State.heap_pushCell_size _ _
  have d3' : decode c.code (pc + 3) = .ok (.dup, 1) := by rw [hb]; exact d3
  have d4' : decode c.code (pc + 4) = .ok (.ldc_w is, 3) := by rw [hb]; exact d4
  have hstr' : vk_R own is text sa s' := vk_R.warm hW0 hstr
  obtain ⟨U, hsteps, hrun, hend, hW, hsame, ce, hce, hO⟩ := X₁.ctorThrowS hexec htr (own := own) (cls := cls) (names := names) (ic := ic) hown' hcls hnames h (fun x hx => nomatch hx) hfX hkX hcellA (by rw [hhp, hT]; exact Nat.le_refl _) (msg := .ref sa) rfl
    (g := { method := m, pc := pc + 7, locals := ls, stack := .ref sa :: .ref T.heap.size :: .ref T.heap.size :: rest, locked := none }) rfl hsize rfl rfl (rest := rest) rfl
    (by rw [hb]; exact d7) (by rw [hb]; exact d10) hout hRframes (by simp only [List.map_cons, List.sum_cons, hcat]; omega) hlocks
  obtain ⟨f1, f2⟩ := vx_frame hsame
  rw [hhp] at f1 f2
  have hWs : s.WarmedH U.vm := State.WarmedH.trans hW0 hW
  have hcl : s.vm.findClass cls = some ce.cls := by
    have h9 := hO.cls
    rw [hvm] at h9
    exact h9
  have hall : s.sameButNew ({ U with vm := s.vm } : State) locs mc ms := by
    subst hA
    obtain ⟨e1, e2⟩ := hsame
    rw [State.setFrames_setFrames] at e1
    have h2 : (T.setVm s.vm).sameButNew ({ U with vm := s.vm } : State) [] (0 + 1) (0 + 6) := ⟨e1, e2⟩
    have h3 := X.same.trans h2
    rw [List.append_nil] at h3
    exact h3.mono hc hs
  refine ⟨U, ?_, .threw T.heap.size, hrun, hend, Or.inr ⟨T.heap.size, rfl, cls, ce, locs, hx U hWs.alike f1 (fun q hq => f2 q hq (fun z hz => nomatch hz)), hce, hO.vm, hcl, hWs, hall, hf⟩⟩
  refine st1 _ ?_
  show Steps p.tables e below (T1.setTop { method := m, pc := pc + 3, locals := ls, stack := .ref T.heap.size :: rest, locked := none }) _
  jvm_step X₁.here [X₁.here.top, hexec, d3', Value.category]
  exact X₁.ldcStringW hexec (own := own) (text := text) (index := is) (a := sa) hown' hstr'.1 hstr'.2
    (g := { method := m, pc := pc + 4, locals := ls, stack := .ref T.heap.size :: .ref T.heap.size :: rest, locked := none }) rfl d4' _ hsteps
end Ends
section Bodies
variable {l : Launch}
theorem vx_ofW {y : MethodName} {ws ws' : List Cond} {rm : Room} {Pc : Array Value → State → Prop} {Qc : Array Value → State → Outcome → State → Prop} {XC : String → State → State → Prop} {mc ms : Nat} {free : Addr → Prop} {cc : ByteArray} {maxL : Nat} {ret : Option FieldType}
    (hy : plainName y.cls = true) (hw : ws = Cond.code y cc maxL ret :: ws')
    (body : ∀ p e s m args below meth c s₁, BodyLoose p l y (headSpec ws rm) cc maxL ret e s m args below meth c s₁ → c.maxLocals = maxL → (∀ x ∈ c.exceptionTable.toList, False) → Pc args s →
      W p l e (headSpec ws rm).room s m args below meth c s.heap [] 0 0 (vx_MQ below Qc XC args s mc ms free) (entryFrame m args maxL)) : vx_Met l y ws rm Pc Qc XC mc ms free := by
  refine MetFree.of_bodyS (code := cc) (maxLocals := maxL) (ret := ret) hy ?_ ?_
  · intro args s m h hn
    obtain ⟨meth, c, h1, h2, h3, h4, h5, h6, -, -⟩ := Cond.code_spec hn (atoms_spec (ws := ws) h _ (by rw [hw]; exact List.mem_cons_self))
    exact ⟨meth, c, h1, h2, h3, h4, h5, h6⟩
  · intro p e s m args below meth c s₁ B hml hP _
    have hh0 : s₁.heap = s.heap := by rw [B.state]; rfl
    have ht : ∀ x ∈ c.exceptionTable.toList, False := by
      obtain ⟨meth9, c9, h1, h2, -, -, -, -, h7, -⟩ := Cond.code_spec B.named (atoms_spec (ws := ws) B.pre _ (by rw [hw]; exact List.mem_cons_self))
      cases Option.some.inj (h1.symm.trans B.method)
      cases Option.some.inj (h2.symm.trans (Stand.of_body B).code)
      intro x hx
      rw [Array.isEmpty_iff.mp h7] at hx
      cases hx
    obtain ⟨t, a1, o, b1, b2, b3⟩ := body p e s m args below meth c s₁ B hml ht hP s₁ hh0 (Stand.of_body B)
    exact ⟨t, o, a1, b1, b2, b3⟩
/-- the table of a body with handlers -/
theorem vx_table {p : Program} {x y : MethodName} {S : Spec} {cc bytes : ByteArray} {maxL maxL' : Nat} {ret ret' : Option FieldType} {e : Env} {s s₁ : State} {m : MethodId} {args : Array Value} {below : List Frame} {meth : Method} {c : Code} {hh : List (Nat × Nat × Nat × Nat)}
    (B : BodyLoose p l y S cc maxL ret e s m args below meth c s₁) (h : (Cond.codeWith y bytes maxL' ret' hh).before args s = true) : c.exceptionTable.toList = tableOf hh := by
  obtain ⟨m9, meth9, c9, hn9, h1, h2, -, -, h6, -⟩ := Cond.codeWith_spec h
  cases Option.some.inj (hn9.symm.trans B.named)
  cases Option.some.inj (h1.symm.trans B.method)
  cases Option.some.inj (h2.symm.trans (Stand.of_body B).code)
  rw [← h6, table_eq]
end Bodies
end VXA
/-! ===== END ===== -/
/-! ===== BEGIN a static call of a method with an exception table ===== -/
section VXS
variable {p : Program} {l : Launch} {e : Env} {R : Room} {s : State} {m : MethodId} {args : Array Value} {below : List Frame} {meth : Method} {c : Code} {T : State} {H : Heap} {locs : List Loc} {cells slots : Nat}
abbrev vx_CSW (R : Room) (s : State) (args : Array Value) (own : String) (index : Nat) (y : MethodName) (bytes : ByteArray) (maxL : Nat) (ret : Option FieldType) (hh : List (Nat × Nat × Nat × Nat)) (ws : List Cond) (rm : Room) (mc ms n : Nat) : Prop :=
  (rm.cells = mc ∧ rm.slots = ms ∧ rm.frames + 1 ≤ R.frames ∧ 8 + (maxL + 11) + rm.locals ≤ R.locals ∧ (∀ w ∈ ws, ∀ (a' : Array Value) (U : State), s.WarmedH U.vm → w.before a' U = true) ∧ Cond.codeWith y bytes maxL ret hh ∈ ws) ∧
  (Cond.codeWith y bytes maxL ret hh).before args s = true ∧ (Cond.initialized y.cls).before args s = true ∧ (y.cls ≠ "java/lang/invoke/MethodHandle" ∧ y.cls ≠ "java/lang/invoke/VarHandle") ∧
  (∀ sig, parseMethodDescriptor y.desc = some sig → n = sig.parameters.length) ∧ (Cond.methodLink own index y).before args s = true ∧ (Cond.static y).before args s = true
theorem vx_cwSW {own : String} {index maxL mc ms : Nat} {y : MethodName} {bytes : ByteArray} {ret : Option FieldType} {hh : List (Nat × Nat × Nat × Nat)} {Ts ws ws' : List Cond} {rm : Room} (n : Nat) (ht : ∀ w ∈ Ts, w.before args s = true) (hT : GoodIn Ts (va_wsS own index y ws)) (hw : ws = Cond.codeWith y bytes maxL ret hh :: ws') (hrc : rm.cells = mc) (hrs : rm.slots = ms)
    (hd : y.cls ≠ "java/lang/invoke/MethodHandle" ∧ y.cls ≠ "java/lang/invoke/VarHandle" ∧ (parseMethodDescriptor y.desc).map (fun d => d.parameters.length) = some n) (hR : rm.frames + 1 ≤ R.frames ∧ 8 + (maxL + 11) + rm.locals ≤ R.locals) :
    vx_CSW R s args own index y bytes maxL ret hh ws rm mc ms n := by
  have ok : ∀ w ∈ va_wsS own index y ws, w.before args s = true := fun w h => ht w (hT w h).1
  have hG : GoodIn Ts ws := fun w h => hT w (by unfold va_wsS; exact List.mem_append_right _ h)
  have hc : Cond.codeWith y bytes maxL ret hh ∈ ws := by rw [hw]; exact List.mem_cons_self
  refine ⟨⟨hrc, hrs, hR.1, hR.2, pay_in ht hG, hc⟩, ht _ (hG _ hc).1, ok _ (by simp [va_wsS]), ⟨hd.1, hd.2.1⟩, fun sig h => ?_, ok _ (by simp [va_wsS]), ok _ (by simp [va_wsS])⟩
  have h2 := hd.2.2
  rw [h] at h2
  exact (Option.some.inj h2).symm
theorem vx_callSW (X : Stand p l e R s m args below meth c T locs cells slots) (hexec : p.tables.exec = Jvm.exec) {own : String} {index : Nat} {y : MethodName} {bytes : ByteArray} {maxL : Nat} {ret : Option FieldType} {hh : List (Nat × Nat × Nat × Nat)}
    (hown : s.vm.findClass own = some m.cls) (hlink : (Cond.methodLink own index y).before args s = true) (hstat : (Cond.static y).before args s = true) (hinit : (Cond.initialized y.cls).before args s = true)
    (hcode : (Cond.codeWith y bytes maxL ret hh).before args s = true) (hy : y.cls ≠ "java/lang/invoke/MethodHandle" ∧ y.cls ≠ "java/lang/invoke/VarHandle")
    {W9 : Nat} {Pre : Pt → Array Value → Prop} {Post : Pt → Array Value → Option Value → Pt → Prop} (hK : Back l R p e below s args y 3 W9 Pre Post)
    {g : JFrame} (hg : g.method = m) (hsize : g.locals.size = c.maxLocals) {argsL rest : List Value} (hlen : ∀ sig, parseMethodDescriptor y.desc = some sig → argsL.length = sig.parameters.length)
    (hstack : g.stack = argsL.reverse ++ rest) (hW : 2 * g.monitorRoom + (rest.map fun v => v.category).sum ≤ W9) (hdg : decode c.code g.pc = .ok (.invokestatic index, 3))
    (hpre : ∀ vm₁, s.WarmedH vm₁ → Pre ⟨T.setVm vm₁, locs, cells, slots⟩ argsL.toArray) :
    ∃ (v : Option Value) (vm₁ : Vm) (B : Pt), s.WarmedH vm₁ ∧ Stand p l e R s m args below meth c B.U B.locs B.cells B.slots ∧ Post ⟨T.setVm vm₁, locs, cells, slots⟩ argsL.toArray v B ∧
      ∀ target, Steps p.tables e below (B.U.setTop { g with pc := g.pc + 3, stack := v.toList ++ rest }) target → Steps p.tables e below (T.setTop g) target := by
  obtain ⟨mk, methM, cM, hnamed, hmethM, -, -, -, -, -, -, hsigM⟩ := Cond.codeWith_spec hcode
  have hstatic : methM.isStatic = true := Cond.static_spec hnamed hmethM hstat
  obtain ⟨kP, hkP, -⟩ := className_of_methodNamed hnamed
  have hinitP : kP.init = .initialized := Cond.initialized_spec (findClass_of_methodNamed hnamed) hkP hinit
  obtain ⟨vm₁, X₁, hstep₁⟩ := X.invokestatic hexec hown hlink hnamed hmethM hstatic hkP hinitP hy (g := g) hg (argsL := argsL) (rest := rest) (hlen _ hsigM) hstack hdg
  obtain ⟨v, B, X', hpost, hsteps⟩ := hK m meth c ⟨T.setVm vm₁, locs, cells, slots⟩ { g with stack := rest } (.invokestatic index) mk argsL.toArray X₁ hg hsize hdg hW (X₁.named hnamed) (hpre vm₁ X₁.warmed)
  exact ⟨v, vm₁, B, X₁.warmed, X', hpost, fun target h => hstep₁ _ fun acts => by rw [doInvoke_state]; exact hsteps.trans h⟩
theorem vx_runSW {y : MethodName} {bytes cc : ByteArray} {maxL nL mc ms n index : Nat} {ret : Option FieldType} {hh : List (Nat × Nat × Nat × Nat)} {ws : List Cond} {rm : Room} {Pc : Array Value → State → Prop} {Qc : Array Value → State → Outcome → State → Prop} {free : Addr → Prop} {Ts : List Cond} {own : String} {As rest : List Value} {g : JFrame}
    (S : CallFix p m c cc nL s args Ts own) (hM : Met l y ws rm Pc Qc mc ms free) (cw : vx_CSW R s args own index y bytes maxL ret hh ws rm mc ms n) (hp : PreS s H Pc As)
    (hg : g.method = m) (hn : As.length = n) (hsize : g.locals.size = nL) (hstack : g.stack = As.reverse ++ rest) (hW : 2 * g.monitorRoom + (rest.map fun v => v.category).sum ≤ 8) (hdg : decode cc g.pc = .ok (.invokestatic index, 3)) (hf : cells + mc ≤ R.cells ∧ slots + ms ≤ R.slots) :
    va_Run p l e R s m args below meth c H locs cells slots mc ms g rest (Qc As.toArray) (free) := by
  obtain ⟨⟨hrc, hrs, hfr, hlo, hws, hcw⟩, hcode, hini, hy, hlen, hl, hstt⟩ := cw
  have hK : Back l R p e below s args y 3 8 (PreOf R mc ms Pc) (PostOf Qc mc ms free) := va_backW (hh := hh) (bytes := bytes) (maxL := maxL) (ret := ret) hM hp.1 hrc hrs hfr hlo hws hcw (fun a' U hW => word_at hW (Or.inl (by first | rfl | simp [Cond.onTables, Cond.keeps, Cond.steady])) hini)
  obtain ⟨hx, hb, hml, ho, -⟩ := S
  intro T hT X
  obtain ⟨v, vm₁, ⟨U', l2, c2, s2⟩, hW₁, X', ⟨g', mk, t, L, e1, e2, hq, h1, hL, h2, h3⟩, st⟩ := vx_callSW X hx (hh := hh) (bytes := bytes) (maxL := maxL) (ret := ret) ho hl hstt hini hcode hy hK hg (hsize.trans hml.symm) (argsL := As) (rest := rest) (fun sig h => hn.trans (hlen sig h)) hstack hW (by rw [hb]; exact hdg)
    (fun vm₁ hW₁ => ⟨hf.1, hf.2, hp.2 (T.setVm vm₁) hT hW₁⟩)
  dsimp only [Pt.U, Pt.locs, Pt.cells, Pt.slots] at X' e1 e2 h1 h2 h3 st
  subst h1; subst h2; subst h3
  exact ⟨v, (T.setVm vm₁).calling g' mk As.toArray, t, U', L, hT, X', hL, e1, e2, hq, st⟩
/-- not caught here, past rows that name other classes: it goes on to the caller -/
theorem vx_outP {p : Program} {l : Launch} {e : Env} {R : Room} {s : State} {m : MethodId} {args : Array Value} {below : List Frame} {meth : Method} {c : Code} {H : Heap} {locs : List Loc} {cells slots : Nat} {free : Addr → Prop} {ls : Array Slot} {rest : List Value} {Qc : Array Value → State → Outcome → State → Prop} {XC : String → State → State → Prop}
    {pc : Nat} {own E : String} {ce : Cell} {q : Addr} {mc ms : Nat} (hown : s.vm.findClass own = some m.cls) (hlocks : meth.locks = false)
    (hpass : ∀ z ∈ c.exceptionTable.toList, covers z pc = false ∨ (z.catchType ≠ 0 ∧ ∃ nm : String, (Cond.classLink own z.catchType nm).before args s = true ∧ va_Nc E nm s)) (hcell : H[q]? = some ce) (hv : ce.vm = .none) (hcl : s.vm.findClass E = some ce.cls)
    (hx : ∀ t : State, t.heap = H → s.vm.Alike t.vm → XC E s t) (hf : ∀ z ∈ locs, free z.base) (hc : cells ≤ mc) (hs : slots ≤ ms) :
    vx_W p l e R s m args below meth c H locs cells slots (vx_MQ below Qc XC args s mc ms free) (F0 m pc ls rest) q := by
  intro T hT X
  have hpl : e.platform.magicAccessors = ({} : Platform).magicAccessors := by rw [X.admits.platform]
  obtain ⟨vm', hW', X', st⟩ := X.outThrough hlocks q (g := F0 m pc ls rest) rfl rfl rfl (cell := ce) (by rw [hT]; exact hcell) (by rw [hv]; rfl)
    (by obtain ⟨k9, h9, -⟩ := Vm.findClass_spec hcl; exact ⟨k9, h9⟩) (fun z hz => by
      rcases hpass z hz with h | ⟨hz0, nm, hl1, hn1⟩
      · exact Or.inl h
      · obtain ⟨c6, hc6, hcl6⟩ := Cond.classLink_spec hown hl1 e.platform hpl
        obtain ⟨a8, b8, h1, h2, h3⟩ := hn1
        cases Option.some.inj (h1.symm.trans hcl)
        cases Option.some.inj (h2.symm.trans hc6)
        exact Or.inr ⟨hz0, _, hcl6, h3⟩)
  obtain ⟨g₀, hfr⟩ := X'.frames_eq
  have hcell9 : ((T.setVm vm').setFrames (.throwing q :: below)).heap[q]? = some ce := by
    show T.heap[q]? = some ce
    rw [hT]; exact hcell
  have hend : Ended ((T.setVm vm').setFrames (.throwing q :: below)) below (.threw q) := State.frames_setFrames _ (State.cur_lt_of_frames hfr)
  refine ⟨(T.setVm vm').setFrames (.throwing q :: below), ?_, .threw q, X'.here.running, hend, Or.inr ⟨q, rfl, E, ce, locs, hx _ hT (X'.ends _).1.alike, hcell9, hv, hcl, (X'.ends _).1, (X'.ends _).2.mono hc hs, hf⟩⟩
  rw [X.pushThrowing_eq]
  exact st
/-- a thing of a world lies in the heap -/
theorem vx_lt {D : va_G} {cl : List vw_C} {ws : va_W} {H1 : Heap} (h : va_P D cl ws H1) {k : Nat} {q : Nat × va_E} (hk : ws[k]? = some q) : q.1 < H1.size := (h k q hk).lt
end VXS
/-! ===== END ===== -/
/-! ===== BEGIN methods with a table of their own: called by a name, returning or throwing ===== -/
section VXH
/-! vx_backW, vx_callVX, vx_callSX, vx_callVW, vx_runVW, vx_runVX, vx_runSX, vx_ofWH follow the same proofs as their sisters above (Free/Laws.lean, Shelf42/LK1.lean); vx_outP calls Shelf42/NT130.lean (outThrough). -/
section
variable {l : Launch} {R : Room} {p : Program} {e : Env} {below : List Frame} {s : State} {sargs : Array Value} {y : MethodName} {len W9 : Nat}
theorem vx_backW {ws : List Cond} {rm : Room} {Pc : Array Value → State → Prop} {Qc : Array Value → State → Outcome → State → Prop} {XC : String → State → State → Prop} {mc ms : Nat} {free : Addr → Prop} {bytes : ByteArray} {maxL : Nat} {ret : Option FieldType} {hh : List (Nat × Nat × Nat × Nat)}
    (hM : vx_Met l y ws rm Pc Qc XC mc ms free) (hblind : FrameBlind Pc) (hrc : rm.cells = mc) (hrs : rm.slots = ms)
    (hframes : rm.frames + 1 ≤ R.frames) (hlocals : W9 + (maxL + 11) + rm.locals ≤ R.locals)
    (hws : ∀ w ∈ ws, ∀ a' U, s.WarmedH U.vm → w.before a' U = true) (hcode : Cond.codeWith y bytes maxL ret hh ∈ ws) (hinit : ∀ a' U, s.WarmedH U.vm → (Cond.initialized y.cls).before a' U = true) :
    vx_Back l R p e below s sargs y len W9 (PreOf R mc ms Pc) (PostOf Qc mc ms free) (vx_Post XC mc ms free) := by
  intro m meth c A g ig mk a X hg hsize hdg hW hn hp
  have h1 : (headSpec ws rm).pre.before a A.U = true := atoms_intro fun w hw => hws w hw _ _ X.warmed
  have h2 : (Cond.codeWith y bytes maxL ret hh).before a A.U = true := hws _ hcode _ _ X.warmed
  have h3 : (Cond.initialized y.cls).before a A.U = true := hinit _ _ X.warmed
  have h4 : A.cells + (headSpec ws rm).room.cells ≤ R.cells := by rw [show (headSpec ws rm).room.cells = mc from hrc]; exact hp.1
  have h5 : A.slots + (headSpec ws rm).room.slots ≤ R.slots := by rw [show (headSpec ws rm).room.slots = ms from hrs]; exact hp.2.1
  have hPc : Pc a (A.U.calling g mk a) := hblind _ _ _ _ hp.2.2
  obtain ⟨U, Ls, c0, s0⟩ := A
  dsimp only [Pt.U, Pt.locs, Pt.cells, Pt.slots] at h1 h2 h3 h4 h5 X hn hPc ⊢
  obtain ⟨m9, methY, cY, hn9, hmY, hcY, -, hlY, -⟩ := Cond.codeWith_spec h2
  cases Option.some.inj (hn9.symm.trans hn)
  obtain ⟨kY, hkY, -⟩ := className_of_methodNamed hn
  have hinitY : kY.init = .initialized := Cond.initialized_spec (findClass_of_methodNamed hn) hkY h3
  have h : At U g.method c below := by rw [hg]; exact X.here
  have hlocals9 : W9 + (maxL + 11) + (headSpec ws rm).room.locals ≤ R.locals := hlocals
  have happ : (headSpec ws rm).appliesLoose y e.platform (U.calling g mk a) = true :=
    Spec.appliesLoose_calling (g := g) h hdg hn hkY hinitY
      (X.room_calling (g := g) (R' := (headSpec ws rm).room) hsize hmY hcY hframes (by rw [hlY]; omega) h4 h5) h1
  obtain ⟨mid, hmid⟩ := h.above
  have hfr : (U.setTop g).frames = (.java g :: mid) ++ below := by rw [State.frames_setTop' g h.top, hmid]; rfl
  obtain ⟨o, s₂, hsteps, -, hend, hq⟩ := Steps.callFree hM p X.admits X.cas X.clock (acts := []) hfr happ hPc trivial
  have hq' : vx_Q Qc XC mc ms free a (U.calling g mk a) o s₂ := hq
  rw [State.frames_setTop' g h.top] at hend
  obtain ⟨g₀, hg0⟩ := Option.isSome_iff_exists.mp h.top
  obtain ⟨r, hr⟩ := State.topJava?_eq_some.mp hg0
  have hr' : (({ U with heap := s₂.heap, slotsUsed := s₂.slotsUsed } : State).setVm s₂.vm).frames = .java g₀ :: r := hr
  rcases hq' with ⟨hqc, L, hfe, hL⟩ | ⟨q, rfl, E, ce, L, hx, hce, hcv, hcl, hW₂, hsm, hL⟩
  · obtain ⟨⟨v, rfl⟩, hW₂, e2, q2, q3, q4, q5, q6⟩ := id hfe
    have e3 : s₂ = ({ (U.calling g mk a).setFrames s₂.frames with heap := s₂.heap, slotsUsed := s₂.slotsUsed } : State).setVm s₂.vm := by
      have : s₂ = ({ s₂ with vm := (U.calling g mk a).vm } : State).setVm s₂.vm := rfl
      rw [e2] at this
      exact this
    obtain ⟨c₂, i₂, len₂, hc₂, hd₂, hf₂⟩ := hend
    have hW' : U.WarmedH s₂.vm := hW₂
    have hcc : c₂ = c := by
      have h1 : s₂.code? g.method = U.code? g.method := by
        rw [State.code?_eq, State.code?_eq, hW'.alike.method?]
      exact Option.some.inj (hc₂.symm.trans (h1.trans h.code))
    subst hcc
    have hlen : len₂ = len := by rw [hdg] at hd₂; cases hd₂; rfl
    subst hlen
    have hs₂ : s₂ = (({ U with heap := s₂.heap, slotsUsed := s₂.slotsUsed } : State).setVm s₂.vm).setTop { g with pc := g.pc + len₂, stack := v.toList ++ g.stack } := by
      refine e3.trans ?_
      rw [hf₂, State.calling_eq h.top, State.setFrames_setFrames, State.setTop_of_frames _ hr', hr]
      rfl
    have hsame : U.sameButNew ({ U with heap := s₂.heap, slotsUsed := s₂.slotsUsed } : State) L mc ms := by
      refine ⟨?_, q2, q3, q4, q5, q6⟩
      obtain ⟨t, ht, -⟩ := State.frames_cons hr
      show ({ U with heap := s₂.heap, slotsUsed := s₂.slotsUsed } : State) = { U.setFrames U.frames with heap := s₂.heap, slotsUsed := s₂.slotsUsed }
      rw [State.setFrames_self ht]
    subst hg
    refine Or.inl ⟨v, ⟨(({ U with heap := s₂.heap, slotsUsed := s₂.slotsUsed } : State).setVm s₂.vm), Ls ++ L, c0 + mc, s0 + ms⟩,
      ⟨X.admits, X.cas, X.clock, X.frames, X.room, X.hears, X.method, X.code, (X.here.setHeapUsed s₂.heap s₂.slotsUsed).setVm hW'.alike, X.tail, State.WarmedH.trans X.warmed hW', X.limits, X.bytes, X.same.trans (hsame.setVm s.vm)⟩,
      ⟨g, mk, s₂, L, rfl, rfl, hqc, rfl, hL, rfl, rfl⟩, ?_⟩
    show Steps p.tables e below _ ((({ U with heap := s₂.heap, slotsUsed := s₂.slotsUsed } : State).setVm s₂.vm).setTop { g with pc := g.pc + len₂, stack := v.toList ++ g.stack })
    rw [← hs₂]
    exact hsteps
  · obtain ⟨e2, q2, q3, q4, q5, q6⟩ := id hsm
    have e3 : s₂ = ({ (U.calling g mk a).setFrames s₂.frames with heap := s₂.heap, slotsUsed := s₂.slotsUsed } : State).setVm s₂.vm := by
      have : s₂ = ({ s₂ with vm := (U.calling g mk a).vm } : State).setVm s₂.vm := rfl
      rw [e2] at this
      exact this
    have hf₂ : s₂.frames = .throwing q :: .java g :: U.frames.tail := hend
    have hW' : U.WarmedH s₂.vm := hW₂
    have hs₂ : s₂ = ((({ U with heap := s₂.heap, slotsUsed := s₂.slotsUsed } : State).setVm s₂.vm).setTop g).pushFrame (.throwing q) := by
      refine e3.trans ?_
      rw [hf₂, State.calling_eq h.top, State.setFrames_setFrames, State.pushFrame, State.frames_setTop _ hr', State.setTop_of_frames _ hr', State.setFrames_setFrames, hr]
      rfl
    have hsame : U.sameButNew ({ U with heap := s₂.heap, slotsUsed := s₂.slotsUsed } : State) L mc ms := by
      refine ⟨?_, q2, q3, q4, q5, q6⟩
      obtain ⟨t, ht, -⟩ := State.frames_cons hr
      show ({ U with heap := s₂.heap, slotsUsed := s₂.slotsUsed } : State) = { U.setFrames U.frames with heap := s₂.heap, slotsUsed := s₂.slotsUsed }
      rw [State.setFrames_self ht]
    subst hg
    refine Or.inr ⟨q, ⟨(({ U with heap := s₂.heap, slotsUsed := s₂.slotsUsed } : State).setVm s₂.vm), Ls ++ L, c0 + mc, s0 + ms⟩,
      ⟨X.admits, X.cas, X.clock, X.frames, X.room, X.hears, X.method, X.code, (X.here.setHeapUsed s₂.heap s₂.slotsUsed).setVm hW'.alike, X.tail, State.WarmedH.trans X.warmed hW', X.limits, X.bytes, X.same.trans (hsame.setVm s.vm)⟩,
      ⟨g, mk, s₂, L, E, ce, rfl, rfl, hx, hce, hcv, hcl, rfl, hL, rfl, rfl⟩, ?_⟩
    show Steps p.tables e below _ (((({ U with heap := s₂.heap, slotsUsed := s₂.slotsUsed } : State).setVm s₂.vm).setTop g).pushFrame (.throwing q))
    rw [← hs₂]
    exact hsteps
end
variable {p : Program} {l : Launch} {e : Env} {R : Room} {s : State} {m : MethodId} {args : Array Value} {below : List Frame} {meth : Method} {c : Code} {T : State} {H : Heap} {locs : List Loc} {cells slots : Nat}
theorem vx_callVX (X : Stand p l e R s m args below meth c T locs cells slots) (hexec : p.tables.exec = Jvm.exec) {own C : String} {index : Nat} {y : MethodName} {bytes : ByteArray} {maxL : Nat} {ret : Option FieldType} {hh : List (Nat × Nat × Nat × Nat)}
    (hown : s.vm.findClass own = some m.cls) (hlink : (Cond.methodLink own index y).before args s = true) (hinst : (Cond.instanceMethod y).before args s = true) (hsel : (Cond.selects C y y).before args s = true)
    (hcode : (Cond.codeWith y bytes maxL ret hh).before args s = true) (hy : y.cls ≠ "java/lang/invoke/MethodHandle" ∧ y.cls ≠ "java/lang/invoke/VarHandle")
    {W9 : Nat} {Pre : Pt → Array Value → Prop} {Post : Pt → Array Value → Option Value → Pt → Prop} {PostX : Pt → Array Value → Addr → Pt → Prop} (hK : vx_Back l R p e below s args y 3 W9 Pre Post PostX)
    {b : Addr} {cellB : Cell} (hcell : T.heap[b]? = some cellB) (hobj : cellB.vm.isStatics = false) (hcls : s.vm.findClass C = some cellB.cls)
    {g : JFrame} (hg : g.method = m) (hsize : g.locals.size = c.maxLocals) {argsL rest : List Value} (hlen : ∀ sig, parseMethodDescriptor y.desc = some sig → argsL.length = sig.parameters.length)
    (hstack : g.stack = argsL.reverse ++ .ref b :: rest) (hW : 2 * g.monitorRoom + (rest.map fun v => v.category).sum ≤ W9) (hdg : decode c.code g.pc = .ok (.invokevirtual index, 3))
    (hpre : ∀ vm₁, s.WarmedH vm₁ → Pre ⟨T.setVm vm₁, locs, cells, slots⟩ (Value.ref b :: argsL).toArray) :
    (∃ (v : Option Value) (vm₁ : Vm) (B : Pt), s.WarmedH vm₁ ∧ Stand p l e R s m args below meth c B.U B.locs B.cells B.slots ∧ Post ⟨T.setVm vm₁, locs, cells, slots⟩ (Value.ref b :: argsL).toArray v B ∧
      ∀ target, Steps p.tables e below (B.U.setTop { g with pc := g.pc + 3, stack := v.toList ++ rest }) target → Steps p.tables e below (T.setTop g) target) ∨
    (∃ (q : Addr) (vm₁ : Vm) (B : Pt), s.WarmedH vm₁ ∧ Stand p l e R s m args below meth c B.U B.locs B.cells B.slots ∧ PostX ⟨T.setVm vm₁, locs, cells, slots⟩ (Value.ref b :: argsL).toArray q B ∧
      Steps p.tables e below (T.setTop g) ((B.U.setTop { g with stack := rest }).pushFrame (.throwing q))) := by
  obtain ⟨mk, methM, hnamed, hmethM, hstM, habM⟩ := Cond.instanceMethod_spec hinst
  obtain ⟨m8, methM', cM, hn8, hmethM', -, -, -, -, -, -, hsigM⟩ := Cond.codeWith_spec hcode
  cases Option.some.inj (hn8.symm.trans hnamed)
  cases hmethM.symm.trans hmethM'
  obtain ⟨c2, r2, m2, q1, q2, q3, q4, kP, hkP, hkPi⟩ := Cond.selects_spec hsel
  cases hcls.symm.trans q1
  cases (State.methodFound?_of_named hnamed hy).symm.trans q2
  cases hnamed.symm.trans q3
  have hselP : selectMethod e.platform s.vm cellB.cls mk = .method mk := by rw [Launch.admits_selectMethod X.admits]; exact q4
  obtain ⟨vm₁, X₁, hstep₁⟩ := X.invokevirtual hexec hown hlink hnamed hmethM hstM hkP hkPi hy (a := b) (cell := cellB) hcell
    (fun z h => by rw [h] at hobj; cases hobj) hselP hmethM habM hkP hkPi (g := g) hg (argsL := argsL) (rest := rest) (hlen _ hsigM) hstack hdg
  rcases hK m meth c ⟨T.setVm vm₁, locs, cells, slots⟩ { g with stack := rest } (.invokevirtual index) mk (Value.ref b :: argsL).toArray X₁ hg hsize hdg hW (X₁.named hnamed) (hpre vm₁ X₁.warmed) with ⟨v, B, X', hpost, hsteps⟩ | ⟨q, B, X', hpost, hsteps⟩
  · exact Or.inl ⟨v, vm₁, B, X₁.warmed, X', hpost, fun target h => hstep₁ _ fun acts => by rw [doInvoke_state]; exact hsteps.trans h⟩
  · exact Or.inr ⟨q, vm₁, B, X₁.warmed, X', hpost, hstep₁ _ fun acts => by rw [doInvoke_state]; exact hsteps⟩
theorem vx_callSX (X : Stand p l e R s m args below meth c T locs cells slots) (hexec : p.tables.exec = Jvm.exec) {own : String} {index : Nat} {y : MethodName} {bytes : ByteArray} {maxL : Nat} {ret : Option FieldType} {hh : List (Nat × Nat × Nat × Nat)}
    (hown : s.vm.findClass own = some m.cls) (hlink : (Cond.methodLink own index y).before args s = true) (hstat : (Cond.static y).before args s = true) (hinit : (Cond.initialized y.cls).before args s = true)
    (hcode : (Cond.codeWith y bytes maxL ret hh).before args s = true) (hy : y.cls ≠ "java/lang/invoke/MethodHandle" ∧ y.cls ≠ "java/lang/invoke/VarHandle")
    {W9 : Nat} {Pre : Pt → Array Value → Prop} {Post : Pt → Array Value → Option Value → Pt → Prop} {PostX : Pt → Array Value → Addr → Pt → Prop} (hK : vx_Back l R p e below s args y 3 W9 Pre Post PostX)
    {g : JFrame} (hg : g.method = m) (hsize : g.locals.size = c.maxLocals) {argsL rest : List Value} (hlen : ∀ sig, parseMethodDescriptor y.desc = some sig → argsL.length = sig.parameters.length)
    (hstack : g.stack = argsL.reverse ++ rest) (hW : 2 * g.monitorRoom + (rest.map fun v => v.category).sum ≤ W9) (hdg : decode c.code g.pc = .ok (.invokestatic index, 3))
    (hpre : ∀ vm₁, s.WarmedH vm₁ → Pre ⟨T.setVm vm₁, locs, cells, slots⟩ argsL.toArray) :
    (∃ (v : Option Value) (vm₁ : Vm) (B : Pt), s.WarmedH vm₁ ∧ Stand p l e R s m args below meth c B.U B.locs B.cells B.slots ∧ Post ⟨T.setVm vm₁, locs, cells, slots⟩ argsL.toArray v B ∧
      ∀ target, Steps p.tables e below (B.U.setTop { g with pc := g.pc + 3, stack := v.toList ++ rest }) target → Steps p.tables e below (T.setTop g) target) ∨
    (∃ (q : Addr) (vm₁ : Vm) (B : Pt), s.WarmedH vm₁ ∧ Stand p l e R s m args below meth c B.U B.locs B.cells B.slots ∧ PostX ⟨T.setVm vm₁, locs, cells, slots⟩ argsL.toArray q B ∧
      Steps p.tables e below (T.setTop g) ((B.U.setTop { g with stack := rest }).pushFrame (.throwing q))) := by
  obtain ⟨mk, methM, cM, hnamed, hmethM, -, -, -, -, -, -, hsigM⟩ := Cond.codeWith_spec hcode
  have hstatic : methM.isStatic = true := Cond.static_spec hnamed hmethM hstat
  obtain ⟨kP, hkP, -⟩ := className_of_methodNamed hnamed
  have hinitP : kP.init = .initialized := Cond.initialized_spec (findClass_of_methodNamed hnamed) hkP hinit
  obtain ⟨vm₁, X₁, hstep₁⟩ := X.invokestatic hexec hown hlink hnamed hmethM hstatic hkP hinitP hy (g := g) hg (argsL := argsL) (rest := rest) (hlen _ hsigM) hstack hdg
  rcases hK m meth c ⟨T.setVm vm₁, locs, cells, slots⟩ { g with stack := rest } (.invokestatic index) mk argsL.toArray X₁ hg hsize hdg hW (X₁.named hnamed) (hpre vm₁ X₁.warmed) with ⟨v, B, X', hpost, hsteps⟩ | ⟨q, B, X', hpost, hsteps⟩
  · exact Or.inl ⟨v, vm₁, B, X₁.warmed, X', hpost, fun target h => hstep₁ _ fun acts => by rw [doInvoke_state]; exact hsteps.trans h⟩
  · exact Or.inr ⟨q, vm₁, B, X₁.warmed, X', hpost, hstep₁ _ fun acts => by rw [doInvoke_state]; exact hsteps⟩
theorem vx_callVW (X : Stand p l e R s m args below meth c T locs cells slots) (hexec : p.tables.exec = Jvm.exec) {own C : String} {index : Nat} {y : MethodName} {bytes : ByteArray} {maxL : Nat} {ret : Option FieldType} {hh : List (Nat × Nat × Nat × Nat)}
    (hown : s.vm.findClass own = some m.cls) (hlink : (Cond.methodLink own index y).before args s = true) (hinst : (Cond.instanceMethod y).before args s = true) (hsel : (Cond.selects C y y).before args s = true)
    (hcode : (Cond.codeWith y bytes maxL ret hh).before args s = true) (hy : y.cls ≠ "java/lang/invoke/MethodHandle" ∧ y.cls ≠ "java/lang/invoke/VarHandle")
    {W9 : Nat} {Pre : Pt → Array Value → Prop} {Post : Pt → Array Value → Option Value → Pt → Prop} (hK : Back l R p e below s args y 3 W9 Pre Post)
    {b : Addr} {cellB : Cell} (hcell : T.heap[b]? = some cellB) (hobj : cellB.vm.isStatics = false) (hcls : s.vm.findClass C = some cellB.cls)
    {g : JFrame} (hg : g.method = m) (hsize : g.locals.size = c.maxLocals) {argsL rest : List Value} (hlen : ∀ sig, parseMethodDescriptor y.desc = some sig → argsL.length = sig.parameters.length)
    (hstack : g.stack = argsL.reverse ++ .ref b :: rest) (hW : 2 * g.monitorRoom + (rest.map fun v => v.category).sum ≤ W9) (hdg : decode c.code g.pc = .ok (.invokevirtual index, 3))
    (hpre : ∀ vm₁, s.WarmedH vm₁ → Pre ⟨T.setVm vm₁, locs, cells, slots⟩ (Value.ref b :: argsL).toArray) :
    ∃ (v : Option Value) (vm₁ : Vm) (B : Pt), s.WarmedH vm₁ ∧ Stand p l e R s m args below meth c B.U B.locs B.cells B.slots ∧ Post ⟨T.setVm vm₁, locs, cells, slots⟩ (Value.ref b :: argsL).toArray v B ∧
      ∀ target, Steps p.tables e below (B.U.setTop { g with pc := g.pc + 3, stack := v.toList ++ rest }) target → Steps p.tables e below (T.setTop g) target := by
  obtain ⟨mk, methM, hnamed, hmethM, hstM, habM⟩ := Cond.instanceMethod_spec hinst
  obtain ⟨m8, methM', cM, hn8, hmethM', -, -, -, -, -, -, hsigM⟩ := Cond.codeWith_spec hcode
  cases Option.some.inj (hn8.symm.trans hnamed)
  cases hmethM.symm.trans hmethM'
  obtain ⟨c2, r2, m2, q1, q2, q3, q4, kP, hkP, hkPi⟩ := Cond.selects_spec hsel
  cases hcls.symm.trans q1
  cases (State.methodFound?_of_named hnamed hy).symm.trans q2
  cases hnamed.symm.trans q3
  have hselP : selectMethod e.platform s.vm cellB.cls mk = .method mk := by rw [Launch.admits_selectMethod X.admits]; exact q4
  obtain ⟨vm₁, X₁, hstep₁⟩ := X.invokevirtual hexec hown hlink hnamed hmethM hstM hkP hkPi hy (a := b) (cell := cellB) hcell
    (fun z h => by rw [h] at hobj; cases hobj) hselP hmethM habM hkP hkPi (g := g) hg (argsL := argsL) (rest := rest) (hlen _ hsigM) hstack hdg
  obtain ⟨v, B, X', hpost, hsteps⟩ := hK m meth c ⟨T.setVm vm₁, locs, cells, slots⟩ { g with stack := rest } (.invokevirtual index) mk (Value.ref b :: argsL).toArray X₁ hg hsize hdg hW (X₁.named hnamed) (hpre vm₁ X₁.warmed)
  exact ⟨v, vm₁, B, X₁.warmed, X', hpost, fun target h => hstep₁ _ fun acts => by rw [doInvoke_state]; exact hsteps.trans h⟩
abbrev vx_CVW (R : Room) (s : State) (args : Array Value) (own C : String) (index : Nat) (y : MethodName) (bytes : ByteArray) (maxL : Nat) (ret : Option FieldType) (hh : List (Nat × Nat × Nat × Nat)) (ws : List Cond) (rm : Room) (mc ms n : Nat) : Prop :=
  (rm.cells = mc ∧ rm.slots = ms ∧ rm.frames + 1 ≤ R.frames ∧ 8 + (maxL + 11) + rm.locals ≤ R.locals ∧ (∀ w ∈ ws, ∀ (a' : Array Value) (U : State), s.WarmedH U.vm → w.before a' U = true) ∧ Cond.codeWith y bytes maxL ret hh ∈ ws) ∧
  (Cond.codeWith y bytes maxL ret hh).before args s = true ∧ (Cond.initialized y.cls).before args s = true ∧ (y.cls ≠ "java/lang/invoke/MethodHandle" ∧ y.cls ≠ "java/lang/invoke/VarHandle") ∧
  (∀ sig, parseMethodDescriptor y.desc = some sig → n = sig.parameters.length) ∧ (Cond.methodLink own index y).before args s = true ∧ (Cond.instanceMethod y).before args s = true ∧ (Cond.selects C y y).before args s = true
theorem vx_cwVW {own C : String} {index maxL mc ms : Nat} {y : MethodName} {bytes : ByteArray} {ret : Option FieldType} {hh : List (Nat × Nat × Nat × Nat)} {Ts ws ws' : List Cond} {rm : Room} (n : Nat) (ht : ∀ w ∈ Ts, w.before args s = true) (hT : GoodIn Ts (wsV own index C y ws)) (hw : ws = Cond.codeWith y bytes maxL ret hh :: ws') (hrc : rm.cells = mc) (hrs : rm.slots = ms)
    (hd : y.cls = C ∧ y.cls ≠ "java/lang/invoke/MethodHandle" ∧ y.cls ≠ "java/lang/invoke/VarHandle" ∧ (parseMethodDescriptor y.desc).map (fun d => d.parameters.length) = some n) (hR : rm.frames + 1 ≤ R.frames ∧ 8 + (maxL + 11) + rm.locals ≤ R.locals) :
    vx_CVW R s args own C index y bytes maxL ret hh ws rm mc ms n := by
  obtain ⟨hC, hd⟩ := hd
  subst hC
  have ok : ∀ w ∈ wsV own index y.cls y ws, w.before args s = true := fun w h => ht w (hT w h).1
  have hG : GoodIn Ts ws := fun w h => hT w (by unfold wsV; exact List.mem_append_right _ h)
  have hc : Cond.codeWith y bytes maxL ret hh ∈ ws := by rw [hw]; exact List.mem_cons_self
  refine ⟨⟨hrc, hrs, hR.1, hR.2, pay_in ht hG, hc⟩, ht _ (hG _ hc).1, ok _ (by simp [wsV]), ⟨hd.1, hd.2.1⟩, fun sig h => ?_, ok _ (by simp [wsV]), ok _ (by simp [wsV]), ok _ (by simp [wsV])⟩
  have h2 := hd.2.2
  rw [h] at h2
  exact (Option.some.inj h2).symm
theorem vx_runVW {y : MethodName} {bytes cc : ByteArray} {maxL nL mc ms n index : Nat} {ret : Option FieldType} {hh : List (Nat × Nat × Nat × Nat)} {ws : List Cond} {rm : Room} {Pc : Array Value → State → Prop} {Qc : Array Value → State → Outcome → State → Prop} {free : Addr → Prop} {Ts : List Cond} {own C : String} {b : Addr} {As rest : List Value} {g : JFrame}
    (S : CallFix p m c cc nL s args Ts own) (hM : Met l y ws rm Pc Qc mc ms free) (cw : vx_CVW R s args own C index y bytes maxL ret hh ws rm mc ms n) (hp : PreV s H C b Pc As)
    (hg : g.method = m) (hn : As.length = n) (hsize : g.locals.size = nL) (hstack : g.stack = As.reverse ++ .ref b :: rest) (hW : 2 * g.monitorRoom + (rest.map fun v => v.category).sum ≤ 8) (hdg : decode cc g.pc = .ok (.invokevirtual index, 3)) (hf : cells + mc ≤ R.cells ∧ slots + ms ≤ R.slots) :
    va_Run p l e R s m args below meth c H locs cells slots mc ms g rest (Qc (Value.ref b :: As).toArray) free := by
  obtain ⟨⟨hrc, hrs, hfr, hlo, hws, hcw⟩, hcode, hini, hy, hlen, hl, hin, hse⟩ := cw
  have hK : Back l R p e below s args y 3 8 (PreOf R mc ms Pc) (PostOf Qc mc ms free) := va_backW (hh := hh) (bytes := bytes) (maxL := maxL) (ret := ret) hM hp.1 hrc hrs hfr hlo hws hcw (fun a' U hW => word_at hW (Or.inl (by first | rfl | simp [Cond.onTables, Cond.keeps, Cond.steady])) hini)
  obtain ⟨hx, hb, hml, ho, -⟩ := S
  obtain ⟨-, ⟨cellB, hcB, hoB, hclB⟩, hPc⟩ := hp
  intro T hT X
  obtain ⟨v, vm₁, ⟨U', l2, c2, s2⟩, hW₁, X', ⟨g', mk, t, L, e1, e2, hq, h1, hL, h2, h3⟩, st⟩ := vx_callVW X hx (C := C) (hh := hh) (bytes := bytes) (maxL := maxL) (ret := ret) ho hl hin hse hcode hy hK (by rw [hT]; exact hcB) hoB hclB hg (hsize.trans hml.symm) (argsL := As) (rest := rest) (fun sig h => hn.trans (hlen sig h)) hstack hW (by rw [hb]; exact hdg)
    (fun vm₁ hW₁ => ⟨hf.1, hf.2, hPc (T.setVm vm₁) hT hW₁⟩)
  dsimp only [Pt.U, Pt.locs, Pt.cells, Pt.slots] at X' e1 e2 h1 h2 h3 st
  subst h1; subst h2; subst h3
  exact ⟨v, (T.setVm vm₁).calling g' mk (Value.ref b :: As).toArray, t, U', L, hT, X', hL, e1, e2, hq, st⟩
section
variable {y : MethodName} {bytes cc : ByteArray} {maxL nL mc ms n index : Nat} {ret : Option FieldType} {ws : List Cond} {rm : Room} {Pc : Array Value → State → Prop} {Qc : Array Value → State → Outcome → State → Prop} {XC : String → State → State → Prop} {free : Addr → Prop} {Ts : List Cond} {own C : String} {b : Addr} {As rest : List Value} {g : JFrame}
theorem vx_runVX {hh : List (Nat × Nat × Nat × Nat)} (S : CallFix p m c cc nL s args Ts own) (hM : vx_Met l y ws rm Pc Qc XC mc ms free) (cw : vx_CVW R s args own C index y bytes maxL ret hh ws rm mc ms n) (hp : PreV s H C b Pc As)
    (hg : g.method = m) (hn : As.length = n) (hsize : g.locals.size = nL) (hstack : g.stack = As.reverse ++ .ref b :: rest) (hW : 2 * g.monitorRoom + (rest.map fun v => v.category).sum ≤ 8) (hdg : decode cc g.pc = .ok (.invokevirtual index, 3)) (hf : cells + mc ≤ R.cells ∧ slots + ms ≤ R.slots) :
    vx_Run p l e R s m args below meth c H locs cells slots mc ms g rest (Qc (Value.ref b :: As).toArray) XC free := by
  obtain ⟨⟨hrc, hrs, hfr, hlo, hws, hcw⟩, hcode, hini, hy, hlen, hl, hin, hse⟩ := cw
  have hK : vx_Back l R p e below s args y 3 8 (PreOf R mc ms Pc) (PostOf Qc mc ms free) (vx_Post XC mc ms free) := vx_backW (hh := hh) (bytes := bytes) (maxL := maxL) (ret := ret) hM hp.1 hrc hrs hfr hlo hws hcw (fun a' U hW => word_at hW (Or.inl (by first | rfl | simp [Cond.onTables, Cond.keeps, Cond.steady])) hini)
  obtain ⟨hx, hb, hml, ho, -⟩ := S
  obtain ⟨-, ⟨cellB, hcB, hoB, hclB⟩, hPc⟩ := hp
  intro T hT X
  rcases vx_callVX X hx (C := C) (hh := hh) (bytes := bytes) (maxL := maxL) (ret := ret) ho hl hin hse hcode hy hK (by rw [hT]; exact hcB) hoB hclB hg (hsize.trans hml.symm) (argsL := As) (rest := rest) (fun sig h => hn.trans (hlen sig h)) hstack hW (by rw [hb]; exact hdg)
    (fun vm₁ hW₁ => ⟨hf.1, hf.2, hPc (T.setVm vm₁) hT hW₁⟩) with ⟨v, vm₁, ⟨U', l2, c2, s2⟩, hW₁, X', ⟨g', mk, t, L, e1, e2, hq, h1, hL, h2, h3⟩, st⟩ | ⟨q, vm₁, ⟨U', l2, c2, s2⟩, hW₁, X', ⟨g', mk, t, L, E, ce, e1, e2, hq, hce, hcv, hcl, h1, hL, h2, h3⟩, st⟩
  · dsimp only [Pt.U, Pt.locs, Pt.cells, Pt.slots] at X' e1 e2 h1 h2 h3 st
    subst h1; subst h2; subst h3
    exact Or.inl ⟨v, (T.setVm vm₁).calling g' mk (Value.ref b :: As).toArray, t, U', L, hT, X', hL, e1, e2, hq, st⟩
  · dsimp only [Pt.U, Pt.locs, Pt.cells, Pt.slots] at X' e1 e2 h1 h2 h3 st hcl
    subst h1; subst h2; subst h3
    exact Or.inr ⟨q, (T.setVm vm₁).calling g' mk (Value.ref b :: As).toArray, t, U', L, E, ce, hT, X', hL, e1, e2, hq, hce, hcv, vx_cls hW₁ hcl, st⟩
theorem vx_runSX {hh : List (Nat × Nat × Nat × Nat)} (S : CallFix p m c cc nL s args Ts own) (hM : vx_Met l y ws rm Pc Qc XC mc ms free) (cw : vx_CSW R s args own index y bytes maxL ret hh ws rm mc ms n) (hp : PreS s H Pc As)
    (hg : g.method = m) (hn : As.length = n) (hsize : g.locals.size = nL) (hstack : g.stack = As.reverse ++ rest) (hW : 2 * g.monitorRoom + (rest.map fun v => v.category).sum ≤ 8) (hdg : decode cc g.pc = .ok (.invokestatic index, 3)) (hf : cells + mc ≤ R.cells ∧ slots + ms ≤ R.slots) :
    vx_Run p l e R s m args below meth c H locs cells slots mc ms g rest (Qc As.toArray) XC free := by
  obtain ⟨⟨hrc, hrs, hfr, hlo, hws, hcw⟩, hcode, hini, hy, hlen, hl, hstt⟩ := cw
  have hK : vx_Back l R p e below s args y 3 8 (PreOf R mc ms Pc) (PostOf Qc mc ms free) (vx_Post XC mc ms free) := vx_backW (hh := hh) (bytes := bytes) (maxL := maxL) (ret := ret) hM hp.1 hrc hrs hfr hlo hws hcw (fun a' U hW => word_at hW (Or.inl (by first | rfl | simp [Cond.onTables, Cond.keeps, Cond.steady])) hini)
  obtain ⟨hx, hb, hml, ho, -⟩ := S
  intro T hT X
  rcases vx_callSX X hx (hh := hh) (bytes := bytes) (maxL := maxL) (ret := ret) ho hl hstt hini hcode hy hK hg (hsize.trans hml.symm) (argsL := As) (rest := rest) (fun sig h => hn.trans (hlen sig h)) hstack hW (by rw [hb]; exact hdg)
    (fun vm₁ hW₁ => ⟨hf.1, hf.2, hp.2 (T.setVm vm₁) hT hW₁⟩) with ⟨v, vm₁, ⟨U', l2, c2, s2⟩, hW₁, X', ⟨g', mk, t, L, e1, e2, hq, h1, hL, h2, h3⟩, st⟩ | ⟨q, vm₁, ⟨U', l2, c2, s2⟩, hW₁, X', ⟨g', mk, t, L, E, ce, e1, e2, hq, hce, hcv, hcl, h1, hL, h2, h3⟩, st⟩
  · dsimp only [Pt.U, Pt.locs, Pt.cells, Pt.slots] at X' e1 e2 h1 h2 h3 st
    subst h1; subst h2; subst h3
    exact Or.inl ⟨v, (T.setVm vm₁).calling g' mk As.toArray, t, U', L, hT, X', hL, e1, e2, hq, st⟩
  · dsimp only [Pt.U, Pt.locs, Pt.cells, Pt.slots] at X' e1 e2 h1 h2 h3 st hcl
    subst h1; subst h2; subst h3
    exact Or.inr ⟨q, (T.setVm vm₁).calling g' mk As.toArray, t, U', L, E, ce, hT, X', hL, e1, e2, hq, hce, hcv, vx_cls hW₁ hcl, st⟩
end
end VXH
theorem vx_ofWH {l : Launch} {y : MethodName} {ws ws' : List Cond} {rm : Room} {Pc : Array Value → State → Prop} {Qc : Array Value → State → Outcome → State → Prop} {XC : String → State → State → Prop} {mc ms : Nat} {free : Addr → Prop} {cc : ByteArray} {maxL : Nat} {ret : Option FieldType} {hh : List (Nat × Nat × Nat × Nat)}
    (hy : plainName y.cls = true) (hw : ws = Cond.codeWith y cc maxL ret hh :: ws')
    (body : ∀ p e s m args below meth c s₁, BodyLoose p l y (headSpec ws rm) cc maxL ret e s m args below meth c s₁ → c.maxLocals = maxL → Pc args s →
      W p l e (headSpec ws rm).room s m args below meth c s.heap [] 0 0 (vx_MQ below Qc XC args s mc ms free) (entryFrame m args maxL)) : vx_Met l y ws rm Pc Qc XC mc ms free := by
  refine MetFree.of_bodyS (code := cc) (maxLocals := maxL) (ret := ret) hy ?_ ?_
  · intro args s m h hn
    obtain ⟨m9, meth, c, hn9, h1, h2, h3, h4, -, h5, h6, -⟩ := Cond.codeWith_spec (atoms_spec (ws := ws) h _ (by rw [hw]; exact List.mem_cons_self))
    cases hn.symm.trans hn9
    exact ⟨meth, c, h1, h2, h3, h4, h5, h6⟩
  · intro p e s m args below meth c s₁ B hml hP _
    have hh0 : s₁.heap = s.heap := by rw [B.state]; rfl
    obtain ⟨t, a1, o, b1, b2, b3⟩ := body p e s m args below meth c s₁ B hml hP s₁ hh0 (Stand.of_body B)
    exact ⟨t, o, a1, b1, b2, b3⟩
/-! ===== END ===== -/
/-! ===== BEGIN what the machine throws by itself, no traces kept ===== -/
section VXM
set_option maxHeartbeats 1000000 in
/-- the machine throws cls with the message text, no traces kept: from its note over the frame g to 'throwing' over the same frame (follows the proofs of Stand.vmThrowsMessage, Shelf/KitTracedVmS.lean, and Stand.throwsMessageColdBareV, StandMessageColdV.lean, without the step out of the frame) -/
theorem vx_vmAt {p : Program} {l : Launch} {e : Env} {R : Room} {s : State} {m₀ : MethodId} {args : Array Value} {below : List Frame} {meth : Method} {c : Code} {W : State} {locs : List Loc} {cells slots : Nat}
    (X : Stand p l e R s m₀ args below meth c W locs cells slots) (hexec : p.tables.exec = Jvm.exec) (htr : e.platform.stackTraces = false) {cls : String} {names : List String} {text : String}
    (hcls : Bundle.fit cls = true) (hnames : ∀ n ∈ names, Bundle.fit n = true) (hsoe : (cls == "java/lang/StackOverflowError") = false) (hoom : (cls == "java/lang/OutOfMemoryError") = false)
    (h : ∀ a ∈ Bundle.messageArmAtoms cls names, a.before args s = true)
    (hlocs : ∀ x ∈ locs, ∀ cell, s.heap[x.base]? = some cell → cell.vm.isStatics = false)
    (htext : (text == notModelled) = false) (hlimit : ¬ (stringBytes (stringToUtf16 text)).size > e.platform.arrayLengthLimit) (hheap : ¬ (stringBytes (stringToUtf16 text)).size * componentBytes .byte > e.platform.maxHeapBytes)
    {g : JFrame} (hg : g.method = m₀) (hsize : g.locals.size = c.maxLocals)
    (hRframes : names.length + 4 < R.frames) (hRlocals : 2 * g.monitorRoom + (g.stack.map fun v => v.category).sum + 10240 ≤ R.locals) (hshort : 13 * names.length + 55 ≤ 10240)
    (hRcells : cells + 3 ≤ R.cells) (hRslots : slots + ((stringBytes (stringToUtf16 text)).size + 4 + 6) ≤ R.slots) (hlocks : meth.locks = false) :
    ∃ (S : State) (q : Addr) (ce : Cell), (∀ target, Steps p.tables e below ((S.setTop g).pushFrame (.throwing q)) target → Steps p.tables e below ((W.setTop g).pushFrame (.throwNew cls (some text) none)) target) ∧
      Stand p l e R s m₀ args below meth c S locs (cells + 3) (slots + ((stringBytes (stringToUtf16 text)).size + 4 + 6)) ∧ S.heap[q]? = some ce ∧ s.vm.findClass cls = some ce.cls ∧ ce.vm = .none := by
  have howns : e.platform.frameOwnsMonitors = true := by rw [X.admits.platform]
  have hfin : e.platform.finalization = false := by rw [X.admits.platform]
  have hpl : e.platform.magicAccessors = ({} : Platform).magicAccessors := by rw [X.admits.platform]
  have a : ∀ x, x ∈ Bundle.messageArmAtoms cls names → x.holds args s none s [] = true := fun x hx => h x hx
  obtain ⟨T, Z0, L, -, Y⟩ := ThrowableC.of_atoms (args := args) howns hfin hpl (fun x hx => h x (by simp [Bundle.messageArmAtoms, hx]))
  obtain ⟨Z, M, LZ, LM, hnZ⟩ := Init0T.ofS_atoms (args := args) hpl L Y (fun x hx => h x (by simp [Bundle.messageArmAtoms, hx]))
  obtain ⟨P1, Ps, hlen, L1, hL, hP1m, hlink1, hlink⟩ := Bundle.chainS (args := args) hpl hnZ names cls hcls hnames (fun x hx => h x (by simp [Bundle.messageArmAtoms, hx]))
  obtain ⟨Zs, LZs, hn4, hfitv, hfitc⟩ := StringT.of_atoms (args := args) (fun x hx => h x (by simp [Bundle.messageArmAtoms, hx]))
  have hfound : s.vm.findClass cls = some P1.m.cls := findClass_of_methodNamed hP1m
  obtain ⟨c1, kX, hc1, hk, hord, -, -, hn6⟩ := Cond.instantiable_spec (a (.instantiable cls 6) (by simp [Bundle.messageArmAtoms]))
  cases Option.some.inj (hc1.symm.trans hfound)
  have hinit := Cond.initialized_spec hfound hk (a (.initialized cls) (by simp [Bundle.messageArmAtoms]))
  have hctor : kX.findMethod "<init>" "(Ljava/lang/String;)V" = some P1.m.idx := findMethod_of_methodNamed hP1m hk
  have hsel0 : selectMethod e.platform s.vm P1.m.cls T.fill0 = .method T.fill0 := by
    obtain ⟨c2, r2, m2, q1, q2, q3, q4, -⟩ := Cond.selects_spec (a (.selects cls Bundle.tFill0 Bundle.tFill0) (by simp [Bundle.messageArmAtoms]))
    cases Option.some.inj (q1.symm.trans hfound)
    cases Option.some.inj (q2.symm.trans (State.methodFound?_of_named Y.fill0 (by decide)))
    cases Option.some.inj (q3.symm.trans Y.fill0)
    rw [Launch.admits_selectMethod X.admits]; exact q4
  have hselF : selectMethod e.platform s.vm P1.m.cls T.fill = .method T.fill := by
    obtain ⟨c2, r2, m2, q1, q2, q3, q4, -⟩ := Cond.selects_spec (a (.selects cls Bundle.tFill Bundle.tFill) (by simp [Bundle.messageArmAtoms]))
    cases Option.some.inj (q1.symm.trans hfound)
    cases Option.some.inj (q2.symm.trans (State.methodFound?_of_named Y.fill (by decide)))
    cases Option.some.inj (q3.symm.trans Y.fill)
    rw [Launch.admits_selectMethod X.admits]; exact q4
  obtain ⟨cellS0, hcS0, hiss⟩ := Y.statics
  obtain ⟨u0, hu0⟩ := Cond.staticRefV Y.unassigned L.unassignedStatic L.statics hcS0 hiss (a (.isRef (.static Bundle.tN "UNASSIGNED_STACK" Bundle.steD)) (by simp [Bundle.messageArmAtoms]))
  obtain ⟨sen, hsen⟩ := Cond.staticRefV Y.sentinel L.sentinelStatic L.statics hcS0 hiss (a (.isRef (.static Bundle.tN "SUPPRESSED_SENTINEL" Bundle.listD)) (by simp [Bundle.messageArmAtoms]))
  obtain ⟨ci198, i198, fB, hk198, hg198, ha198, hsB, -, hnB, htB, hffB⟩ := Cond.ownField (t := .object "java/lang/Object") Y.found L.cls (by decide +kernel) (a (.fieldLink Bundle.tN 198 Bundle.tN "backtrace" "Ljava/lang/Object;") (by simp [Bundle.messageArmAtoms])) (a (.lays Bundle.tN Bundle.tN "backtrace" "Ljava/lang/Object;") (by simp [Bundle.messageArmAtoms])) e.platform hpl
  obtain ⟨cellS, hcS', heS, -, hkeep⟩ := X.same.2.2.2.2.2 T.aS cellS0 hcS0
  have hcellS : W.heap[T.aS]? = some cellS := hcS'
  have hout' : ∀ i, (⟨T.aS, i⟩ : Loc) ∉ locs := fun i hmem => by
    have := hlocs _ hmem cellS0 hcS0
    rw [hiss] at this; cases this
  have hknownS : cellS.vm ≠ .unknown := by
    rw [heS]; intro hu
    rw [show cellS0.vm = .unknown from hu] at hiss
    cases hiss
  have hvU : cellS.slots[T.fUnassigned.slot]? = some u0.v := by rw [hkeep _ (hout' _)]; exact hu0
  have hvSen : cellS.slots[T.fSentinel.slot]? = some sen.v := by rw [hkeep _ (hout' _)]; exact hsen
  obtain ⟨iM, hffM⟩ := Y.msg
  obtain ⟨tyC, dC, hdC, hdnC⟩ := Cond.laysAt hfound hk Y.cause (a (.lays cls Bundle.tN "cause" "Ljava/lang/Throwable;") (by simp [Bundle.messageArmAtoms]))
  obtain ⟨tyS, dS, hdS, hdnS⟩ := Cond.laysAt hfound hk Y.stack (a (.lays cls Bundle.tN "stackTrace" Bundle.steD) (by simp [Bundle.messageArmAtoms]))
  obtain ⟨tyP, dP, hdP, hdnP⟩ := Cond.laysAt hfound hk Y.supp (a (.lays cls Bundle.tN "suppressedExceptions" Bundle.listD) (by simp [Bundle.messageArmAtoms]))
  obtain ⟨tyM, dM, hdM, hdnM⟩ := Cond.laysAt hfound hk hffM (a (.lays cls Bundle.tN "detailMessage" "Ljava/lang/String;") (by simp [Bundle.messageArmAtoms]))
  obtain ⟨tyB, dB, hdB, hdnB⟩ := Cond.laysAt hfound hk hffB (a (.lays cls Bundle.tN "backtrace" "Ljava/lang/Object;") (by simp [Bundle.messageArmAtoms]))
  have bC := Cond.laysApart hdB hdC hdnB hdnC (by rw [hnB, Y.causeName]; decide)
  have bS := Cond.laysApart hdB hdS hdnB hdnS (by rw [hnB, Y.stackName]; decide)
  have bP := Cond.laysApart hdB hdP hdnB hdnP (by rw [hnB, Y.suppName]; decide)
  have hbk : ((preparedCellV T.toThrowableT (freshCell P1.m.cls kX) (W.heap.size + 2) u0 sen).withEntry W.cur).slots[fB.slot]? = some .null := by
    have := fresh_default (c := P1.m.cls) tyB
    rw [htB] at this
    simpa [preparedCellV, Cell.setSlot, Cell.withEntry, Array.getElem?_setIfInBounds, bC, bS, bP, bC.symm, bS.symm, bP.symm, defaultValue] using this
  have tkC := Takes.of_laid (v := .ref (W.heap.size + 2)) hk hord tyC (by rw [Y.causeType]; rfl)
  have tkS := Takes.of_laid (v := u0.v) hk hord tyS (by rw [Y.stackType]; exact fits_refV_array _ u0)
  have tkP := Takes.of_laid (v := sen.v) hk hord tyP (by rw [Y.suppType]; exact fits_refV_object _ sen)
  have tkM := Takes.of_laid (v := .ref (W.heap.size + 1)) hk hord tyM (by rw [Y.msgType]; rfl)
  have hskip : SkipFacts T e.platform s (fun u => u) u0 ((preparedCellV T.toThrowableT (freshCell P1.m.cls kX) (W.heap.size + 2) u0 sen).withEntry W.cur) := ⟨{ ci198 := ci198, i198 := i198, fBack := fB }, ⟨hk198, hg198, ha198, hsB⟩, hbk, fun _ _ => rfl⟩
  have h0 : At W g.method c below := by rw [hg]; exact X.here
  obtain ⟨hbeyond, hfreeW⟩ := X.vmMayThrow hsize (.throwNew cls (some text) none) (fun f hf => by cases hf) rfl hRlocals
  have hfr' : W.frames.length + Ps.length + 4 < (e.platform.stackLimits W.me).1 := by have := X.framesAbove hRframes; omega
  have hwd' : (stackUse (.java g :: W.frames.tail)).2 + 13 * Ps.length + 55 ≤ (e.platform.stackLimits W.me).2 := by have := X.stackAbove hsize (K := 13 * Ps.length + 55) (by omega); omega
  have hslots : W.slotsUsed + (stringBytes (stringToUtf16 text)).size + Zs.kS.instanceTypes.size + kX.instanceTypes.size ≤ e.platform.maxSlots := by
    have := X.slotsAbove hRslots
    rw [hn4, hn6]
    omega
  obtain ⟨vm', hW', st⟩ := Steps.vmThrowsMessageColdByV p (s₀ := s) (S := W) (g := g) h0 hexec T L Z LZ M LM X.warmed (t := W.cur) rfl Zs LZs P1 L1 Ps hL hlink1 hlink hsoe hoom hfound hk hinit hord hctor
    (Launch.admits_hotImplicitExceptions X.admits) hbeyond hfreeW htext hlimit hheap (X.cellsAbove hRcells) hslots (hfitv _) (hfitc _)
    (Nn := fun u => u) heapOnly_id (fun _ _ => rfl) (fun _ => rfl) (fun u x y => setCell_twice _ _ _ _) (fun _ => Nat.le_refl _) (cN := ((preparedCellV T.toThrowableT (freshCell P1.m.cls kX) (W.heap.size + 2) u0 sen).withEntry W.cur))
    hsel0 hcellS hknownS hvU tkS (fun _ hu => hu) (fun _ hu => hu) rfl rfl rfl (by simp [preparedCellV, Cell.setSlot, Cell.withEntry]) hskip (fun _ _ hA hW _ hroom _ hrest => L.nativeOff p htr hA hW hroom hrest) hselF hvSen tkC tkP tkM Y.objLocals rfl hfr' hwd'
  rw [plainBareV_eq T.toThrowableT (W.heap.size + 2) u0 sen (.ref (W.heap.size + 1)) W.cur rfl rfl] at st
  obtain ⟨-, -, w3, w4, -, -, -⟩ := withThrown_facts e.platform W Zs text P1.m.cls kX
  have X3 := ((X.pushed (bytesOf Zs.cB (stringToUtf16 text))).pushed (stringAt Zs.cS Zs.kS Zs.fv Zs.fc (stringToUtf16 text) W.heap.size)).pushed (freshCell P1.m.cls kX)
  rw [← withString_eq] at X3
  have X4 := X3.noted hW'
  have ha : (W.heap.size + 2) < ((withThrown W Zs text P1.m.cls kX).setVm vm').heap.size := by show _ < (withThrown W Zs text P1.m.cls kX).heap.size; rw [w3]; omega
  have hcell : ((withThrown W Zs text P1.m.cls kX).setVm vm').heap[(W.heap.size + 2)]? = some (freshCell P1.m.cls kX) := w4
  have X5 := ((((X4.stored hcell T.fCause.slot (.ref (W.heap.size + 2))).storedAgain ha T.fStack.slot u0.v).storedAgain ha T.fSupp.slot sen.v).storedAgain ha T.fStack.slot u0.v).storedAgain ha T.fMsg.slot (.ref (W.heap.size + 1))
  obtain ⟨g₁, hfrM⟩ := X5.frames_eq
  have hU : ((((withThrown W Zs text P1.m.cls kX).setVm vm').setCell (W.heap.size + 2) (plainBareV T.toThrowableT (freshCell P1.m.cls kX) (W.heap.size + 2) u0 sen (.ref (W.heap.size + 1)))).setTop g).pushFrame (.throwing (W.heap.size + 2)) = (((withThrown W Zs text P1.m.cls kX).setVm vm').setCell (W.heap.size + 2) (plainBareV T.toThrowableT (freshCell P1.m.cls kX) (W.heap.size + 2) u0 sen (.ref (W.heap.size + 1)))).setFrames (.throwing (W.heap.size + 2) :: .java g :: below) := by
    rw [State.pushFrame, State.frames_setTop _ hfrM, State.setTop_of_frames _ hfrM, State.setFrames_setFrames]
  have b1 : (bytesOf Zs.cB (stringToUtf16 text)).slots.size = (stringBytes (stringToUtf16 text)).size := by
    rw [(Cell.writeAll_facts _ _).2.2]; simp [bytes0]
  have b2 : (stringAt Zs.cS Zs.kS Zs.fv Zs.fc (stringToUtf16 text) W.heap.size).slots.size = 4 := by simp [string0, Cell.setSlot, hn4]
  have b3 : (freshCell P1.m.cls kX).slots.size = 6 := by simp [hn6]
  rw [b1, b2, b3] at X5
  have e9 : slots + (stringBytes (stringToUtf16 text)).size + 4 + 6 = slots + ((stringBytes (stringToUtf16 text)).size + 4 + 6) := by omega
  rw [e9] at X5
  simp only [List.append_assoc, List.cons_append, List.nil_append] at X5
  refine ⟨((withThrown W Zs text P1.m.cls kX).setVm vm').setCell (W.heap.size + 2) (plainBareV T.toThrowableT (freshCell P1.m.cls kX) (W.heap.size + 2) u0 sen (.ref (W.heap.size + 1))), W.heap.size + 2, _, fun target ht => st _ (by rw [X.tail, ← hU]; exact ht),
    X5.forget (fun y hy => ?_), heapAt_setCell_self _ ha, hfound, rfl⟩
  simp only [List.mem_cons, List.not_mem_nil, or_false] at hy
  have hge : s.heap.size ≤ W.heap.size := X.same.2.1
  rcases hy with rfl | rfl | rfl | rfl | rfl <;> exact Nat.le_trans hge (Nat.le_add_right _ 2)
set_option maxHeartbeats 1000000 in
/-- the machine throws NullPointerException, no traces kept: from its note over the frame g to 'throwing' over the same frame (follows the proof of Stand.vmThrowsNpe, Shelf42/KT2.lean; throwsNpeColdBareVAt, Shelf42/NT91.lean, called) -/
theorem vx_npeAt {p : Program} {l : Launch} {e : Env} {R : Room} {s : State} {m₀ : MethodId} {args : Array Value} {below : List Frame} {meth : Method} {c : Code} {W : State} {locs : List Loc} {cells slots : Nat}
    (X : Stand p l e R s m₀ args below meth c W locs cells slots) (hexec : p.tables.exec = Jvm.exec) (htr : e.platform.stackTraces = false) {n : Nat}
    (h : ∀ a ∈ Bundle.npeArmAtoms n, a.before args s = true)
    (hlocs : ∀ x ∈ locs, ∀ cell, s.heap[x.base]? = some cell → cell.vm.isStatics = false)
    {g : JFrame} (hg : g.method = m₀) (hsize : g.locals.size = c.maxLocals)
    (hRframes : 7 < R.frames) (hRlocals : 2 * g.monitorRoom + (g.stack.map fun v => v.category).sum + 10240 ≤ R.locals)
    (hRcells : cells + 1 ≤ R.cells) (hRslots : slots + n ≤ R.slots) (hlocks : meth.locks = false) :
    ∃ (S : State) (q : Addr) (ce : Cell), (∀ target, Steps p.tables e below ((S.setTop g).pushFrame (.throwing q)) target → Steps p.tables e below ((W.setTop g).pushFrame (.throwNew "java/lang/NullPointerException" none none)) target) ∧
      Stand p l e R s m₀ args below meth c S locs (cells + 1) (slots + n) ∧ S.heap[q]? = some ce ∧ s.vm.findClass "java/lang/NullPointerException" = some ce.cls ∧ ce.vm = .none := by
  have howns : e.platform.frameOwnsMonitors = true := by rw [X.admits.platform]
  have hfin : e.platform.finalization = false := by rw [X.admits.platform]
  have hpl : e.platform.magicAccessors = ({} : Platform).magicAccessors := by rw [X.admits.platform]
  have hpl2 : e.platform.arrayCloneIsPublic = true := by rw [X.admits.platform]
  have a' : ∀ x, x ∈ Bundle.npeArmAtoms n → x.holds args s none s [] = true := fun x hx => h x hx
  obtain ⟨T, Z, L, LZ, Y⟩ := ThrowableC.of_atoms (args := args) howns hfin hpl (fun x hx => h x (by simp [Bundle.npeArmAtoms, hx]))
  obtain ⟨N, LN, hcN, hnNF, hordN, hffS⟩ := NpeC.of_atoms (args := args) hpl hpl2 L Y (fun x hx => h x (by simp [Bundle.npeArmAtoms, hx]))
  obtain ⟨P1, L1, hP1m, hP1s⟩ := PassC.of_atoms (args := args) (s := s) hpl (X := Bundle.nN) (Y := Bundle.rN) (by decide) (by decide) LibCode.NullPointerException.Init0.at_0 LibCode.NullPointerException.Init0.at_1 LibCode.NullPointerException.Init0.at_4 (fun x hx => h x (by simp [Bundle.npeArmAtoms, hx]))
  obtain ⟨PR, LR, hPRm, hPRs⟩ := PassC.of_atoms (args := args) (s := s) hpl (X := Bundle.rN) (Y := Bundle.eN) (by decide) (by decide) LibCode.RuntimeException.Init0.at_0 LibCode.RuntimeException.Init0.at_1 LibCode.RuntimeException.Init0.at_4 (fun x hx => h x (by simp [Bundle.npeArmAtoms, hx]))
  obtain ⟨PE, LEx, hPEm, hPEs⟩ := PassC.of_atoms (args := args) (s := s) hpl (X := Bundle.eN) (Y := Bundle.tN) (by decide) (by decide) LibCode.Exception.Init0.at_0 LibCode.Exception.Init0.at_1 LibCode.Exception.Init0.at_4 (fun x hx => h x (by simp [Bundle.npeArmAtoms, hx]))
  have hfound : s.vm.findClass Bundle.nN = some P1.m.cls := findClass_of_methodNamed hP1m
  have ecls : N.cN = P1.m.cls := Option.some.inj (hcN.symm.trans hfound)
  have hk : s.vm.classes[P1.m.cls]? = some N.kN := by rw [← ecls]; exact LN.cls
  have hinit := Cond.initialized_spec hfound hk (a' (.initialized Bundle.nN) (by simp [Bundle.npeArmAtoms]))
  have hctor : N.kN.findMethod "<init>" "()V" = some P1.m.idx := findMethod_of_methodNamed hP1m hk
  obtain ⟨c1, k1, hc1, hk1, -, -, -, hn⟩ := Cond.instantiable_spec (a' (.instantiable Bundle.nN n) (by simp [Bundle.npeArmAtoms]))
  cases Option.some.inj (hc1.symm.trans hfound)
  cases Option.some.inj (hk1.symm.trans hk)
  have hfsz : (freshCell P1.m.cls N.kN).slots.size = n := by simp [hn]
  have hlink1 : P1.sup = PR.m := Option.some.inj (hP1s.symm.trans hPRm)
  have hlinkR : PR.sup = PE.m := Option.some.inj (hPRs.symm.trans hPEm)
  have hlinkE : PE.sup = Z.m T.toThrowableT := Option.some.inj (hPEs.symm.trans Y.init0)
  have hLs : ∀ P, P ∈ [PR, PE] → P.Links0 e.platform s := fun P hP => by
    simp only [List.mem_cons, List.not_mem_nil, or_false] at hP
    rcases hP with rfl | rfl
    · exact LR
    · exact LEx
  have hsel0 : selectMethod e.platform s.vm P1.m.cls T.fill0 = .method T.fill0 := by
    obtain ⟨c2, r2, m2, q1, q2, q3, q4, -⟩ := Cond.selects_spec (a' (.selects Bundle.nN Bundle.tFill0 Bundle.tFill0) (by simp [Bundle.npeArmAtoms]))
    cases Option.some.inj (q1.symm.trans hfound)
    cases Option.some.inj (q2.symm.trans (State.methodFound?_of_named Y.fill0 (by decide)))
    cases Option.some.inj (q3.symm.trans Y.fill0)
    rw [Launch.admits_selectMethod X.admits]; exact q4
  have hselF : selectMethod e.platform s.vm P1.m.cls T.fill = .method N.fill := by
    obtain ⟨c2, r2, m2, q1, q2, q3, q4, -⟩ := Cond.selects_spec (a' (.selects Bundle.nN Bundle.tFill Bundle.nFill) (by simp [Bundle.npeArmAtoms]))
    cases Option.some.inj (q1.symm.trans hfound)
    cases Option.some.inj (q2.symm.trans (State.methodFound?_of_named Y.fill (by decide)))
    cases Option.some.inj (q3.symm.trans hnNF)
    rw [Launch.admits_selectMethod X.admits]; exact q4
  obtain ⟨cellS0, hcS0, hiss⟩ := Y.statics
  obtain ⟨u0, hu0⟩ := Cond.staticRefV Y.unassigned L.unassignedStatic L.statics hcS0 hiss (a' (.isRef (.static Bundle.tN "UNASSIGNED_STACK" Bundle.steD)) (by simp [Bundle.npeArmAtoms]))
  obtain ⟨sen, hsen⟩ := Cond.staticRefV Y.sentinel L.sentinelStatic L.statics hcS0 hiss (a' (.isRef (.static Bundle.tN "SUPPRESSED_SENTINEL" Bundle.listD)) (by simp [Bundle.npeArmAtoms]))
  obtain ⟨ci198, i198, fB, hk198, hg198, ha198, hsB, -, hnB, htB, hffB⟩ := Cond.ownField (t := .object "java/lang/Object") Y.found L.cls (by decide +kernel) (a' (.fieldLink Bundle.tN 198 Bundle.tN "backtrace" Bundle.objD) (by simp [Bundle.npeArmAtoms])) (a' (.lays Bundle.tN Bundle.tN "backtrace" Bundle.objD) (by simp [Bundle.npeArmAtoms])) e.platform hpl
  obtain ⟨cellS, hcS', heS, -, hkeep⟩ := X.same.2.2.2.2.2 T.aS cellS0 hcS0
  have hcellS : W.heap[T.aS]? = some cellS := hcS'
  have hout' : ∀ i, (⟨T.aS, i⟩ : Loc) ∉ locs := fun i hmem => by
    have := hlocs _ hmem cellS0 hcS0
    rw [hiss] at this; cases this
  have hknownS : cellS.vm ≠ .unknown := by
    rw [heS]; intro hu
    rw [show cellS0.vm = .unknown from hu] at hiss
    cases hiss
  have hvU : cellS.slots[T.fUnassigned.slot]? = some u0.v := by rw [hkeep _ (hout' _)]; exact hu0
  have hvSen : cellS.slots[T.fSentinel.slot]? = some sen.v := by rw [hkeep _ (hout' _)]; exact hsen
  obtain ⟨tyC, dC, hdC, hdnC⟩ := Cond.laysAt hfound hk Y.cause (a' (.lays Bundle.nN Bundle.tN "cause" "Ljava/lang/Throwable;") (by simp [Bundle.npeArmAtoms]))
  obtain ⟨tyS, dS, hdS, hdnS⟩ := Cond.laysAt hfound hk Y.stack (a' (.lays Bundle.nN Bundle.tN "stackTrace" Bundle.steD) (by simp [Bundle.npeArmAtoms]))
  obtain ⟨tyP, dP, hdP, hdnP⟩ := Cond.laysAt hfound hk Y.supp (a' (.lays Bundle.nN Bundle.tN "suppressedExceptions" Bundle.listD) (by simp [Bundle.npeArmAtoms]))
  obtain ⟨tyX, dX, hdX, hdnX⟩ := Cond.laysAt hfound hk hffS (a' (.lays Bundle.nN Bundle.nN "extendedMessageState" "I") (by simp [Bundle.npeArmAtoms, Bundle.npeAtoms]))
  obtain ⟨hnX, htX⟩ := State.fieldFound?_type hffS (t := .int) (by decide +kernel)
  have xC := Cond.laysApart hdC hdX hdnC hdnX (by rw [hnX, Y.causeName]; decide)
  have xS := Cond.laysApart hdS hdX hdnS hdnX (by rw [hnX, Y.stackName]; decide)
  have xP := Cond.laysApart hdP hdX hdnP hdnX (by rw [hnX, Y.suppName]; decide)
  have hv0 : (freshCell P1.m.cls N.kN).slots[N.fState.slot]? = some (.int 0) := by
    have := fresh_default (c := P1.m.cls) tyX
    rw [htX] at this; exact this
  obtain ⟨tyB, dB, hdB, hdnB⟩ := Cond.laysAt hfound hk hffB (a' (.lays Bundle.nN Bundle.tN "backtrace" Bundle.objD) (by simp [Bundle.npeArmAtoms]))
  have bC := Cond.laysApart hdB hdC hdnB hdnC (by rw [hnB, Y.causeName]; decide)
  have bS := Cond.laysApart hdB hdS hdnB hdnS (by rw [hnB, Y.stackName]; decide)
  have bP := Cond.laysApart hdB hdP hdnB hdnP (by rw [hnB, Y.suppName]; decide)
  have bX := Cond.laysApart hdB hdX hdnB hdnX (by rw [hnB, hnX]; decide)
  have hbk : ((npeCell N.toNpeT (preparedCellV T.toThrowableT (freshCell P1.m.cls N.kN) W.heap.size u0 sen) W.cur).withEntry W.cur).slots[fB.slot]? = some .null := by
    have := fresh_default (c := P1.m.cls) tyB
    rw [htB] at this
    simpa [npeCell, preparedCellV, Cell.setSlot, Cell.withEntry, Array.getElem?_setIfInBounds, bC, bS, bP, bX, bC.symm, bS.symm, bP.symm, bX.symm, defaultValue] using this
  have tkC := Takes.of_laid (v := .ref W.heap.size) hk hordN tyC (by rw [Y.causeType]; rfl)
  have tkS := Takes.of_laid (v := u0.v) hk hordN tyS (by rw [Y.stackType]; exact fits_refV_array _ u0)
  have tkP := Takes.of_laid (v := sen.v) hk hordN tyP (by rw [Y.suppType]; exact fits_refV_object _ sen)
  have tkX := Takes.of_laid (v := .int 1) hk hordN tyX (by rw [htX]; rfl)
  have hskip : SkipFacts T e.platform s (fun u => u) u0 ((npeCell N.toNpeT (preparedCellV T.toThrowableT (freshCell P1.m.cls N.kN) W.heap.size u0 sen) W.cur).withEntry W.cur) := ⟨{ ci198 := ci198, i198 := i198, fBack := fB }, ⟨hk198, hg198, ha198, hsB⟩, hbk, fun _ _ => rfl⟩
  obtain ⟨vm', X3, st, -⟩ := X.throwsNpeColdBareVAt hexec hg hsize T L Z LZ N LN P1 L1 [PR, PE] hLs hlink1 ⟨hlinkR, hlinkE, trivial⟩ hfound hk hinit hordN hctor hsel0 hselF hcellS hknownS hvU hvSen
    hv0 xC xS xP tkC tkS tkP tkX Y.objLocals hskip (fun _ _ hA hW _ hroom _ hrest => L.nativeOff p htr hA hW hroom hrest) (by simpa using hRframes) hRlocals (by simp) hRcells (by rw [hn]; exact hRslots)
  have hlt : W.heap.size < ((W.pushCell (freshCell P1.m.cls N.kN)).setVm vm').heap.size := by
    show W.heap.size < (W.pushCell (freshCell P1.m.cls N.kN)).heap.size
    rw [State.heap_size_pushCell]; omega
  rw [hfsz] at X3
  obtain ⟨g₁, hfrM⟩ := X3.frames_eq
  have hU : ((((W.pushCell (freshCell P1.m.cls N.kN)).setVm vm').setCell W.heap.size (npeBareV T.toThrowableT N.toNpeT (freshCell P1.m.cls N.kN) W.heap.size u0 sen)).setTop g).pushFrame (.throwing W.heap.size) = (((W.pushCell (freshCell P1.m.cls N.kN)).setVm vm').setCell W.heap.size (npeBareV T.toThrowableT N.toNpeT (freshCell P1.m.cls N.kN) W.heap.size u0 sen)).setFrames (.throwing W.heap.size :: .java g :: below) := by
    rw [State.pushFrame, State.frames_setTop _ hfrM, State.setTop_of_frames _ hfrM, State.setFrames_setFrames]
  refine ⟨_, W.heap.size, _, fun target ht => st.trans (by rw [← hU]; exact ht), X3.forget (fun y hy => ?_), heapAt_setCell_self _ hlt, hfound, rfl⟩
  simp only [List.mem_cons, List.not_mem_nil, or_false] at hy
  have hge : s.heap.size ≤ W.heap.size := X.same.2.1
  rcases hy with rfl | rfl | rfl | rfl | rfl <;> exact hge
/-- the words of a machine's NullPointerException, but the four that speak of the heap -/
def vx_atN (n : Nat) : List Cond := (Bundle.npeArmAtoms n).filter vx_no
/-- the words of a machine's throw with a message, but the four that speak of the heap -/
def vx_atM (X : String) (names : List String) : List Cond := (Bundle.messageArmAtoms X names).filter vx_no
section
variable {p : Program} {l : Launch} {e : Env} {R : Room} {s : State} {m : MethodId} {args : Array Value} {below : List Frame} {meth : Method} {c : Code} {H : Heap} {locs : List Loc} {cells slots : Nat}
/-- a frame seen from a rebased start, seen from the first start again -/
theorem vx_back9 {T S : State} {R' : Room} {k n : Nat} (X : Stand p l e R s m args below meth c T locs cells slots) (Y : Stand p l e R' ((T.setVm s.vm).setFrames (.invoking m args :: below)) m args below meth c T [] 0 0) (Z : Stand p l e R' ((T.setVm s.vm).setFrames (.invoking m args :: below)) m args below meth c S [] k n) :
    Stand p l e R s m args below meth c S locs (cells + k) (slots + n) := by
  have hW0 : s.WarmedH ((T.setVm s.vm).setFrames (.invoking m args :: below)).vm := State.WarmedH.refl s
  refine { admits := X.admits, cas := X.cas, clock := X.clock, frames := X.frames, room := X.room, hears := X.hears, method := X.method, code := X.code, here := Z.here, tail := Z.tail, warmed := State.WarmedH.trans hW0 Z.warmed, limits := Z.limits.trans (Y.limits.symm.trans X.limits), bytes := Z.bytes.trans (Y.bytes.symm.trans X.bytes), same := ?_ }
  obtain ⟨e1, e2⟩ := Z.same
  rw [State.setFrames_setFrames] at e1
  have h2 : (T.setVm s.vm).sameButNew (S.setVm s.vm) [] k n := ⟨e1, e2⟩
  have h3 := X.same.trans h2
  rw [List.append_nil] at h3
  exact h3
/-- from the machine's note that E is thrown here with this text -/
def vx_Note (p : Program) (l : Launch) (e : Env) (R : Room) (s : State) (m : MethodId) (args : Array Value) (below : List Frame) (meth : Method) (c : Code) (H : Heap) (locs : List Loc) (cells slots : Nat) (Q : State → Prop) (g : JFrame) (E text : String) : Prop :=
  ∀ T : State, T.heap = H → Stand p l e R s m args below meth c T locs cells slots → ∃ t, Steps p.tables e below ((T.setTop g).pushFrame (.throwNew E (some text) none)) t ∧ Q t
theorem vx_vm {pc : Nat} {ls : Array Slot} {rest : List Value} {Q : State → Prop} (hexec : p.tables.exec = Jvm.exec) (hl : l.stackTraces = false) {cls text : String} {names : List String} {nb : Nat} {A : Nat → Prop}
    (hcls : Bundle.fit cls = true) (hnames : ∀ n ∈ names, Bundle.fit n = true) (hsoe : (cls == "java/lang/StackOverflowError") = false) (hoom : (cls == "java/lang/OutOfMemoryError") = false)
    (hat : ∀ w ∈ vx_atM cls names, w.before args s = true) (hgood : ∀ w ∈ vx_atM cls names, vx_ot w = true)
    (hU : vx_Zq Bundle.tN "UNASSIGNED_STACK" Bundle.steD A s s.heap) (hN : vx_Zq Bundle.tN "SUPPRESSED_SENTINEL" Bundle.listD A s s.heap) (hS : va_S A s.heap H locs) (hsize : ls.size = c.maxLocals)
    (htext : (text == notModelled) = false) (hnb : (stringBytes (stringToUtf16 text)).size ≤ nb) (hnb1 : nb ≤ 1000)
    (hRframes : names.length + 4 < R.frames) (hRlocals : (rest.map fun v => v.category).sum + 10240 ≤ R.locals) (hshort : 13 * names.length + 55 ≤ 10240) (hRcells : cells + 3 ≤ R.cells) (hRslots : slots + (nb + 10) ≤ R.slots) (hlocks : meth.locks = false)
    (k : ∀ (H1 : Heap) (q9 : Addr) (ce : Cell), H.size ≤ H1.size → (∀ q : Nat, q < H.size → H1[q]? = H[q]?) → va_S A s.heap H1 locs → H1[q9]? = some ce → ce.vm = .none → s.vm.findClass cls = some ce.cls → vx_W p l e R s m args below meth c H1 locs (cells + 3) (slots + (nb + 10)) Q (F0 m pc ls rest) q9) :
    vx_Note p l e R s m args below meth c H locs cells slots Q (F0 m pc ls rest) cls text := by
  intro T hT X
  have htr : e.platform.stackTraces = false := (show e.platform.stackTraces = l.stackTraces by rw [X.admits.platform]).trans hl
  have Y := vx_rebase X (R' := { frames := R.frames, locals := R.locals, cells := 3, slots := nb + 10 }) (Nat.le_refl _) (Nat.le_refl _) hRcells hRslots
  have hhp : ((T.setVm s.vm).setFrames (.invoking m args :: below)).heap = H := hT
  have hW0 : s.WarmedH ((T.setVm s.vm).setFrames (.invoking m args :: below)).vm := State.WarmedH.refl s
  have hat' : ∀ w ∈ vx_atM cls names, w.before args ((T.setVm s.vm).setFrames (.invoking m args :: below)) = true := fun w hw => vx_ot_at hW0 rfl (hgood w hw) (hat w hw)
  have hU' : vx_Zq Bundle.tN "UNASSIGNED_STACK" Bundle.steD A ((T.setVm s.vm).setFrames (.invoking m args :: below)) ((T.setVm s.vm).setFrames (.invoking m args :: below)).heap := by rw [hhp]; exact vx_Zq.moved hW0.alike (hU.kept hS.2.1)
  have hN' : vx_Zq Bundle.tN "SUPPRESSED_SENTINEL" Bundle.listD A ((T.setVm s.vm).setFrames (.invoking m args :: below)) ((T.setVm s.vm).setFrames (.invoking m args :: below)).heap := by rw [hhp]; exact vx_Zq.moved hW0.alike (hN.kept hS.2.1)
  obtain ⟨S, q, ce, st, Z, hce, hcl', hv⟩ := vx_vmAt Y hexec htr (cls := cls) (names := names) (text := text) hcls hnames hsoe hoom (vx_own hat' (vx_isRefq hU'.1) (vx_isRefq hN'.1) hU'.2.word hN'.2.word) (fun x hx => nomatch hx) htext
    (by rw [Launch.admits_arrayLengthLimit X.admits]; omega) (by rw [Launch.admits_maxHeapBytes X.admits]; simp only [componentBytes]; omega)
    (g := F0 m pc ls rest) rfl hsize hRframes (by show 2 * 0 + (rest.map fun v => v.category).sum + 10240 ≤ R.locals; omega) hshort (by show 0 + 3 ≤ 3; omega) (by show 0 + (_ + 4 + 6) ≤ nb + 10; omega) hlocks
  obtain ⟨f1, f2⟩ := vx_frame Z.same
  have f1' : H.size ≤ S.heap.size := by rw [← hT]; exact f1
  have f2' : ∀ q : Nat, q < H.size → S.heap[q]? = H[q]? := fun q hq => by
    rw [← hT]
    exact f2 q (by rw [← hT] at hq; exact hq) (fun z hz => nomatch hz)
  have X5 := vx_back9 X Y Z
  have X6 : Stand p l e R s m args below meth c S locs (cells + 3) (slots + (nb + 10)) := { X5 with same := X5.same.mono (by omega) (by omega) }
  obtain ⟨t, a1, b1⟩ := k S.heap q ce f1' f2' ⟨Nat.le_trans hS.1 f1', fun q h1 h2 => (f2' q (Nat.lt_of_lt_of_le h1 hS.1)).trans (hS.2.1 q h1 h2), hS.2.2⟩ hce hv hcl' S rfl X6
  exact ⟨t, st t a1, b1⟩
/-- from the machine's note that NullPointerException is thrown here -/
def vx_NoteN (p : Program) (l : Launch) (e : Env) (R : Room) (s : State) (m : MethodId) (args : Array Value) (below : List Frame) (meth : Method) (c : Code) (H : Heap) (locs : List Loc) (cells slots : Nat) (Q : State → Prop) (g : JFrame) : Prop :=
  ∀ T : State, T.heap = H → Stand p l e R s m args below meth c T locs cells slots → ∃ t, Steps p.tables e below ((T.setTop g).pushFrame (.throwNew "java/lang/NullPointerException" none none)) t ∧ Q t
theorem vx_npe {pc : Nat} {ls : Array Slot} {rest : List Value} {Q : State → Prop} (hexec : p.tables.exec = Jvm.exec) (hl : l.stackTraces = false) {nb : Nat} {A : Nat → Prop}
    (hat : ∀ w ∈ vx_atN nb, w.before args s = true) (hgood : ∀ w ∈ vx_atN nb, vx_ot w = true)
    (hU : vx_Zq Bundle.tN "UNASSIGNED_STACK" Bundle.steD A s s.heap) (hN : vx_Zq Bundle.tN "SUPPRESSED_SENTINEL" Bundle.listD A s s.heap) (hS : va_S A s.heap H locs) (hsize : ls.size = c.maxLocals)
    (hRframes : 7 < R.frames) (hRlocals : (rest.map fun v => v.category).sum + 10240 ≤ R.locals) (hRcells : cells + 1 ≤ R.cells) (hRslots : slots + nb ≤ R.slots) (hlocks : meth.locks = false)
    (k : ∀ (H1 : Heap) (q9 : Addr) (ce : Cell), H.size ≤ H1.size → (∀ q : Nat, q < H.size → H1[q]? = H[q]?) → va_S A s.heap H1 locs → H1[q9]? = some ce → ce.vm = .none → s.vm.findClass "java/lang/NullPointerException" = some ce.cls → vx_W p l e R s m args below meth c H1 locs (cells + 1) (slots + nb) Q (F0 m pc ls rest) q9) :
    vx_NoteN p l e R s m args below meth c H locs cells slots Q (F0 m pc ls rest) := by
  intro T hT X
  have htr : e.platform.stackTraces = false := (show e.platform.stackTraces = l.stackTraces by rw [X.admits.platform]).trans hl
  have Y := vx_rebase X (R' := { frames := R.frames, locals := R.locals, cells := 1, slots := nb }) (Nat.le_refl _) (Nat.le_refl _) hRcells hRslots
  have hhp : ((T.setVm s.vm).setFrames (.invoking m args :: below)).heap = H := hT
  have hW0 : s.WarmedH ((T.setVm s.vm).setFrames (.invoking m args :: below)).vm := State.WarmedH.refl s
  have hat' : ∀ w ∈ vx_atN nb, w.before args ((T.setVm s.vm).setFrames (.invoking m args :: below)) = true := fun w hw => vx_ot_at hW0 rfl (hgood w hw) (hat w hw)
  have hU' : vx_Zq Bundle.tN "UNASSIGNED_STACK" Bundle.steD A ((T.setVm s.vm).setFrames (.invoking m args :: below)) ((T.setVm s.vm).setFrames (.invoking m args :: below)).heap := by rw [hhp]; exact vx_Zq.moved hW0.alike (hU.kept hS.2.1)
  have hN' : vx_Zq Bundle.tN "SUPPRESSED_SENTINEL" Bundle.listD A ((T.setVm s.vm).setFrames (.invoking m args :: below)) ((T.setVm s.vm).setFrames (.invoking m args :: below)).heap := by rw [hhp]; exact vx_Zq.moved hW0.alike (hN.kept hS.2.1)
  obtain ⟨S, q, ce, st, Z, hce, hcl', hv⟩ := vx_npeAt Y hexec htr (n := nb) (vx_own hat' (vx_isRefq hU'.1) (vx_isRefq hN'.1) hU'.2.word hN'.2.word) (fun x hx => nomatch hx)
    (g := F0 m pc ls rest) rfl hsize hRframes (by show 2 * 0 + (rest.map fun v => v.category).sum + 10240 ≤ R.locals; omega) (by show 0 + 1 ≤ 1; omega) (by show 0 + nb ≤ nb; omega) hlocks
  obtain ⟨f1, f2⟩ := vx_frame Z.same
  have f1' : H.size ≤ S.heap.size := by rw [← hT]; exact f1
  have f2' : ∀ q : Nat, q < H.size → S.heap[q]? = H[q]? := fun q hq => by
    rw [← hT]
    exact f2 q (by rw [← hT] at hq; exact hq) (fun z hz => nomatch hz)
  have X5 := vx_back9 X Y Z
  have X6 : Stand p l e R s m args below meth c S locs (cells + 1) (slots + nb) := { X5 with same := X5.same.mono (by omega) (by omega) }
  obtain ⟨t, a1, b1⟩ := k S.heap q ce f1' f2' ⟨Nat.le_trans hS.1 f1', fun q h1 h2 => (f2' q (Nat.lt_of_lt_of_le h1 hS.1)).trans (hS.2.1 q h1 h2), hS.2.2⟩ hce hv hcl' S rfl X6
  exact ⟨t, st t a1, b1⟩
variable {Q : State → Prop} {cc : ByteArray} {pc : Nat} {ls : Array Slot} {rest : List Value}
theorem vx_idivZ (hexec : p.tables.exec = Jvm.exec) (hb : c.code = cc) {a b : Int32} (h0 : b = 0) (d : decode cc pc = .ok (.idiv, 1)) (k : vx_Note p l e R s m args below meth c H locs cells slots Q (F0 m pc ls rest) "java/lang/ArithmeticException" "/ by zero") :
    W p l e R s m args below meth c H locs cells slots Q (F0 m pc ls (.int b :: .int a :: rest)) := by
  intro T hT X
  obtain ⟨t, st, q⟩ := k T hT X
  exact ⟨t, X.idivZero hexec (g := F0 m pc ls (.int b :: .int a :: rest)) rfl (a := a) (rest := rest) (by rw [h0]) (by rw [hb]; exact d) t st, q⟩
theorem vx_iremZ (hexec : p.tables.exec = Jvm.exec) (hb : c.code = cc) {a b : Int32} (h0 : b = 0) (d : decode cc pc = .ok (.irem, 1)) (k : vx_Note p l e R s m args below meth c H locs cells slots Q (F0 m pc ls rest) "java/lang/ArithmeticException" "/ by zero") :
    W p l e R s m args below meth c H locs cells slots Q (F0 m pc ls (.int b :: .int a :: rest)) := by
  intro T hT X
  obtain ⟨t, st, q⟩ := k T hT X
  exact ⟨t, X.iremZero hexec (g := F0 m pc ls (.int b :: .int a :: rest)) rfl (a := a) (rest := rest) (by rw [h0]) (by rw [hb]; exact d) t st, q⟩
theorem vx_ldivZ (hexec : p.tables.exec = Jvm.exec) (hb : c.code = cc) {a b : Int64} (h0 : b = 0) (d : decode cc pc = .ok (.ldiv, 1)) (k : vx_Note p l e R s m args below meth c H locs cells slots Q (F0 m pc ls rest) "java/lang/ArithmeticException" "/ by zero") :
    W p l e R s m args below meth c H locs cells slots Q (F0 m pc ls (.long b :: .long a :: rest)) := by
  intro T hT X
  obtain ⟨t, st, q⟩ := k T hT X
  exact ⟨t, X.ldivZero hexec (g := F0 m pc ls (.long b :: .long a :: rest)) rfl (a := a) (rest := rest) (by rw [h0]) (by rw [hb]; exact d) t st, q⟩
theorem vx_lremZ (hexec : p.tables.exec = Jvm.exec) (hb : c.code = cc) {a b : Int64} (h0 : b = 0) (d : decode cc pc = .ok (.lrem, 1)) (k : vx_Note p l e R s m args below meth c H locs cells slots Q (F0 m pc ls rest) "java/lang/ArithmeticException" "/ by zero") :
    W p l e R s m args below meth c H locs cells slots Q (F0 m pc ls (.long b :: .long a :: rest)) := by
  intro T hT X
  obtain ⟨t, st, q⟩ := k T hT X
  exact ⟨t, X.lremZero hexec (g := F0 m pc ls (.long b :: .long a :: rest)) rfl (a := a) (rest := rest) (by rw [h0]) (by rw [hb]; exact d) t st, q⟩
theorem vx_ialdZ {D : va_G} {cl : List vw_C} {ws : va_W} {tys : List (ClassId × FieldType)} {a : Nat} (hexec : p.tables.exec = Jvm.exec) (hb : c.code = cc) (hK : va_K D cl tys s) (hP : va_P D cl ws H) (q0 t0 : Nat) {cA : ClassId} {n : Nat} {f : Nat → Int32} (ha : ws[q0]? = some (a, .inl (cA, n, .inl f))) (ht : tys[t0]? = some (cA, .int)) {i : Int32} (hout : ¬ vp_in i n) (hdg : decode cc pc = .ok (.iaload, 1))
    (k : ∀ tx : String, tx = (toString "Index " ++ toString i ++ toString " out of bounds for length " ++ toString n : String) → vx_Note p l e R s m args below meth c H locs cells slots Q (F0 m pc ls rest) "java/lang/ArrayIndexOutOfBoundsException" tx) : W p l e R s m args below meth c H locs cells slots Q (F0 m pc ls (.int i :: .ref a :: rest)) := by
  intro T hT X
  obtain ⟨t, st, q⟩ := k _ rfl T hT X
  refine ⟨t, ?_, q⟩
  have h1 := X.ialoadOut hexec (by rw [hT]; exact hP q0 _ ha) ((hK.2 t0 _ ht).1 n (fun j => .int (f j))) (j := i) (by show (i < 0 ∨ (arrV _ _ _).slots.size ≤ _); rw [arrV_size]; exact Classical.byContradiction hout) (g := F0 m pc ls (.int i :: .ref a :: rest)) rfl (rest := rest) rfl (by rw [hb]; exact hdg) t
  simp only [arrV_size] at h1
  exact h1 st
theorem vx_iastZ {D : va_G} {cl : List vw_C} {ws : va_W} {tys : List (ClassId × FieldType)} {a : Nat} (hexec : p.tables.exec = Jvm.exec) (hb : c.code = cc) (hK : va_K D cl tys s) (hP : va_P D cl ws H) (q0 t0 : Nat) {cA : ClassId} {n : Nat} {f : Nat → Int32} (ha : ws[q0]? = some (a, .inl (cA, n, .inl f))) (ht : tys[t0]? = some (cA, .int)) {i : Int32} {x : Int32} (hout : ¬ vp_in i n) (hdg : decode cc pc = .ok (.iastore, 1))
    (k : ∀ tx : String, tx = (toString "Index " ++ toString i ++ toString " out of bounds for length " ++ toString n : String) → vx_Note p l e R s m args below meth c H locs cells slots Q (F0 m pc ls rest) "java/lang/ArrayIndexOutOfBoundsException" tx) : W p l e R s m args below meth c H locs cells slots Q (F0 m pc ls (.int x :: .int i :: .ref a :: rest)) := by
  intro T hT X
  obtain ⟨t, st, q⟩ := k _ rfl T hT X
  refine ⟨t, ?_, q⟩
  have h1 := X.iastoreOut hexec (by rw [hT]; exact hP q0 _ ha) ((hK.2 t0 _ ht).1 n (fun j => .int (f j))) (j := i) (by show (i < 0 ∨ (arrV _ _ _).slots.size ≤ _); rw [arrV_size]; exact Classical.byContradiction hout) (g := F0 m pc ls (.int x :: .int i :: .ref a :: rest)) rfl (rest := rest) rfl (by rw [hb]; exact hdg) t
  simp only [arrV_size] at h1
  exact h1 st
theorem vx_baldZ {D : va_G} {cl : List vw_C} {ws : va_W} {tys : List (ClassId × FieldType)} {a : Nat} (hexec : p.tables.exec = Jvm.exec) (hb : c.code = cc) (hK : va_K D cl tys s) (hP : va_P D cl ws H) (q0 t0 : Nat) {cA : ClassId} {n : Nat} {f : Nat → Int32} (ha : ws[q0]? = some (a, .inl (cA, n, .inl f))) (ht : tys[t0]? = some (cA, .byte)) {i : Int32} (hout : ¬ vp_in i n) (hdg : decode cc pc = .ok (.baload, 1))
    (k : ∀ tx : String, tx = (toString "Index " ++ toString i ++ toString " out of bounds for length " ++ toString n : String) → vx_Note p l e R s m args below meth c H locs cells slots Q (F0 m pc ls rest) "java/lang/ArrayIndexOutOfBoundsException" tx) : W p l e R s m args below meth c H locs cells slots Q (F0 m pc ls (.int i :: .ref a :: rest)) := by
  intro T hT X
  obtain ⟨t, st, q⟩ := k _ rfl T hT X
  refine ⟨t, ?_, q⟩
  have h1 := X.baloadOut hexec (by rw [hT]; exact hP q0 _ ha) ((hK.2 t0 _ ht).1 n (fun j => .int (f j))) (j := i) (by show (i < 0 ∨ (arrV _ _ _).slots.size ≤ _); rw [arrV_size]; exact Classical.byContradiction hout) (g := F0 m pc ls (.int i :: .ref a :: rest)) rfl (rest := rest) rfl (by rw [hb]; exact hdg) t
  simp only [arrV_size] at h1
  exact h1 st
theorem vx_bastZ {D : va_G} {cl : List vw_C} {ws : va_W} {tys : List (ClassId × FieldType)} {a : Nat} (hexec : p.tables.exec = Jvm.exec) (hb : c.code = cc) (hK : va_K D cl tys s) (hP : va_P D cl ws H) (q0 t0 : Nat) {cA : ClassId} {n : Nat} {f : Nat → Int32} (ha : ws[q0]? = some (a, .inl (cA, n, .inl f))) (ht : tys[t0]? = some (cA, .byte)) {i : Int32} {x : Int32} (hout : ¬ vp_in i n) (hdg : decode cc pc = .ok (.bastore, 1))
    (k : ∀ tx : String, tx = (toString "Index " ++ toString i ++ toString " out of bounds for length " ++ toString n : String) → vx_Note p l e R s m args below meth c H locs cells slots Q (F0 m pc ls rest) "java/lang/ArrayIndexOutOfBoundsException" tx) : W p l e R s m args below meth c H locs cells slots Q (F0 m pc ls (.int x :: .int i :: .ref a :: rest)) := by
  intro T hT X
  obtain ⟨t, st, q⟩ := k _ rfl T hT X
  refine ⟨t, ?_, q⟩
  have h1 := X.bastoreOut hexec (by rw [hT]; exact hP q0 _ ha) ((hK.2 t0 _ ht).1 n (fun j => .int (f j))) (j := i) (by show (i < 0 ∨ (arrV _ _ _).slots.size ≤ _); rw [arrV_size]; exact Classical.byContradiction hout) (g := F0 m pc ls (.int x :: .int i :: .ref a :: rest)) rfl (rest := rest) rfl (by rw [hb]; exact hdg) t
  simp only [arrV_size] at h1
  exact h1 st
theorem vx_zaldZ {D : va_G} {cl : List vw_C} {ws : va_W} {tys : List (ClassId × FieldType)} {a : Nat} (hexec : p.tables.exec = Jvm.exec) (hb : c.code = cc) (hK : va_K D cl tys s) (hP : va_P D cl ws H) (q0 t0 : Nat) {cA : ClassId} {n : Nat} {f : Nat → Int32} (ha : ws[q0]? = some (a, .inl (cA, n, .inl f))) (ht : tys[t0]? = some (cA, .boolean)) {i : Int32} (hout : ¬ vp_in i n) (hdg : decode cc pc = .ok (.baload, 1))
    (k : ∀ tx : String, tx = (toString "Index " ++ toString i ++ toString " out of bounds for length " ++ toString n : String) → vx_Note p l e R s m args below meth c H locs cells slots Q (F0 m pc ls rest) "java/lang/ArrayIndexOutOfBoundsException" tx) : W p l e R s m args below meth c H locs cells slots Q (F0 m pc ls (.int i :: .ref a :: rest)) := by
  intro T hT X
  obtain ⟨t, st, q⟩ := k _ rfl T hT X
  refine ⟨t, ?_, q⟩
  have h1 := X.baloadOut hexec (by rw [hT]; exact hP q0 _ ha) ((hK.2 t0 _ ht).1 n (fun j => .int (f j))) (j := i) (by show (i < 0 ∨ (arrV _ _ _).slots.size ≤ _); rw [arrV_size]; exact Classical.byContradiction hout) (g := F0 m pc ls (.int i :: .ref a :: rest)) rfl (rest := rest) rfl (by rw [hb]; exact hdg) t
  simp only [arrV_size] at h1
  exact h1 st
theorem vx_zastZ {D : va_G} {cl : List vw_C} {ws : va_W} {tys : List (ClassId × FieldType)} {a : Nat} (hexec : p.tables.exec = Jvm.exec) (hb : c.code = cc) (hK : va_K D cl tys s) (hP : va_P D cl ws H) (q0 t0 : Nat) {cA : ClassId} {n : Nat} {f : Nat → Int32} (ha : ws[q0]? = some (a, .inl (cA, n, .inl f))) (ht : tys[t0]? = some (cA, .boolean)) {i : Int32} {x : Int32} (hout : ¬ vp_in i n) (hdg : decode cc pc = .ok (.bastore, 1))
    (k : ∀ tx : String, tx = (toString "Index " ++ toString i ++ toString " out of bounds for length " ++ toString n : String) → vx_Note p l e R s m args below meth c H locs cells slots Q (F0 m pc ls rest) "java/lang/ArrayIndexOutOfBoundsException" tx) : W p l e R s m args below meth c H locs cells slots Q (F0 m pc ls (.int x :: .int i :: .ref a :: rest)) := by
  intro T hT X
  obtain ⟨t, st, q⟩ := k _ rfl T hT X
  refine ⟨t, ?_, q⟩
  have h1 := X.bastoreOut hexec (by rw [hT]; exact hP q0 _ ha) ((hK.2 t0 _ ht).1 n (fun j => .int (f j))) (j := i) (by show (i < 0 ∨ (arrV _ _ _).slots.size ≤ _); rw [arrV_size]; exact Classical.byContradiction hout) (g := F0 m pc ls (.int x :: .int i :: .ref a :: rest)) rfl (rest := rest) rfl (by rw [hb]; exact hdg) t
  simp only [arrV_size] at h1
  exact h1 st
theorem vx_caldZ {D : va_G} {cl : List vw_C} {ws : va_W} {tys : List (ClassId × FieldType)} {a : Nat} (hexec : p.tables.exec = Jvm.exec) (hb : c.code = cc) (hK : va_K D cl tys s) (hP : va_P D cl ws H) (q0 t0 : Nat) {cA : ClassId} {n : Nat} {f : Nat → Int32} (ha : ws[q0]? = some (a, .inl (cA, n, .inl f))) (ht : tys[t0]? = some (cA, .char)) {i : Int32} (hout : ¬ vp_in i n) (hdg : decode cc pc = .ok (.caload, 1))
    (k : ∀ tx : String, tx = (toString "Index " ++ toString i ++ toString " out of bounds for length " ++ toString n : String) → vx_Note p l e R s m args below meth c H locs cells slots Q (F0 m pc ls rest) "java/lang/ArrayIndexOutOfBoundsException" tx) : W p l e R s m args below meth c H locs cells slots Q (F0 m pc ls (.int i :: .ref a :: rest)) := by
  intro T hT X
  obtain ⟨t, st, q⟩ := k _ rfl T hT X
  refine ⟨t, ?_, q⟩
  have h1 := X.caloadOut hexec (by rw [hT]; exact hP q0 _ ha) ((hK.2 t0 _ ht).1 n (fun j => .int (f j))) (j := i) (by show (i < 0 ∨ (arrV _ _ _).slots.size ≤ _); rw [arrV_size]; exact Classical.byContradiction hout) (g := F0 m pc ls (.int i :: .ref a :: rest)) rfl (rest := rest) rfl (by rw [hb]; exact hdg) t
  simp only [arrV_size] at h1
  exact h1 st
theorem vx_castZ {D : va_G} {cl : List vw_C} {ws : va_W} {tys : List (ClassId × FieldType)} {a : Nat} (hexec : p.tables.exec = Jvm.exec) (hb : c.code = cc) (hK : va_K D cl tys s) (hP : va_P D cl ws H) (q0 t0 : Nat) {cA : ClassId} {n : Nat} {f : Nat → Int32} (ha : ws[q0]? = some (a, .inl (cA, n, .inl f))) (ht : tys[t0]? = some (cA, .char)) {i : Int32} {x : Int32} (hout : ¬ vp_in i n) (hdg : decode cc pc = .ok (.castore, 1))
    (k : ∀ tx : String, tx = (toString "Index " ++ toString i ++ toString " out of bounds for length " ++ toString n : String) → vx_Note p l e R s m args below meth c H locs cells slots Q (F0 m pc ls rest) "java/lang/ArrayIndexOutOfBoundsException" tx) : W p l e R s m args below meth c H locs cells slots Q (F0 m pc ls (.int x :: .int i :: .ref a :: rest)) := by
  intro T hT X
  obtain ⟨t, st, q⟩ := k _ rfl T hT X
  refine ⟨t, ?_, q⟩
  have h1 := X.castoreOut hexec (by rw [hT]; exact hP q0 _ ha) ((hK.2 t0 _ ht).1 n (fun j => .int (f j))) (j := i) (by show (i < 0 ∨ (arrV _ _ _).slots.size ≤ _); rw [arrV_size]; exact Classical.byContradiction hout) (g := F0 m pc ls (.int x :: .int i :: .ref a :: rest)) rfl (rest := rest) rfl (by rw [hb]; exact hdg) t
  simp only [arrV_size] at h1
  exact h1 st
theorem vx_saldZ {D : va_G} {cl : List vw_C} {ws : va_W} {tys : List (ClassId × FieldType)} {a : Nat} (hexec : p.tables.exec = Jvm.exec) (hb : c.code = cc) (hK : va_K D cl tys s) (hP : va_P D cl ws H) (q0 t0 : Nat) {cA : ClassId} {n : Nat} {f : Nat → Int32} (ha : ws[q0]? = some (a, .inl (cA, n, .inl f))) (ht : tys[t0]? = some (cA, .short)) {i : Int32} (hout : ¬ vp_in i n) (hdg : decode cc pc = .ok (.saload, 1))
    (k : ∀ tx : String, tx = (toString "Index " ++ toString i ++ toString " out of bounds for length " ++ toString n : String) → vx_Note p l e R s m args below meth c H locs cells slots Q (F0 m pc ls rest) "java/lang/ArrayIndexOutOfBoundsException" tx) : W p l e R s m args below meth c H locs cells slots Q (F0 m pc ls (.int i :: .ref a :: rest)) := by
  intro T hT X
  obtain ⟨t, st, q⟩ := k _ rfl T hT X
  refine ⟨t, ?_, q⟩
  have h1 := X.saloadOut hexec (by rw [hT]; exact hP q0 _ ha) ((hK.2 t0 _ ht).1 n (fun j => .int (f j))) (j := i) (by show (i < 0 ∨ (arrV _ _ _).slots.size ≤ _); rw [arrV_size]; exact Classical.byContradiction hout) (g := F0 m pc ls (.int i :: .ref a :: rest)) rfl (rest := rest) rfl (by rw [hb]; exact hdg) t
  simp only [arrV_size] at h1
  exact h1 st
theorem vx_sastZ {D : va_G} {cl : List vw_C} {ws : va_W} {tys : List (ClassId × FieldType)} {a : Nat} (hexec : p.tables.exec = Jvm.exec) (hb : c.code = cc) (hK : va_K D cl tys s) (hP : va_P D cl ws H) (q0 t0 : Nat) {cA : ClassId} {n : Nat} {f : Nat → Int32} (ha : ws[q0]? = some (a, .inl (cA, n, .inl f))) (ht : tys[t0]? = some (cA, .short)) {i : Int32} {x : Int32} (hout : ¬ vp_in i n) (hdg : decode cc pc = .ok (.sastore, 1))
    (k : ∀ tx : String, tx = (toString "Index " ++ toString i ++ toString " out of bounds for length " ++ toString n : String) → vx_Note p l e R s m args below meth c H locs cells slots Q (F0 m pc ls rest) "java/lang/ArrayIndexOutOfBoundsException" tx) : W p l e R s m args below meth c H locs cells slots Q (F0 m pc ls (.int x :: .int i :: .ref a :: rest)) := by
  intro T hT X
  obtain ⟨t, st, q⟩ := k _ rfl T hT X
  refine ⟨t, ?_, q⟩
  have h1 := X.sastoreOut hexec (by rw [hT]; exact hP q0 _ ha) ((hK.2 t0 _ ht).1 n (fun j => .int (f j))) (j := i) (by show (i < 0 ∨ (arrV _ _ _).slots.size ≤ _); rw [arrV_size]; exact Classical.byContradiction hout) (g := F0 m pc ls (.int x :: .int i :: .ref a :: rest)) rfl (rest := rest) rfl (by rw [hb]; exact hdg) t
  simp only [arrV_size] at h1
  exact h1 st
theorem vx_laldZ {D : va_G} {cl : List vw_C} {ws : va_W} {tys : List (ClassId × FieldType)} {a : Nat} (hexec : p.tables.exec = Jvm.exec) (hb : c.code = cc) (hK : va_K D cl tys s) (hP : va_P D cl ws H) (q0 t0 : Nat) {cA : ClassId} {n : Nat} {f : Nat → Int64} (ha : ws[q0]? = some (a, .inl (cA, n, .inr (.inl f)))) (ht : tys[t0]? = some (cA, .long)) {i : Int32} (hout : ¬ vp_in i n) (hdg : decode cc pc = .ok (.laload, 1))
    (k : ∀ tx : String, tx = (toString "Index " ++ toString i ++ toString " out of bounds for length " ++ toString n : String) → vx_Note p l e R s m args below meth c H locs cells slots Q (F0 m pc ls rest) "java/lang/ArrayIndexOutOfBoundsException" tx) : W p l e R s m args below meth c H locs cells slots Q (F0 m pc ls (.int i :: .ref a :: rest)) := by
  intro T hT X
  obtain ⟨t, st, q⟩ := k _ rfl T hT X
  refine ⟨t, ?_, q⟩
  have h1 := X.laloadOut hexec (by rw [hT]; exact hP q0 _ ha) ((hK.2 t0 _ ht).1 n (fun j => .long (f j))) (j := i) (by show (i < 0 ∨ (arrV _ _ _).slots.size ≤ _); rw [arrV_size]; exact Classical.byContradiction hout) (g := F0 m pc ls (.int i :: .ref a :: rest)) rfl (rest := rest) rfl (by rw [hb]; exact hdg) t
  simp only [arrV_size] at h1
  exact h1 st
theorem vx_lastZ {D : va_G} {cl : List vw_C} {ws : va_W} {tys : List (ClassId × FieldType)} {a : Nat} (hexec : p.tables.exec = Jvm.exec) (hb : c.code = cc) (hK : va_K D cl tys s) (hP : va_P D cl ws H) (q0 t0 : Nat) {cA : ClassId} {n : Nat} {f : Nat → Int64} (ha : ws[q0]? = some (a, .inl (cA, n, .inr (.inl f)))) (ht : tys[t0]? = some (cA, .long)) {i : Int32} {x : Int64} (hout : ¬ vp_in i n) (hdg : decode cc pc = .ok (.lastore, 1))
    (k : ∀ tx : String, tx = (toString "Index " ++ toString i ++ toString " out of bounds for length " ++ toString n : String) → vx_Note p l e R s m args below meth c H locs cells slots Q (F0 m pc ls rest) "java/lang/ArrayIndexOutOfBoundsException" tx) : W p l e R s m args below meth c H locs cells slots Q (F0 m pc ls (.long x :: .int i :: .ref a :: rest)) := by
  intro T hT X
  obtain ⟨t, st, q⟩ := k _ rfl T hT X
  refine ⟨t, ?_, q⟩
  have h1 := X.lastoreOut hexec (by rw [hT]; exact hP q0 _ ha) ((hK.2 t0 _ ht).1 n (fun j => .long (f j))) (j := i) (by show (i < 0 ∨ (arrV _ _ _).slots.size ≤ _); rw [arrV_size]; exact Classical.byContradiction hout) (g := F0 m pc ls (.long x :: .int i :: .ref a :: rest)) rfl (rest := rest) rfl (by rw [hb]; exact hdg) t
  simp only [arrV_size] at h1
  exact h1 st
theorem vx_faldZ {D : va_G} {cl : List vw_C} {ws : va_W} {tys : List (ClassId × FieldType)} {a : Nat} (hexec : p.tables.exec = Jvm.exec) (hb : c.code = cc) (hK : va_K D cl tys s) (hP : va_P D cl ws H) (q0 t0 : Nat) {cA : ClassId} {n : Nat} {f : Nat → UInt32} (ha : ws[q0]? = some (a, .inl (cA, n, .inr (.inr (.inl f))))) (ht : tys[t0]? = some (cA, .float)) {i : Int32} (hout : ¬ vp_in i n) (hdg : decode cc pc = .ok (.faload, 1))
    (k : ∀ tx : String, tx = (toString "Index " ++ toString i ++ toString " out of bounds for length " ++ toString n : String) → vx_Note p l e R s m args below meth c H locs cells slots Q (F0 m pc ls rest) "java/lang/ArrayIndexOutOfBoundsException" tx) : W p l e R s m args below meth c H locs cells slots Q (F0 m pc ls (.int i :: .ref a :: rest)) := by
  intro T hT X
  obtain ⟨t, st, q⟩ := k _ rfl T hT X
  refine ⟨t, ?_, q⟩
  have h1 := X.faloadOut hexec (by rw [hT]; exact hP q0 _ ha) ((hK.2 t0 _ ht).1 n (fun j => .float (f j))) (j := i) (by show (i < 0 ∨ (arrV _ _ _).slots.size ≤ _); rw [arrV_size]; exact Classical.byContradiction hout) (g := F0 m pc ls (.int i :: .ref a :: rest)) rfl (rest := rest) rfl (by rw [hb]; exact hdg) t
  simp only [arrV_size] at h1
  exact h1 st
theorem vx_fastZ {D : va_G} {cl : List vw_C} {ws : va_W} {tys : List (ClassId × FieldType)} {a : Nat} (hexec : p.tables.exec = Jvm.exec) (hb : c.code = cc) (hK : va_K D cl tys s) (hP : va_P D cl ws H) (q0 t0 : Nat) {cA : ClassId} {n : Nat} {f : Nat → UInt32} (ha : ws[q0]? = some (a, .inl (cA, n, .inr (.inr (.inl f))))) (ht : tys[t0]? = some (cA, .float)) {i : Int32} {x : UInt32} (hout : ¬ vp_in i n) (hdg : decode cc pc = .ok (.fastore, 1))
    (k : ∀ tx : String, tx = (toString "Index " ++ toString i ++ toString " out of bounds for length " ++ toString n : String) → vx_Note p l e R s m args below meth c H locs cells slots Q (F0 m pc ls rest) "java/lang/ArrayIndexOutOfBoundsException" tx) : W p l e R s m args below meth c H locs cells slots Q (F0 m pc ls (.float x :: .int i :: .ref a :: rest)) := by
  intro T hT X
  obtain ⟨t, st, q⟩ := k _ rfl T hT X
  refine ⟨t, ?_, q⟩
  have h1 := X.fastoreOut hexec (by rw [hT]; exact hP q0 _ ha) ((hK.2 t0 _ ht).1 n (fun j => .float (f j))) (j := i) (by show (i < 0 ∨ (arrV _ _ _).slots.size ≤ _); rw [arrV_size]; exact Classical.byContradiction hout) (g := F0 m pc ls (.float x :: .int i :: .ref a :: rest)) rfl (rest := rest) rfl (by rw [hb]; exact hdg) t
  simp only [arrV_size] at h1
  exact h1 st
theorem vx_daldZ {D : va_G} {cl : List vw_C} {ws : va_W} {tys : List (ClassId × FieldType)} {a : Nat} (hexec : p.tables.exec = Jvm.exec) (hb : c.code = cc) (hK : va_K D cl tys s) (hP : va_P D cl ws H) (q0 t0 : Nat) {cA : ClassId} {n : Nat} {f : Nat → UInt64} (ha : ws[q0]? = some (a, .inl (cA, n, .inr (.inr (.inr (.inl f)))))) (ht : tys[t0]? = some (cA, .double)) {i : Int32} (hout : ¬ vp_in i n) (hdg : decode cc pc = .ok (.daload, 1))
    (k : ∀ tx : String, tx = (toString "Index " ++ toString i ++ toString " out of bounds for length " ++ toString n : String) → vx_Note p l e R s m args below meth c H locs cells slots Q (F0 m pc ls rest) "java/lang/ArrayIndexOutOfBoundsException" tx) : W p l e R s m args below meth c H locs cells slots Q (F0 m pc ls (.int i :: .ref a :: rest)) := by
  intro T hT X
  obtain ⟨t, st, q⟩ := k _ rfl T hT X
  refine ⟨t, ?_, q⟩
  have h1 := X.daloadOut hexec (by rw [hT]; exact hP q0 _ ha) ((hK.2 t0 _ ht).1 n (fun j => .double (f j))) (j := i) (by show (i < 0 ∨ (arrV _ _ _).slots.size ≤ _); rw [arrV_size]; exact Classical.byContradiction hout) (g := F0 m pc ls (.int i :: .ref a :: rest)) rfl (rest := rest) rfl (by rw [hb]; exact hdg) t
  simp only [arrV_size] at h1
  exact h1 st
theorem vx_dastZ {D : va_G} {cl : List vw_C} {ws : va_W} {tys : List (ClassId × FieldType)} {a : Nat} (hexec : p.tables.exec = Jvm.exec) (hb : c.code = cc) (hK : va_K D cl tys s) (hP : va_P D cl ws H) (q0 t0 : Nat) {cA : ClassId} {n : Nat} {f : Nat → UInt64} (ha : ws[q0]? = some (a, .inl (cA, n, .inr (.inr (.inr (.inl f)))))) (ht : tys[t0]? = some (cA, .double)) {i : Int32} {x : UInt64} (hout : ¬ vp_in i n) (hdg : decode cc pc = .ok (.dastore, 1))
    (k : ∀ tx : String, tx = (toString "Index " ++ toString i ++ toString " out of bounds for length " ++ toString n : String) → vx_Note p l e R s m args below meth c H locs cells slots Q (F0 m pc ls rest) "java/lang/ArrayIndexOutOfBoundsException" tx) : W p l e R s m args below meth c H locs cells slots Q (F0 m pc ls (.double x :: .int i :: .ref a :: rest)) := by
  intro T hT X
  obtain ⟨t, st, q⟩ := k _ rfl T hT X
  refine ⟨t, ?_, q⟩
  have h1 := X.dastoreOut hexec (by rw [hT]; exact hP q0 _ ha) ((hK.2 t0 _ ht).1 n (fun j => .double (f j))) (j := i) (by show (i < 0 ∨ (arrV _ _ _).slots.size ≤ _); rw [arrV_size]; exact Classical.byContradiction hout) (g := F0 m pc ls (.double x :: .int i :: .ref a :: rest)) rfl (rest := rest) rfl (by rw [hb]; exact hdg) t
  simp only [arrV_size] at h1
  exact h1 st
theorem vx_arraylengthN (hexec : p.tables.exec = Jvm.exec) (hb : c.code = cc) (hdg : decode cc pc = .ok (.arraylength, 1)) (k : vx_NoteN p l e R s m args below meth c H locs cells slots Q (F0 m pc ls rest)) : W p l e R s m args below meth c H locs cells slots Q (F0 m pc ls (.null :: rest)) := by
  intro T hT X
  obtain ⟨t, st, q⟩ := k T hT X
  exact ⟨t, X.arraylengthNull hexec (g := F0 m pc ls (.null :: rest)) rfl (rest := rest) rfl (by rw [hb]; exact hdg) t st, q⟩
theorem vx_ialoadN (hexec : p.tables.exec = Jvm.exec) (hb : c.code = cc) {i : Int32} (hdg : decode cc pc = .ok (.iaload, 1)) (k : vx_NoteN p l e R s m args below meth c H locs cells slots Q (F0 m pc ls rest)) : W p l e R s m args below meth c H locs cells slots Q (F0 m pc ls (.int i :: .null :: rest)) := by
  intro T hT X
  obtain ⟨t, st, q⟩ := k T hT X
  exact ⟨t, X.ialoadNull hexec (g := F0 m pc ls (.int i :: .null :: rest)) rfl (rest := rest) rfl (by rw [hb]; exact hdg) t st, q⟩
theorem vx_laloadN (hexec : p.tables.exec = Jvm.exec) (hb : c.code = cc) {i : Int32} (hdg : decode cc pc = .ok (.laload, 1)) (k : vx_NoteN p l e R s m args below meth c H locs cells slots Q (F0 m pc ls rest)) : W p l e R s m args below meth c H locs cells slots Q (F0 m pc ls (.int i :: .null :: rest)) := by
  intro T hT X
  obtain ⟨t, st, q⟩ := k T hT X
  exact ⟨t, X.laloadNull hexec (g := F0 m pc ls (.int i :: .null :: rest)) rfl (rest := rest) rfl (by rw [hb]; exact hdg) t st, q⟩
theorem vx_faloadN (hexec : p.tables.exec = Jvm.exec) (hb : c.code = cc) {i : Int32} (hdg : decode cc pc = .ok (.faload, 1)) (k : vx_NoteN p l e R s m args below meth c H locs cells slots Q (F0 m pc ls rest)) : W p l e R s m args below meth c H locs cells slots Q (F0 m pc ls (.int i :: .null :: rest)) := by
  intro T hT X
  obtain ⟨t, st, q⟩ := k T hT X
  exact ⟨t, X.faloadNull hexec (g := F0 m pc ls (.int i :: .null :: rest)) rfl (rest := rest) rfl (by rw [hb]; exact hdg) t st, q⟩
theorem vx_daloadN (hexec : p.tables.exec = Jvm.exec) (hb : c.code = cc) {i : Int32} (hdg : decode cc pc = .ok (.daload, 1)) (k : vx_NoteN p l e R s m args below meth c H locs cells slots Q (F0 m pc ls rest)) : W p l e R s m args below meth c H locs cells slots Q (F0 m pc ls (.int i :: .null :: rest)) := by
  intro T hT X
  obtain ⟨t, st, q⟩ := k T hT X
  exact ⟨t, X.daloadNull hexec (g := F0 m pc ls (.int i :: .null :: rest)) rfl (rest := rest) rfl (by rw [hb]; exact hdg) t st, q⟩
theorem vx_aaloadN (hexec : p.tables.exec = Jvm.exec) (hb : c.code = cc) {i : Int32} (hdg : decode cc pc = .ok (.aaload, 1)) (k : vx_NoteN p l e R s m args below meth c H locs cells slots Q (F0 m pc ls rest)) : W p l e R s m args below meth c H locs cells slots Q (F0 m pc ls (.int i :: .null :: rest)) := by
  intro T hT X
  obtain ⟨t, st, q⟩ := k T hT X
  exact ⟨t, X.aaloadNull hexec (g := F0 m pc ls (.int i :: .null :: rest)) rfl (rest := rest) rfl (by rw [hb]; exact hdg) t st, q⟩
theorem vx_baloadN (hexec : p.tables.exec = Jvm.exec) (hb : c.code = cc) {i : Int32} (hdg : decode cc pc = .ok (.baload, 1)) (k : vx_NoteN p l e R s m args below meth c H locs cells slots Q (F0 m pc ls rest)) : W p l e R s m args below meth c H locs cells slots Q (F0 m pc ls (.int i :: .null :: rest)) := by
  intro T hT X
  obtain ⟨t, st, q⟩ := k T hT X
  exact ⟨t, X.baloadNull hexec (g := F0 m pc ls (.int i :: .null :: rest)) rfl (rest := rest) rfl (by rw [hb]; exact hdg) t st, q⟩
theorem vx_caloadN (hexec : p.tables.exec = Jvm.exec) (hb : c.code = cc) {i : Int32} (hdg : decode cc pc = .ok (.caload, 1)) (k : vx_NoteN p l e R s m args below meth c H locs cells slots Q (F0 m pc ls rest)) : W p l e R s m args below meth c H locs cells slots Q (F0 m pc ls (.int i :: .null :: rest)) := by
  intro T hT X
  obtain ⟨t, st, q⟩ := k T hT X
  exact ⟨t, X.caloadNull hexec (g := F0 m pc ls (.int i :: .null :: rest)) rfl (rest := rest) rfl (by rw [hb]; exact hdg) t st, q⟩
theorem vx_saloadN (hexec : p.tables.exec = Jvm.exec) (hb : c.code = cc) {i : Int32} (hdg : decode cc pc = .ok (.saload, 1)) (k : vx_NoteN p l e R s m args below meth c H locs cells slots Q (F0 m pc ls rest)) : W p l e R s m args below meth c H locs cells slots Q (F0 m pc ls (.int i :: .null :: rest)) := by
  intro T hT X
  obtain ⟨t, st, q⟩ := k T hT X
  exact ⟨t, X.saloadNull hexec (g := F0 m pc ls (.int i :: .null :: rest)) rfl (rest := rest) rfl (by rw [hb]; exact hdg) t st, q⟩
theorem vx_iastoreN (hexec : p.tables.exec = Jvm.exec) (hb : c.code = cc) {x : Int32} {i : Int32} (hdg : decode cc pc = .ok (.iastore, 1)) (k : vx_NoteN p l e R s m args below meth c H locs cells slots Q (F0 m pc ls rest)) : W p l e R s m args below meth c H locs cells slots Q (F0 m pc ls (.int x :: .int i :: .null :: rest)) := by
  intro T hT X
  obtain ⟨t, st, q⟩ := k T hT X
  exact ⟨t, X.iastoreNull hexec (g := F0 m pc ls (.int x :: .int i :: .null :: rest)) rfl (rest := rest) rfl (by rw [hb]; exact hdg) t st, q⟩
theorem vx_lastoreN (hexec : p.tables.exec = Jvm.exec) (hb : c.code = cc) {x : Int64} {i : Int32} (hdg : decode cc pc = .ok (.lastore, 1)) (k : vx_NoteN p l e R s m args below meth c H locs cells slots Q (F0 m pc ls rest)) : W p l e R s m args below meth c H locs cells slots Q (F0 m pc ls (.long x :: .int i :: .null :: rest)) := by
  intro T hT X
  obtain ⟨t, st, q⟩ := k T hT X
  exact ⟨t, X.lastoreNull hexec (g := F0 m pc ls (.long x :: .int i :: .null :: rest)) rfl (rest := rest) rfl (by rw [hb]; exact hdg) t st, q⟩
theorem vx_fastoreN (hexec : p.tables.exec = Jvm.exec) (hb : c.code = cc) {x : UInt32} {i : Int32} (hdg : decode cc pc = .ok (.fastore, 1)) (k : vx_NoteN p l e R s m args below meth c H locs cells slots Q (F0 m pc ls rest)) : W p l e R s m args below meth c H locs cells slots Q (F0 m pc ls (.float x :: .int i :: .null :: rest)) := by
  intro T hT X
  obtain ⟨t, st, q⟩ := k T hT X
  exact ⟨t, X.fastoreNull hexec (g := F0 m pc ls (.float x :: .int i :: .null :: rest)) rfl (rest := rest) rfl (by rw [hb]; exact hdg) t st, q⟩
theorem vx_dastoreN (hexec : p.tables.exec = Jvm.exec) (hb : c.code = cc) {x : UInt64} {i : Int32} (hdg : decode cc pc = .ok (.dastore, 1)) (k : vx_NoteN p l e R s m args below meth c H locs cells slots Q (F0 m pc ls rest)) : W p l e R s m args below meth c H locs cells slots Q (F0 m pc ls (.double x :: .int i :: .null :: rest)) := by
  intro T hT X
  obtain ⟨t, st, q⟩ := k T hT X
  exact ⟨t, X.dastoreNull hexec (g := F0 m pc ls (.double x :: .int i :: .null :: rest)) rfl (rest := rest) rfl (by rw [hb]; exact hdg) t st, q⟩
theorem vx_bastoreN (hexec : p.tables.exec = Jvm.exec) (hb : c.code = cc) {x : Int32} {i : Int32} (hdg : decode cc pc = .ok (.bastore, 1)) (k : vx_NoteN p l e R s m args below meth c H locs cells slots Q (F0 m pc ls rest)) : W p l e R s m args below meth c H locs cells slots Q (F0 m pc ls (.int x :: .int i :: .null :: rest)) := by
  intro T hT X
  obtain ⟨t, st, q⟩ := k T hT X
  exact ⟨t, X.bastoreNull hexec (g := F0 m pc ls (.int x :: .int i :: .null :: rest)) rfl (rest := rest) rfl (by rw [hb]; exact hdg) t st, q⟩
theorem vx_castoreN (hexec : p.tables.exec = Jvm.exec) (hb : c.code = cc) {x : Int32} {i : Int32} (hdg : decode cc pc = .ok (.castore, 1)) (k : vx_NoteN p l e R s m args below meth c H locs cells slots Q (F0 m pc ls rest)) : W p l e R s m args below meth c H locs cells slots Q (F0 m pc ls (.int x :: .int i :: .null :: rest)) := by
  intro T hT X
  obtain ⟨t, st, q⟩ := k T hT X
  exact ⟨t, X.castoreNull hexec (g := F0 m pc ls (.int x :: .int i :: .null :: rest)) rfl (rest := rest) rfl (by rw [hb]; exact hdg) t st, q⟩
theorem vx_sastoreN (hexec : p.tables.exec = Jvm.exec) (hb : c.code = cc) {x : Int32} {i : Int32} (hdg : decode cc pc = .ok (.sastore, 1)) (k : vx_NoteN p l e R s m args below meth c H locs cells slots Q (F0 m pc ls rest)) : W p l e R s m args below meth c H locs cells slots Q (F0 m pc ls (.int x :: .int i :: .null :: rest)) := by
  intro T hT X
  obtain ⟨t, st, q⟩ := k T hT X
  exact ⟨t, X.sastoreNull hexec (g := F0 m pc ls (.int x :: .int i :: .null :: rest)) rfl (rest := rest) rfl (by rw [hb]; exact hdg) t st, q⟩
theorem vx_invokeN {own C : String} {index maxL : Nat} {y : MethodName} {bytes : ByteArray} {ret : Option FieldType} (hexec : p.tables.exec = Jvm.exec) (hb : c.code = cc) (hown : s.vm.findClass own = some m.cls) (hlink : (Cond.methodLink own index y).before args s = true) (hinst : (Cond.instanceMethod y).before args s = true) (hcode : (Cond.code y bytes maxL ret).before args s = true) (hsel : (Cond.selects C y y).before args s = true)
    (hx : y.cls ≠ "java/lang/invoke/MethodHandle" ∧ y.cls ≠ "java/lang/invoke/VarHandle") {As : List Value} (hlen : (parseMethodDescriptor y.desc).map (fun d => d.parameters.length) = some As.length) (hdg : decode cc pc = .ok (.invokevirtual index, 3))
    (k : vx_NoteN p l e R s m args below meth c H locs cells slots Q (F0 m pc ls rest)) {st0 : List Value} (hst : st0 = As.reverse ++ .null :: rest) : W p l e R s m args below meth c H locs cells slots Q (F0 m pc ls st0) := by
  intro T hT X
  obtain ⟨r0, r, hn, hrm, hstR, hsigR⟩ := va_Decl.of hinst hcode
  obtain ⟨c2, r2, m2, q1, q2, q3, q4, kP, hkP, hkPi⟩ := Cond.selects_spec hsel
  cases hn.symm.trans q3
  have hl9 : As.length = r.sig.parameters.length := by
    rw [hsigR] at hlen
    exact (Option.some.inj hlen).symm
  obtain ⟨vm', X1, st1⟩ := X.invokevirtualNull hexec hown hlink hn hrm hstR hkP hkPi hx (g := F0 m pc ls st0) rfl (argsL := As) (rest := rest) hl9 hst (by rw [hb]; exact hdg)
  obtain ⟨t, st, q⟩ := k (T.setVm vm') hT X1
  exact ⟨t, st1 t st, q⟩
theorem vx_newarrayZ {atype : ArrayType} (hexec : p.tables.exec = Jvm.exec) (hb : c.code = cc) {n : Int32} (h0 : n < 0) (hdg : decode cc pc = .ok (.newarray atype, 2)) (k : ∀ tx : String, tx = toString n → vx_Note p l e R s m args below meth c H locs cells slots Q (F0 m pc ls rest) "java/lang/NegativeArraySizeException" tx) : W p l e R s m args below meth c H locs cells slots Q (F0 m pc ls (.int n :: rest)) := by
  intro T hT X
  obtain ⟨t, st, q⟩ := k _ rfl T hT X
  exact ⟨t, X.newarrayNegative hexec (g := F0 m pc ls (.int n :: rest)) rfl h0 (rest := rest) rfl (by rw [hb]; exact hdg) t st, q⟩
end
end VXM
/-! ===== END ===== -/
/-! ===== BEGIN an exception as an object: made, kept, thrown later (no traces kept) ===== -/
section VXK
variable {p : Program} {l : Launch} {e : Env} {R : Room} {s : State} {m₀ : MethodId} {args : Array Value} {below : List Frame} {meth : Method} {c : Code} {W : State} {locs : List Loc} {cells slots : Nat}
set_option maxHeartbeats 1000000 in
theorem vx_ctorMadeS (X : Stand p l e R s m₀ args below meth c W locs cells slots) (hexec : p.tables.exec = Jvm.exec) (htr : e.platform.stackTraces = false) {own cls : String} {names : List String} {ic : Nat}
    (hown : s.vm.findClass own = some m₀.cls) (hcls : Bundle.fit cls = true) (hnames : ∀ n ∈ names, Bundle.fit n = true)
    (h : ∀ a ∈ Bundle.ownAtoms own ic cls names, a.before args s = true)
    (hlocs : ∀ x ∈ locs, ∀ cell, s.heap[x.base]? = some cell → cell.vm.isStatics = false)
    {a : Addr} {cX : ClassId} {kX : Class} (hfoundX : s.vm.findClass cls = some cX) (hkX : s.vm.classes[cX]? = some kX) (hcell : W.heap[a]? = some (freshCell cX kX)) (hnew : s.heap.size ≤ a)
    {msg : Value} (hmsg : msg.isRef = true)
    {g : JFrame} (hg : g.method = m₀) (hsize : g.locals.size = c.maxLocals) {rest : List Value} (hstack : g.stack = msg :: .ref a :: .ref a :: rest)
    (hd6 : decode c.code g.pc = .ok (.invokespecial ic, 3))
    (hRframes : names.length + 3 < R.frames) (hRlocals : 2 * g.monitorRoom + ((Value.ref a :: rest).map fun v => v.category).sum + (13 * (names.length + 1) + 42) ≤ R.locals) :
    ∃ (V : State) (ce : Cell) (L : List Loc), Stand p l e R s m₀ args below meth c (V.setCell a ce) (locs ++ L) cells slots ∧ (∀ y ∈ L, y.base = a) ∧ a < V.heap.size ∧ ce.cls = cX ∧ ce.vm = .none ∧
      ∀ target, Steps p.tables e below ((V.setCell a ce).setTop { g with stack := .ref a :: rest, pc := g.pc + 3 }) target → Steps p.tables e below (W.setTop g) target := by
  have howns : e.platform.frameOwnsMonitors = true := by rw [X.admits.platform]
  have hfin : e.platform.finalization = false := by rw [X.admits.platform]
  have hpl : e.platform.magicAccessors = ({} : Platform).magicAccessors := by rw [X.admits.platform]
  have a' : ∀ x, x ∈ Bundle.ownAtoms own ic cls names → x.holds args s none s [] = true := fun x hx => h x hx
  obtain ⟨T, Z0, L, -, Y⟩ := ThrowableC.of_atoms (args := args) howns hfin hpl (fun x hx => h x (by simp [Bundle.ownAtoms, hx]))
  obtain ⟨Z, M, LZ, LM, hnZ⟩ := Init0T.ofS_atoms (args := args) hpl L Y (fun x hx => h x (by simp [Bundle.ownAtoms, hx]))
  obtain ⟨P1, Ps, hlen, L1, hL, hP1m, hlink1, hlink⟩ := Bundle.chainS (args := args) hpl hnZ names cls hcls hnames (fun x hx => h x (by simp [Bundle.ownAtoms, hx]))
  have hfound : s.vm.findClass cls = some P1.m.cls := findClass_of_methodNamed hP1m
  cases Option.some.inj (hfoundX.symm.trans hfound)
  obtain ⟨c1, kX', hc1, hk, hord, -, -, hn6⟩ := Cond.instantiable_spec (a' (.instantiable cls 6) (by simp [Bundle.ownAtoms]))
  cases Option.some.inj (hc1.symm.trans hfound)
  cases Option.some.inj (hkX.symm.trans hk)
  have hsel0 : selectMethod e.platform s.vm P1.m.cls T.fill0 = .method T.fill0 := by
    obtain ⟨c2, r2, m2, q1, q2, q3, q4, -⟩ := Cond.selects_spec (a' (.selects cls Bundle.tFill0 Bundle.tFill0) (by simp [Bundle.ownAtoms]))
    cases Option.some.inj (q1.symm.trans hfound)
    cases Option.some.inj (q2.symm.trans (State.methodFound?_of_named Y.fill0 (by decide)))
    cases Option.some.inj (q3.symm.trans Y.fill0)
    rw [Launch.admits_selectMethod X.admits]; exact q4
  have hselF : selectMethod e.platform s.vm P1.m.cls T.fill = .method T.fill := by
    obtain ⟨c2, r2, m2, q1, q2, q3, q4, -⟩ := Cond.selects_spec (a' (.selects cls Bundle.tFill Bundle.tFill) (by simp [Bundle.ownAtoms]))
    cases Option.some.inj (q1.symm.trans hfound)
    cases Option.some.inj (q2.symm.trans (State.methodFound?_of_named Y.fill (by decide)))
    cases Option.some.inj (q3.symm.trans Y.fill)
    rw [Launch.admits_selectMethod X.admits]; exact q4
  obtain ⟨cellS0, hcS0, hiss⟩ := Y.statics
  obtain ⟨u0, hu0⟩ := Cond.staticRefV Y.unassigned L.unassignedStatic L.statics hcS0 hiss (a' (.isRef (.static Bundle.tN "UNASSIGNED_STACK" Bundle.steD)) (by simp [Bundle.ownAtoms]))
  obtain ⟨sen, hsen⟩ := Cond.staticRefV Y.sentinel L.sentinelStatic L.statics hcS0 hiss (a' (.isRef (.static Bundle.tN "SUPPRESSED_SENTINEL" Bundle.listD)) (by simp [Bundle.ownAtoms]))
  obtain ⟨ci198, i198, fB, hk198, hg198, ha198, hsB, -, hnB, htB, hffB⟩ := Cond.ownField (t := .object "java/lang/Object") Y.found L.cls (by decide +kernel) (a' (.fieldLink Bundle.tN 198 Bundle.tN "backtrace" "Ljava/lang/Object;") (by simp [Bundle.ownAtoms])) (a' (.lays Bundle.tN Bundle.tN "backtrace" "Ljava/lang/Object;") (by simp [Bundle.ownAtoms])) e.platform hpl
  obtain ⟨cellS, hcS', heS, -, hkeep⟩ := X.same.2.2.2.2.2 T.aS cellS0 hcS0
  have hcellS : W.heap[T.aS]? = some cellS := hcS'
  have hout' : ∀ i, (⟨T.aS, i⟩ : Loc) ∉ locs := fun i hmem => by
    have := hlocs _ hmem cellS0 hcS0
    rw [hiss] at this; cases this
  have hknownS : cellS.vm ≠ .unknown := by
    rw [heS]; intro hu
    rw [show cellS0.vm = .unknown from hu] at hiss
    cases hiss
  have hneS : T.aS ≠ a := Nat.ne_of_lt (Nat.lt_of_lt_of_le (Array.getElem?_eq_some_iff.mp hcS0).1 hnew)
  obtain ⟨iM, hffM⟩ := Y.msg
  obtain ⟨tyC, dC, hdC, hdnC⟩ := Cond.laysAt hfound hk Y.cause (a' (.lays cls Bundle.tN "cause" "Ljava/lang/Throwable;") (by simp [Bundle.ownAtoms]))
  obtain ⟨tyS, dS, hdS, hdnS⟩ := Cond.laysAt hfound hk Y.stack (a' (.lays cls Bundle.tN "stackTrace" Bundle.steD) (by simp [Bundle.ownAtoms]))
  obtain ⟨tyP, dP, hdP, hdnP⟩ := Cond.laysAt hfound hk Y.supp (a' (.lays cls Bundle.tN "suppressedExceptions" Bundle.listD) (by simp [Bundle.ownAtoms]))
  obtain ⟨tyM, dM, hdM, hdnM⟩ := Cond.laysAt hfound hk hffM (a' (.lays cls Bundle.tN "detailMessage" "Ljava/lang/String;") (by simp [Bundle.ownAtoms]))
  obtain ⟨tyB, dB, hdB, hdnB⟩ := Cond.laysAt hfound hk hffB (a' (.lays cls Bundle.tN "backtrace" "Ljava/lang/Object;") (by simp [Bundle.ownAtoms]))
  have bC := Cond.laysApart hdB hdC hdnB hdnC (by rw [hnB, Y.causeName]; decide)
  have bS := Cond.laysApart hdB hdS hdnB hdnS (by rw [hnB, Y.stackName]; decide)
  have bP := Cond.laysApart hdB hdP hdnB hdnP (by rw [hnB, Y.suppName]; decide)
  have hskip : SkipFacts T e.platform s (fun u => u) u0 ((preparedCellV T.toThrowableT (freshCell P1.m.cls kX) a u0 sen).withEntry W.cur) :=
    ⟨{ ci198 := ci198, i198 := i198, fBack := fB }, ⟨hk198, hg198, ha198, hsB⟩, by
      have := fresh_default (c := P1.m.cls) tyB
      rw [htB] at this
      simpa [preparedCellV, Cell.setSlot, Cell.withEntry, Array.getElem?_setIfInBounds, bC, bS, bP, bC.symm, bS.symm, bP.symm, defaultValue] using this, fun _ _ => rfl⟩
  obtain ⟨tm, methC, cdC, kC, vm₁, hnC, -, -, -, -, -, -, -, hW₁, st1⟩ := Steps.initColdS (tb := p.tables) (e := e) (below := below) (s := s) (U := W) X.here hexec X.warmed hpl hown (t := Bundle.initS cls) rfl rfl (Bundle.fit_spec hcls).2
    (a' (.methodLink own ic (Bundle.initS cls)) (by simp [Bundle.ownAtoms])) (h (.instanceMethod (Bundle.initS cls)) (by cases names <;> simp [Bundle.ownAtoms, Bundle.chainSAtoms, Bundle.passSAtoms])) (bytes := Bundle.six) (maxL := 2) (h (.code (Bundle.initS cls) Bundle.six 2 none) (by cases names <;> simp [Bundle.ownAtoms, Bundle.chainSAtoms, Bundle.passSAtoms]))
    (f := g) hg (a := a) (msg := msg) (rest := .ref a :: rest) hstack hd6
  cases Option.some.inj (hnC.symm.trans hP1m)
  have X₁ := X.noted hW₁
  obtain ⟨vm₂, X₂, st2⟩ := X₁.ctorMessageOffV hexec (g := { g with stack := .ref a :: rest }) hg hsize T L Z LZ M LM (P1 :: Ps)
    (fun P hP => by rcases List.mem_cons.mp hP with rfl | hP; exact L1; exact hL P hP) ⟨hlink1, hlink⟩ (u0 := u0) (sen := sen) (self := a) hmsg (cell := freshCell P1.m.cls kX) (cellS := cellS)
    hcell (fun _ => by simp) (by simp) rfl rfl hsel0 hselF hcellS hneS hknownS (by rw [hkeep _ (hout' _)]; exact hu0) (by rw [hkeep _ (hout' _)]; exact hsen)
    (Takes.of_laid hk hord tyC (by rw [Y.causeType]; rfl)) (Takes.of_laid hk hord tyS (by rw [Y.stackType]; exact fits_refV_array _ u0)) (Takes.of_laid hk hord tyP (by rw [Y.suppType]; exact fits_refV_object _ sen))
    (Takes.of_laid hk hord tyM (by rw [Y.msgType]; exact fits_refV_object _ ⟨msg, hmsg⟩)) Y.objLocals hskip htr [] hd6
    (by simp only [List.length_cons, hlen]; omega) (by simp only [List.length_cons, hlen]; exact hRlocals)
  have hlt : a < ((W.setVm vm₁).setVm vm₂).heap.size := (Array.getElem?_eq_some_iff.mp hcell).1
  refine ⟨(W.setVm vm₁).setVm vm₂, _, _, X₂, fun y hy => ?_, hlt, rfl, rfl, fun target hwalk => st1 _ (fun acts => ?_)⟩
  · simp only [List.mem_cons, List.not_mem_nil, or_false] at hy
    rcases hy with rfl | rfl | rfl | rfl | rfl <;> rfl
  · rw [doInvoke_state]
    exact st2 _ hwalk
set_option maxHeartbeats 1000000 in
theorem vx_ctorMade0 (X : Stand p l e R s m₀ args below meth c W locs cells slots) (hexec : p.tables.exec = Jvm.exec) (htr : e.platform.stackTraces = false) {own cls : String} {names : List String} {ic : Nat}
    (hown : s.vm.findClass own = some m₀.cls) (hcls : Bundle.fit cls = true) (hnames : ∀ n ∈ names, Bundle.fit n = true)
    (h : ∀ a ∈ Bundle.ownAtoms0 own ic cls names, a.before args s = true)
    (hlocs : ∀ x ∈ locs, ∀ cell, s.heap[x.base]? = some cell → cell.vm.isStatics = false)
    {a : Addr} {cX : ClassId} {kX : Class} (hfoundX : s.vm.findClass cls = some cX) (hkX : s.vm.classes[cX]? = some kX) (hcell : W.heap[a]? = some (freshCell cX kX)) (hnew : s.heap.size ≤ a)
    {g : JFrame} (hg : g.method = m₀) (hsize : g.locals.size = c.maxLocals) {rest : List Value} (hstack : g.stack = .ref a :: .ref a :: rest)
    (hd6 : decode c.code g.pc = .ok (.invokespecial ic, 3))
    (hRframes : names.length + 3 < R.frames) (hRlocals : 2 * g.monitorRoom + ((Value.ref a :: rest).map fun v => v.category).sum + (13 * (names.length + 1) + 41) ≤ R.locals) :
    ∃ (V : State) (ce : Cell) (L : List Loc), Stand p l e R s m₀ args below meth c (V.setCell a ce) (locs ++ L) cells slots ∧ (∀ y ∈ L, y.base = a) ∧ a < V.heap.size ∧ ce.cls = cX ∧ ce.vm = .none ∧
      ∀ target, Steps p.tables e below ((V.setCell a ce).setTop { g with stack := .ref a :: rest, pc := g.pc + 3 }) target → Steps p.tables e below (W.setTop g) target := by
  have howns : e.platform.frameOwnsMonitors = true := by rw [X.admits.platform]
  have hfin : e.platform.finalization = false := by rw [X.admits.platform]
  have hpl : e.platform.magicAccessors = ({} : Platform).magicAccessors := by rw [X.admits.platform]
  have a' : ∀ x, x ∈ Bundle.ownAtoms0 own ic cls names → x.holds args s none s [] = true := fun x hx => h x hx
  obtain ⟨T, Z, L, LZ, Y⟩ := ThrowableC.of_atoms (args := args) howns hfin hpl (fun x hx => h x (by simp [Bundle.ownAtoms0, hx]))
  obtain ⟨P1, Ps, hlen, L1, hL, hP1m, hlink1, hlink⟩ := Bundle.chain0 (args := args) hpl Y.init0 names cls hcls hnames (fun x hx => h x (by simp [Bundle.ownAtoms0, hx]))
  have hfound : s.vm.findClass cls = some P1.m.cls := findClass_of_methodNamed hP1m
  cases Option.some.inj (hfoundX.symm.trans hfound)
  obtain ⟨c1, kX', hc1, hk, hord, -, -, hn6⟩ := Cond.instantiable_spec (a' (.instantiable cls 6) (by simp [Bundle.ownAtoms0]))
  cases Option.some.inj (hc1.symm.trans hfound)
  cases Option.some.inj (hkX.symm.trans hk)
  have hsel0 : selectMethod e.platform s.vm P1.m.cls T.fill0 = .method T.fill0 := by
    obtain ⟨c2, r2, m2, q1, q2, q3, q4, -⟩ := Cond.selects_spec (a' (.selects cls Bundle.tFill0 Bundle.tFill0) (by simp [Bundle.ownAtoms0]))
    cases Option.some.inj (q1.symm.trans hfound)
    cases Option.some.inj (q2.symm.trans (State.methodFound?_of_named Y.fill0 (by decide)))
    cases Option.some.inj (q3.symm.trans Y.fill0)
    rw [Launch.admits_selectMethod X.admits]; exact q4
  have hselF : selectMethod e.platform s.vm P1.m.cls T.fill = .method T.fill := by
    obtain ⟨c2, r2, m2, q1, q2, q3, q4, -⟩ := Cond.selects_spec (a' (.selects cls Bundle.tFill Bundle.tFill) (by simp [Bundle.ownAtoms0]))
    cases Option.some.inj (q1.symm.trans hfound)
    cases Option.some.inj (q2.symm.trans (State.methodFound?_of_named Y.fill (by decide)))
    cases Option.some.inj (q3.symm.trans Y.fill)
    rw [Launch.admits_selectMethod X.admits]; exact q4
  obtain ⟨cellS0, hcS0, hiss⟩ := Y.statics
  obtain ⟨u0, hu0⟩ := Cond.staticRefV Y.unassigned L.unassignedStatic L.statics hcS0 hiss (a' (.isRef (.static Bundle.tN "UNASSIGNED_STACK" Bundle.steD)) (by simp [Bundle.ownAtoms0]))
  obtain ⟨sen, hsen⟩ := Cond.staticRefV Y.sentinel L.sentinelStatic L.statics hcS0 hiss (a' (.isRef (.static Bundle.tN "SUPPRESSED_SENTINEL" Bundle.listD)) (by simp [Bundle.ownAtoms0]))
  obtain ⟨ci198, i198, fB, hk198, hg198, ha198, hsB, -, hnB, htB, hffB⟩ := Cond.ownField (t := .object "java/lang/Object") Y.found L.cls (by decide +kernel) (a' (.fieldLink Bundle.tN 198 Bundle.tN "backtrace" "Ljava/lang/Object;") (by simp [Bundle.ownAtoms0])) (a' (.lays Bundle.tN Bundle.tN "backtrace" "Ljava/lang/Object;") (by simp [Bundle.ownAtoms0])) e.platform hpl
  obtain ⟨cellS, hcS', heS, -, hkeep⟩ := X.same.2.2.2.2.2 T.aS cellS0 hcS0
  have hcellS : W.heap[T.aS]? = some cellS := hcS'
  have hout' : ∀ i, (⟨T.aS, i⟩ : Loc) ∉ locs := fun i hmem => by
    have := hlocs _ hmem cellS0 hcS0
    rw [hiss] at this; cases this
  have hknownS : cellS.vm ≠ .unknown := by
    rw [heS]; intro hu
    rw [show cellS0.vm = .unknown from hu] at hiss
    cases hiss
  have hneS : T.aS ≠ a := Nat.ne_of_lt (Nat.lt_of_lt_of_le (Array.getElem?_eq_some_iff.mp hcS0).1 hnew)
  obtain ⟨iM, hffM⟩ := Y.msg
  obtain ⟨tyC, dC, hdC, hdnC⟩ := Cond.laysAt hfound hk Y.cause (a' (.lays cls Bundle.tN "cause" "Ljava/lang/Throwable;") (by simp [Bundle.ownAtoms0]))
  obtain ⟨tyS, dS, hdS, hdnS⟩ := Cond.laysAt hfound hk Y.stack (a' (.lays cls Bundle.tN "stackTrace" Bundle.steD) (by simp [Bundle.ownAtoms0]))
  obtain ⟨tyP, dP, hdP, hdnP⟩ := Cond.laysAt hfound hk Y.supp (a' (.lays cls Bundle.tN "suppressedExceptions" Bundle.listD) (by simp [Bundle.ownAtoms0]))
  obtain ⟨tyM, dM, hdM, hdnM⟩ := Cond.laysAt hfound hk hffM (a' (.lays cls Bundle.tN "detailMessage" "Ljava/lang/String;") (by simp [Bundle.ownAtoms0]))
  obtain ⟨tyB, dB, hdB, hdnB⟩ := Cond.laysAt hfound hk hffB (a' (.lays cls Bundle.tN "backtrace" "Ljava/lang/Object;") (by simp [Bundle.ownAtoms0]))
  have bC := Cond.laysApart hdB hdC hdnB hdnC (by rw [hnB, Y.causeName]; decide)
  have bS := Cond.laysApart hdB hdS hdnB hdnS (by rw [hnB, Y.stackName]; decide)
  have bP := Cond.laysApart hdB hdP hdnB hdnP (by rw [hnB, Y.suppName]; decide)
  have hskip : SkipFacts T e.platform s (fun u => u) u0 ((preparedCellV T.toThrowableT (freshCell P1.m.cls kX) a u0 sen).withEntry W.cur) :=
    ⟨{ ci198 := ci198, i198 := i198, fBack := fB }, ⟨hk198, hg198, ha198, hsB⟩, by
      have := fresh_default (c := P1.m.cls) tyB
      rw [htB] at this
      simpa [preparedCellV, Cell.setSlot, Cell.withEntry, Array.getElem?_setIfInBounds, bC, bS, bP, bC.symm, bS.symm, bP.symm, defaultValue] using this, fun _ _ => rfl⟩
  obtain ⟨tm, methC, cdC, kC, vm₁, hnC, -, -, -, -, -, -, -, hW₁, st1⟩ := Steps.initCold (tb := p.tables) (e := e) (below := below) (s := s) (U := W) X.here hexec X.warmed hpl hown (t := Bundle.init0 cls) rfl rfl (Bundle.fit_spec hcls).2
    (a' (.methodLink own ic (Bundle.init0 cls)) (by simp [Bundle.ownAtoms0])) (h (.instanceMethod (Bundle.init0 cls)) (by cases names <;> simp [Bundle.ownAtoms0, Bundle.chain0Atoms, Bundle.passAtoms])) (bytes := Bundle.five) (maxL := 1) (h (.code (Bundle.init0 cls) Bundle.five 1 none) (by cases names <;> simp [Bundle.ownAtoms0, Bundle.chain0Atoms, Bundle.passAtoms]))
    (f := g) hg (a := a) (rest := .ref a :: rest) hstack hd6
  cases Option.some.inj (hnC.symm.trans hP1m)
  have X₁ := X.noted hW₁
  obtain ⟨vm₂, X₂, st2⟩ := X₁.ctorPlainOffV hexec (g := { g with stack := .ref a :: rest }) hg hsize T L Z LZ (P1 :: Ps)
    (fun P hP => by rcases List.mem_cons.mp hP with rfl | hP; exact L1; exact hL P hP) ⟨hlink1, hlink⟩ (u0 := u0) (sen := sen) (self := a) (cell := freshCell P1.m.cls kX) (cellS := cellS)
    hcell (fun _ => by simp) (by simp) rfl rfl hsel0 hselF hcellS hneS hknownS (by rw [hkeep _ (hout' _)]; exact hu0) (by rw [hkeep _ (hout' _)]; exact hsen)
    (Takes.of_laid hk hord tyC (by rw [Y.causeType]; rfl)) (Takes.of_laid hk hord tyS (by rw [Y.stackType]; exact fits_refV_array _ u0)) (Takes.of_laid hk hord tyP (by rw [Y.suppType]; exact fits_refV_object _ sen)) Y.objLocals hskip htr [] hd6
    (by simp only [List.length_cons, hlen]; omega) (by simp only [List.length_cons, hlen]; exact hRlocals)
  have hlt : a < ((W.setVm vm₁).setVm vm₂).heap.size := (Array.getElem?_eq_some_iff.mp hcell).1
  refine ⟨(W.setVm vm₁).setVm vm₂, _, _, X₂, fun y hy => ?_, hlt, rfl, rfl, fun target hwalk => st1 _ (fun acts => ?_)⟩
  · simp only [List.mem_cons, List.not_mem_nil, or_false] at hy
    rcases hy with rfl | rfl | rfl | rfl <;> rfl
  · rw [doInvoke_state]
    exact st2 _ hwalk
end VXK
section VXK2
variable {p : Program} {l : Launch} {e : Env} {R : Room} {s : State} {m : MethodId} {args : Array Value} {below : List Frame} {meth : Method} {c : Code} {H : Heap} {locs : List Loc} {cells slots : Nat} {Q : State → Prop}
variable {ls : Array Slot} {rest : List Value} {D : va_G} {cl : List vw_C} {tys : List (ClassId × FieldType)} {ws : va_W}
/-- 'new E("text")' that isn't thrown at once: the object goes on the stack -/
theorem vx_makeS {cc : ByteArray} {pc : Nat} (hexec : p.tables.exec = Jvm.exec) (hb : c.code = cc) (hl : l.stackTraces = false) {own cls text : String} {names : List String} {ik is ic sa ci : Nat} {A : Nat → Prop} {T0 : u_T}
    (hown : s.vm.findClass own = some m.cls) (hcls : Bundle.fit cls = true) (hnames : ∀ n ∈ names, Bundle.fit n = true)
    (hk : (Cond.classLink own ik cls).before args s = true) (hini : (Cond.initialized cls).before args s = true) (hstr : vk_R own is text sa s) (hat : ∀ w ∈ vx_atS own ic cls names, w.before args s = true)
    (hgood : ∀ w ∈ Cond.classLink own ik cls :: Cond.initialized cls :: vx_atS own ic cls names, vx_ot w = true)
    (hU : vx_Zq Bundle.tN "UNASSIGNED_STACK" Bundle.steD A s s.heap) (hN : vx_Zq Bundle.tN "SUPPRESSED_SENTINEL" Bundle.listD A s s.heap) (hS : va_S A s.heap H locs) (hsize : ls.size = c.maxLocals)
    (d0 : decode cc pc = .ok (.new ik, 3)) (d3 : decode cc (pc + 3) = .ok (.dup, 1)) (d4 : decode cc (pc + 4) = .ok (.ldc is, 2)) (d6 : decode cc (pc + 6) = .ok (.invokespecial ic, 3))
    (hK : va_K D cl tys s) (hP : va_P D cl ws H) (hD : va_D A ws) (hA : ∀ q, s.heap.size ≤ q → A q) (hc : cl[ci]? = some (cls, T0, 0))
    (hRframes : names.length + 3 < R.frames) (hRlocals : (rest.map fun v => v.category).sum + (13 * (names.length + 1) + 43) ≤ R.locals) (hRcells : cells + 1 ≤ R.cells) (hRslots : slots + 6 ≤ R.slots)
    (kk : ∀ (q : Nat) (H1 : Heap), va_P D cl (ws ++ [(q, .inr (ci, []))]) H1 → va_D A (ws ++ [(q, .inr (ci, []))]) → va_S A s.heap H1 locs → W p l e R s m args below meth c H1 locs (cells + 1) (slots + 6) Q (F0 m (pc + 9) ls (.ref q :: rest))) :
    W p l e R s m args below meth c H locs cells slots Q (F0 m pc ls rest) := by
  intro T hT X
  subst hT
  have htr : e.platform.stackTraces = false := (show e.platform.stackTraces = l.stackTraces by rw [X.admits.platform]).trans hl
  have Y := vx_rebase X (R' := { frames := R.frames, locals := R.locals, cells := 1, slots := 6 }) (Nat.le_refl _) (Nat.le_refl _) hRcells hRslots
  obtain ⟨s', hA'⟩ : ∃ z, z = (T.setVm s.vm).setFrames (.invoking m args :: below) := ⟨_, rfl⟩
  rw [← hA'] at Y
  have hvm : s'.vm = s.vm := by rw [hA']; rfl
  have hhp : s'.heap = T.heap := by rw [hA']; rfl
  have hW0 : s.WarmedH s'.vm := by rw [hvm]; exact State.WarmedH.refl s
  have hat' : ∀ w ∈ vx_atS own ic cls names, w.before args s' = true := fun w hw => vx_ot_at hW0 hvm.symm (hgood w (List.mem_cons_of_mem _ (List.mem_cons_of_mem _ hw))) (hat w hw)
  have hk' : (Cond.classLink own ik cls).before args s' = true := vx_ot_at hW0 hvm.symm (hgood _ List.mem_cons_self) hk
  have hini' : (Cond.initialized cls).before args s' = true := vx_ot_at hW0 hvm.symm (hgood _ (List.mem_cons_of_mem _ List.mem_cons_self)) hini
  have hU' : vx_Zq Bundle.tN "UNASSIGNED_STACK" Bundle.steD A s' s'.heap := by rw [hhp]; exact vx_Zq.moved hW0.alike (hU.kept hS.2.1)
  have hN' : vx_Zq Bundle.tN "SUPPRESSED_SENTINEL" Bundle.listD A s' s'.heap := by rw [hhp]; exact vx_Zq.moved hW0.alike (hN.kept hS.2.1)
  have h : ∀ w ∈ Bundle.ownAtoms own ic cls names, w.before args s' = true := vx_own hat' (vx_isRefq hU'.1) (vx_isRefq hN'.1) hU'.2.word hN'.2.word
  have hown' : s'.vm.findClass own = some m.cls := by rw [hvm]; exact hown
  have hins : (Cond.instantiable cls 6).before args s' = true := h _ (by simp [Bundle.ownAtoms])
  obtain ⟨vm₁, cX, kX, hfX, hkX, -, -, X₁, st1⟩ := Y.newCold hexec (own := own) (C := cls) (index := ik) (n := 6) hown' hk' hins hini'
    (g := F0 m pc ls rest) rfl (by rw [hb]; exact d0) (Nat.le_refl _) (Nat.le_refl _)
  generalize hT1 : (T.setVm vm₁).pushCell { cls := cX, slots := kX.instanceTypes.map defaultValue, vm := .none } = T1 at X₁ st1
  have hcat : (Value.ref T.heap.size).category = 1 := rfl
  have hcellA : T1.heap[T.heap.size]? = some (freshCell cX kX) := by rw [← hT1]; exact State.heap_pushCell_size _ _
  have d3' : decode c.code (pc + 3) = .ok (.dup, 1) := by rw [hb]; exact d3
  have d4' : decode c.code (pc + 4) = .ok (.ldc is, 2) := by rw [hb]; exact d4
  have hstr' : vk_R own is text sa s' := vk_R.warm hW0 hstr
  obtain ⟨V, ce, L, Z, hL, hlt, hcl9, hvm9, st⟩ := vx_ctorMadeS X₁ hexec htr (own := own) (cls := cls) (names := names) (ic := ic) hown' hcls hnames h (fun x hx => nomatch hx) hfX hkX hcellA (by rw [hhp]; exact Nat.le_refl _) (msg := .ref sa) rfl
    (g := { method := m, pc := pc + 6, locals := ls, stack := .ref sa :: .ref T.heap.size :: .ref T.heap.size :: rest, locked := none }) rfl hsize (rest := rest) rfl
    (by rw [hb]; exact d6) hRframes (by simp only [List.map_cons, List.sum_cons, hcat]; omega)
  have Z0 := Stand.forget (locs := []) Z (fun y hy => by rw [hL y hy, hhp]; exact Nat.le_refl _)
  obtain ⟨f1, f2⟩ := vx_frame Z0.same
  rw [hhp] at f1 f2
  have hcid : ce.cls = D.1 ci := by
    rw [hcl9]
    have h1 := (hK.1 ci _ hc).2.1
    rw [hvm] at hfX
    exact Option.some.inj (hfX.symm.trans h1)
  have hh : (V.setCell T.heap.size ce).heap[T.heap.size]? = some ce := heapAt_setCell_self (s := V) ce hlt
  subst hA'
  have X5 := vx_back9 X Y Z0
  have X6 : Stand p l e R s m args below meth c (V.setCell T.heap.size ce) locs (cells + 1) (slots + 6) := { X5 with same := X5.same.mono (by omega) (by omega) }
  have hk9 : ∀ (k : Nat) (x : Nat × va_E), ws[k]? = some x → (V.setCell T.heap.size ce).heap[x.1]? = T.heap[x.1]? := fun k x hx => f2 x.1 ((hP k x hx).lt) (fun z hz => nomatch hz)
  obtain ⟨t, a1, b1⟩ := kk T.heap.size (V.setCell T.heap.size ce).heap ((hP.kept hk9).app (fun k x hx => by
      have hz : k < 1 := (List.getElem?_eq_some_iff.mp hx).1
      rw [show k = 0 by omega] at hx
      cases hx
      exact ⟨_, hc, ce, hh, hcid, hvm9, fun k hk => absurd hk (Nat.not_lt_zero k)⟩)) (hD.push hP rfl (hA _ hS.1)) ⟨Nat.le_trans hS.1 f1, fun q h1 h2 => (f2 q (Nat.lt_of_lt_of_le h1 hS.1) (fun z hz => nomatch hz)).trans (hS.2.1 q h1 h2), hS.2.2⟩ _ rfl X6
  refine ⟨t, st1 _ ?_, b1⟩
  show Steps p.tables e below (T1.setTop { method := m, pc := pc + 3, locals := ls, stack := .ref T.heap.size :: rest, locked := none }) _
  jvm_step X₁.here [X₁.here.top, hexec, d3', Value.category]
  exact X₁.ldcString hexec (own := own) (text := text) (index := is) (a := sa) hown' hstr'.1 hstr'.2
    (g := { method := m, pc := pc + 4, locals := ls, stack := .ref T.heap.size :: .ref T.heap.size :: rest, locked := none }) rfl d4' _ (st _ a1)
/-- 'new E()' that isn't thrown at once: the object goes on the stack -/
theorem vx_make0 {cc : ByteArray} {pc : Nat} (hexec : p.tables.exec = Jvm.exec) (hb : c.code = cc) (hl : l.stackTraces = false) {own cls : String} {names : List String} {ik ic ci : Nat} {A : Nat → Prop} {T0 : u_T}
    (hown : s.vm.findClass own = some m.cls) (hcls : Bundle.fit cls = true) (hnames : ∀ n ∈ names, Bundle.fit n = true)
    (hk : (Cond.classLink own ik cls).before args s = true) (hini : (Cond.initialized cls).before args s = true) (hat : ∀ w ∈ vx_at0 own ic cls names, w.before args s = true)
    (hgood : ∀ w ∈ Cond.classLink own ik cls :: Cond.initialized cls :: vx_at0 own ic cls names, vx_ot w = true)
    (hU : vx_Zq Bundle.tN "UNASSIGNED_STACK" Bundle.steD A s s.heap) (hN : vx_Zq Bundle.tN "SUPPRESSED_SENTINEL" Bundle.listD A s s.heap) (hS : va_S A s.heap H locs) (hsize : ls.size = c.maxLocals)
    (d0 : decode cc pc = .ok (.new ik, 3)) (d3 : decode cc (pc + 3) = .ok (.dup, 1)) (d4 : decode cc (pc + 4) = .ok (.invokespecial ic, 3))
    (hK : va_K D cl tys s) (hP : va_P D cl ws H) (hD : va_D A ws) (hA : ∀ q, s.heap.size ≤ q → A q) (hc : cl[ci]? = some (cls, T0, 0))
    (hRframes : names.length + 3 < R.frames) (hRlocals : (rest.map fun v => v.category).sum + (13 * (names.length + 1) + 42) ≤ R.locals) (hRcells : cells + 1 ≤ R.cells) (hRslots : slots + 6 ≤ R.slots)
    (kk : ∀ (q : Nat) (H1 : Heap), va_P D cl (ws ++ [(q, .inr (ci, []))]) H1 → va_D A (ws ++ [(q, .inr (ci, []))]) → va_S A s.heap H1 locs → W p l e R s m args below meth c H1 locs (cells + 1) (slots + 6) Q (F0 m (pc + 7) ls (.ref q :: rest))) :
    W p l e R s m args below meth c H locs cells slots Q (F0 m pc ls rest) := by
  intro T hT X
  subst hT
  have htr : e.platform.stackTraces = false := (show e.platform.stackTraces = l.stackTraces by rw [X.admits.platform]).trans hl
  have Y := vx_rebase X (R' := { frames := R.frames, locals := R.locals, cells := 1, slots := 6 }) (Nat.le_refl _) (Nat.le_refl _) hRcells hRslots
  obtain ⟨s', hA'⟩ : ∃ z, z = (T.setVm s.vm).setFrames (.invoking m args :: below) := ⟨_, rfl⟩
  rw [← hA'] at Y
  have hvm : s'.vm = s.vm := by rw [hA']; rfl
  have hhp : s'.heap = T.heap := by rw [hA']; rfl
  have hW0 : s.WarmedH s'.vm := by rw [hvm]; exact State.WarmedH.refl s
  have hat' : ∀ w ∈ vx_at0 own ic cls names, w.before args s' = true := fun w hw => vx_ot_at hW0 hvm.symm (hgood w (List.mem_cons_of_mem _ (List.mem_cons_of_mem _ hw))) (hat w hw)
  have hk' : (Cond.classLink own ik cls).before args s' = true := vx_ot_at hW0 hvm.symm (hgood _ List.mem_cons_self) hk
  have hini' : (Cond.initialized cls).before args s' = true := vx_ot_at hW0 hvm.symm (hgood _ (List.mem_cons_of_mem _ List.mem_cons_self)) hini
  have hU' : vx_Zq Bundle.tN "UNASSIGNED_STACK" Bundle.steD A s' s'.heap := by rw [hhp]; exact vx_Zq.moved hW0.alike (hU.kept hS.2.1)
  have hN' : vx_Zq Bundle.tN "SUPPRESSED_SENTINEL" Bundle.listD A s' s'.heap := by rw [hhp]; exact vx_Zq.moved hW0.alike (hN.kept hS.2.1)
  have h : ∀ w ∈ Bundle.ownAtoms0 own ic cls names, w.before args s' = true := vx_own hat' (vx_isRefq hU'.1) (vx_isRefq hN'.1) hU'.2.word hN'.2.word
  have hown' : s'.vm.findClass own = some m.cls := by rw [hvm]; exact hown
  have hins : (Cond.instantiable cls 6).before args s' = true := h _ (by simp [Bundle.ownAtoms0])
  obtain ⟨vm₁, cX, kX, hfX, hkX, -, -, X₁, st1⟩ := Y.newCold hexec (own := own) (C := cls) (index := ik) (n := 6) hown' hk' hins hini'
    (g := F0 m pc ls rest) rfl (by rw [hb]; exact d0) (Nat.le_refl _) (Nat.le_refl _)
  generalize hT1 : (T.setVm vm₁).pushCell { cls := cX, slots := kX.instanceTypes.map defaultValue, vm := .none } = T1 at X₁ st1
  have hcat : (Value.ref T.heap.size).category = 1 := rfl
  have hcellA : T1.heap[T.heap.size]? = some (freshCell cX kX) := by rw [← hT1]; exact State.heap_pushCell_size _ _
  have d3' : decode c.code (pc + 3) = .ok (.dup, 1) := by rw [hb]; exact d3
  obtain ⟨V, ce, L, Z, hL, hlt, hcl9, hvm9, st⟩ := vx_ctorMade0 X₁ hexec htr (own := own) (cls := cls) (names := names) (ic := ic) hown' hcls hnames h (fun x hx => nomatch hx) hfX hkX hcellA (by rw [hhp]; exact Nat.le_refl _)
    (g := { method := m, pc := pc + 4, locals := ls, stack := .ref T.heap.size :: .ref T.heap.size :: rest, locked := none }) rfl hsize (rest := rest) rfl
    (by rw [hb]; exact d4) hRframes (by simp only [List.map_cons, List.sum_cons, hcat]; omega)
  have Z0 := Stand.forget (locs := []) Z (fun y hy => by rw [hL y hy, hhp]; exact Nat.le_refl _)
  obtain ⟨f1, f2⟩ := vx_frame Z0.same
  rw [hhp] at f1 f2
  have hcid : ce.cls = D.1 ci := by
    rw [hcl9]
    have h1 := (hK.1 ci _ hc).2.1
    rw [hvm] at hfX
    exact Option.some.inj (hfX.symm.trans h1)
  have hh : (V.setCell T.heap.size ce).heap[T.heap.size]? = some ce := heapAt_setCell_self (s := V) ce hlt
  subst hA'
  have X5 := vx_back9 X Y Z0
  have X6 : Stand p l e R s m args below meth c (V.setCell T.heap.size ce) locs (cells + 1) (slots + 6) := { X5 with same := X5.same.mono (by omega) (by omega) }
  have hk9 : ∀ (k : Nat) (x : Nat × va_E), ws[k]? = some x → (V.setCell T.heap.size ce).heap[x.1]? = T.heap[x.1]? := fun k x hx => f2 x.1 ((hP k x hx).lt) (fun z hz => nomatch hz)
  obtain ⟨t, a1, b1⟩ := kk T.heap.size (V.setCell T.heap.size ce).heap ((hP.kept hk9).app (fun k x hx => by
      have hz : k < 1 := (List.getElem?_eq_some_iff.mp hx).1
      rw [show k = 0 by omega] at hx
      cases hx
      exact ⟨_, hc, ce, hh, hcid, hvm9, fun k hk => absurd hk (Nat.not_lt_zero k)⟩)) (hD.push hP rfl (hA _ hS.1)) ⟨Nat.le_trans hS.1 f1, fun q h1 h2 => (f2 q (Nat.lt_of_lt_of_le h1 hS.1) (fun z hz => nomatch hz)).trans (hS.2.1 q h1 h2), hS.2.2⟩ _ rfl X6
  refine ⟨t, st1 _ ?_, b1⟩
  show Steps p.tables e below (T1.setTop { method := m, pc := pc + 3, locals := ls, stack := .ref T.heap.size :: rest, locked := none }) _
  jvm_step X₁.here [X₁.here.top, hexec, d3', Value.category]
  exact st _ a1
/-- 'throw x' of an object that was made before -/
theorem vx_athrow {cc : ByteArray} {pc : Nat} (hexec : p.tables.exec = Jvm.exec) (hb : c.code = cc) {q : Addr} (hdg : decode cc pc = .ok (.athrow, 1)) (k : vx_W p l e R s m args below meth c H locs cells slots Q (F0 m pc ls rest) q) : W p l e R s m args below meth c H locs cells slots Q (F0 m pc ls (.ref q :: rest)) := by
  intro T hT X
  obtain ⟨t, st, hq⟩ := k T hT X
  refine ⟨t, ?_, hq⟩
  have hdg' : decode c.code pc = .ok (.athrow, 1) := by rw [hb]; exact hdg
  jvm_step X.here [X.here.top, hexec, hdg', athrow.wp_sem]
  exact st
end VXK2
/-! ===== END ===== -/
/-! ===== BEGIN a constructor that throws (launches without stack traces) ===== -/
section VXIA
variable {p : Program} {l : Launch} {e : Env} {R : Room} {s : State} {m : MethodId} {args : Array Value} {below : List Frame} {meth : Method} {c : Code} {T : State} {locs : List Loc} {cells slots : Nat}
theorem vx_callI (X : Stand p l e R s m args below meth c T locs cells slots) (hexec : p.tables.exec = Jvm.exec) {own : String} {index : Nat} {y : MethodName} {bytes : ByteArray} {maxL : Nat}
    (hown : s.vm.findClass own = some m.cls) (hy1 : y.name = "<init>") (hlink : (Cond.methodLink own index y).before args s = true) (hinst : (Cond.instanceMethod y).before args s = true)
    (hcode : (Cond.code y bytes maxL none).before args s = true) (hy : y.cls ≠ "java/lang/invoke/MethodHandle" ∧ y.cls ≠ "java/lang/invoke/VarHandle")
    {W9 : Nat} {Pre : Pt → Array Value → Prop} {Post : Pt → Array Value → Option Value → Pt → Prop} {PostX : Pt → Array Value → Addr → Pt → Prop} (hK : vx_Back l R p e below s args y 3 W9 Pre Post PostX)
    {g : JFrame} (hg : g.method = m) (hsize : g.locals.size = c.maxLocals) {a : Addr} {argsL rest : List Value} (hlen : ∀ sig, parseMethodDescriptor y.desc = some sig → argsL.length = sig.parameters.length)
    (hstack : g.stack = argsL.reverse ++ .ref a :: rest) (hW : 2 * g.monitorRoom + (rest.map fun v => v.category).sum ≤ W9) (hdg : decode c.code g.pc = .ok (.invokespecial index, 3))
    (hpre : ∀ vm₁, s.WarmedH vm₁ → Pre ⟨T.setVm vm₁, locs, cells, slots⟩ (Value.ref a :: argsL).toArray) :
    (∃ (v : Option Value) (vm₁ : Vm) (B : Pt), s.WarmedH vm₁ ∧ Stand p l e R s m args below meth c B.U B.locs B.cells B.slots ∧ Post ⟨T.setVm vm₁, locs, cells, slots⟩ (Value.ref a :: argsL).toArray v B ∧
      ∀ target, Steps p.tables e below (B.U.setTop { g with pc := g.pc + 3, stack := v.toList ++ rest }) target → Steps p.tables e below (T.setTop g) target) ∨
    (∃ (q : Addr) (vm₁ : Vm) (B : Pt), s.WarmedH vm₁ ∧ Stand p l e R s m args below meth c B.U B.locs B.cells B.slots ∧ PostX ⟨T.setVm vm₁, locs, cells, slots⟩ (Value.ref a :: argsL).toArray q B ∧
      Steps p.tables e below (T.setTop g) ((B.U.setTop { g with stack := rest }).pushFrame (.throwing q))) := by
  subst hg
  have hpl : e.platform.magicAccessors = ({} : Platform).magicAccessors := by rw [X.admits.platform]
  obtain ⟨mk, methM, cM, kP, vm₁, hnamed, hmethM, hcodeM, -, hlocalsM, -, hkP, -, hW₁, hstep₁⟩ := Steps.initColdArgs (e := e) X.here hexec X.warmed hpl hown hy1 hy hlink hinst hcode (f := g) rfl hlen hstack hdg
  have X₁ := X.noted hW₁
  rcases hK g.method meth c ⟨T.setVm vm₁, locs, cells, slots⟩ { g with stack := rest } (.invokespecial index) mk (Value.ref a :: argsL).toArray X₁ rfl hsize hdg hW (X₁.named hnamed) (hpre vm₁ X₁.warmed) with ⟨v, B, X', hpost, hsteps⟩ | ⟨q, B, X', hpost, hsteps⟩
  · exact Or.inl ⟨v, vm₁, B, X₁.warmed, X', hpost, fun target h => hstep₁ _ fun acts => by rw [doInvoke_state]; exact hsteps.trans h⟩
  · exact Or.inr ⟨q, vm₁, B, X₁.warmed, X', hpost, hstep₁ _ fun acts => by rw [doInvoke_state]; exact hsteps⟩
end VXIA
section VXIB
variable {p : Program} {l : Launch} {e : Env} {R : Room} {s : State} {m : MethodId} {args : Array Value} {below : List Frame} {meth : Method} {c : Code} {H : Heap} {locs : List Loc} {cells slots : Nat}
variable {y : MethodName} {bytes cc : ByteArray} {maxL nL mc ms n index : Nat} {ret : Option FieldType} {ws : List Cond} {rm : Room} {Pc : Array Value → State → Prop} {Qc : Array Value → State → Outcome → State → Prop} {XC : String → State → State → Prop} {free : Addr → Prop} {Ts : List Cond} {own C : String} {b : Addr} {As rest : List Value} {g : JFrame}
theorem vx_runI (S : CallFix p m c cc nL s args Ts own) (hM : vx_Met l y ws rm Pc Qc XC mc ms free) (cw : CallB R s args own index y bytes maxL none ws rm mc ms n ∧ y.name = "<init>" ∧ (Cond.instanceMethod y).before args s = true) (hp : PreS s H Pc (.ref b :: As))
    (hg : g.method = m) (hn : As.length = n) (hsize : g.locals.size = nL) (hstack : g.stack = As.reverse ++ .ref b :: rest) (hW : 2 * g.monitorRoom + (rest.map fun v => v.category).sum ≤ 8) (hdg : decode cc g.pc = .ok (.invokespecial index, 3)) (hf : cells + mc ≤ R.cells ∧ slots + ms ≤ R.slots) :
    vx_Run p l e R s m args below meth c H locs cells slots mc ms g rest (Qc (Value.ref b :: As).toArray) XC free := by
  have hK : vx_Back l R p e below s args y 3 8 (PreOf R mc ms Pc) (PostOf Qc mc ms free) (vx_Post XC mc ms free) := vx_callBack cw.1 hM hp.1
  obtain ⟨⟨-, -, -, -, -, -, hcode, -, hy, hlen, hl⟩, hy1, hin⟩ := cw
  obtain ⟨hx, hb, hml, ho, -⟩ := S
  have hPc := hp.2
  intro T hT X
  rcases vx_callI X hx (bytes := bytes) (maxL := maxL) ho hy1 hl hin hcode hy hK hg (hsize.trans hml.symm) (a := b) (argsL := As) (rest := rest) (fun sig h => hn.trans (hlen sig h)) hstack hW (by rw [hb]; exact hdg)
    (fun vm₁ hW₁ => ⟨hf.1, hf.2, hPc (T.setVm vm₁) hT hW₁⟩) with ⟨v, vm₁, ⟨U', l2, c2, s2⟩, hW₁, X', ⟨g', mk, t, L, e1, e2, hq, h1, hL, h2, h3⟩, st⟩ | ⟨q, vm₁, ⟨U', l2, c2, s2⟩, hW₁, X', ⟨g', mk, t, L, E, ce, e1, e2, hq, hce, hcv, hcl, h1, hL, h2, h3⟩, st⟩
  · dsimp only [Pt.U, Pt.locs, Pt.cells, Pt.slots] at X' e1 e2 h1 h2 h3 st
    subst h1; subst h2; subst h3
    exact Or.inl ⟨v, (T.setVm vm₁).calling g' mk (Value.ref b :: As).toArray, t, U', L, hT, X', hL, e1, e2, hq, st⟩
  · dsimp only [Pt.U, Pt.locs, Pt.cells, Pt.slots] at X' e1 e2 h1 h2 h3 st hcl
    subst h1; subst h2; subst h3
    exact Or.inr ⟨q, (T.setVm vm₁).calling g' mk (Value.ref b :: As).toArray, t, U', L, E, ce, hT, X', hL, e1, e2, hq, hce, hcv, vx_cls hW₁ hcl, st⟩
end VXIB
/-! ===== END ===== -/
/-! ===== BEGIN a private constructor of a nest mate that throws ===== -/
section VXIC
variable {p : Program} {l : Launch} {e : Env} {R : Room} {s : State} {m : MethodId} {args : Array Value} {below : List Frame} {meth : Method} {c : Code} {T : State} {locs : List Loc} {cells slots : Nat}
theorem vx_callIN (X : Stand p l e R s m args below meth c T locs cells slots) (hexec : p.tables.exec = Jvm.exec) {own : String} {index : Nat} {host : String} {y : MethodName} {bytes : ByteArray} {maxL : Nat}
    (hown : s.vm.findClass own = some m.cls) (hy1 : y.name = "<init>") (hlink : (Cond.methodLinkNest own index y host).before args s = true) (hinst : (Cond.instanceMethod y).before args s = true)
    (hcode : (Cond.code y bytes maxL none).before args s = true) (hy : y.cls ≠ "java/lang/invoke/MethodHandle" ∧ y.cls ≠ "java/lang/invoke/VarHandle")
    {W9 : Nat} {Pre : Pt → Array Value → Prop} {Post : Pt → Array Value → Option Value → Pt → Prop} {PostX : Pt → Array Value → Addr → Pt → Prop} (hK : vx_Back l R p e below s args y 3 W9 Pre Post PostX)
    {g : JFrame} (hg : g.method = m) (hsize : g.locals.size = c.maxLocals) {a : Addr} {argsL rest : List Value} (hlen : ∀ sig, parseMethodDescriptor y.desc = some sig → argsL.length = sig.parameters.length)
    (hstack : g.stack = argsL.reverse ++ .ref a :: rest) (hW : 2 * g.monitorRoom + (rest.map fun v => v.category).sum ≤ W9) (hdg : decode c.code g.pc = .ok (.invokespecial index, 3))
    (hpre : ∀ vm₁, s.WarmedH vm₁ → Pre ⟨T.setVm vm₁, locs, cells, slots⟩ (Value.ref a :: argsL).toArray) :
    (∃ (v : Option Value) (vm₁ : Vm) (B : Pt), s.WarmedH vm₁ ∧ Stand p l e R s m args below meth c B.U B.locs B.cells B.slots ∧ Post ⟨T.setVm vm₁, locs, cells, slots⟩ (Value.ref a :: argsL).toArray v B ∧
      ∀ target, Steps p.tables e below (B.U.setTop { g with pc := g.pc + 3, stack := v.toList ++ rest }) target → Steps p.tables e below (T.setTop g) target) ∨
    (∃ (q : Addr) (vm₁ : Vm) (B : Pt), s.WarmedH vm₁ ∧ Stand p l e R s m args below meth c B.U B.locs B.cells B.slots ∧ PostX ⟨T.setVm vm₁, locs, cells, slots⟩ (Value.ref a :: argsL).toArray q B ∧
      Steps p.tables e below (T.setTop g) ((B.U.setTop { g with stack := rest }).pushFrame (.throwing q))) := by
  subst hg
  have hpl : e.platform.magicAccessors = ({} : Platform).magicAccessors := by rw [X.admits.platform]
  obtain ⟨mk, methM, cM, kP, vm₁, hnamed, hmethM, hcodeM, -, hlocalsM, -, hkP, -, hW₁, hstep₁⟩ := Steps.initColdArgsNest (e := e) X.here hexec X.warmed hpl hown hy1 hy hlink hinst hcode (f := g) rfl hlen hstack hdg
  have X₁ := X.noted hW₁
  rcases hK g.method meth c ⟨T.setVm vm₁, locs, cells, slots⟩ { g with stack := rest } (.invokespecial index) mk (Value.ref a :: argsL).toArray X₁ rfl hsize hdg hW (X₁.named hnamed) (hpre vm₁ X₁.warmed) with ⟨v, B, X', hpost, hsteps⟩ | ⟨q, B, X', hpost, hsteps⟩
  · exact Or.inl ⟨v, vm₁, B, X₁.warmed, X', hpost, fun target h => hstep₁ _ fun acts => by rw [doInvoke_state]; exact hsteps.trans h⟩
  · exact Or.inr ⟨q, vm₁, B, X₁.warmed, X', hpost, hstep₁ _ fun acts => by rw [doInvoke_state]; exact hsteps⟩
end VXIC
section VXID
variable {p : Program} {l : Launch} {e : Env} {R : Room} {s : State} {m : MethodId} {args : Array Value} {below : List Frame} {meth : Method} {c : Code} {H : Heap} {locs : List Loc} {cells slots : Nat}
theorem vx_runIN {y : MethodName} {bytes cc : ByteArray} {maxL nL mc ms n index : Nat} {ws : List Cond} {rm : Room} {Pc : Array Value → State → Prop} {Qc : Array Value → State → Outcome → State → Prop} {XC : String → State → State → Prop} {free : Addr → Prop} {Ts : List Cond} {own host : String} {b : Addr} {As rest : List Value} {g : JFrame}
    (S : CallFix p m c cc nL s args Ts own) (hM : vx_Met l y ws rm Pc Qc XC mc ms free) (cw : va_CN R s args own index y host bytes maxL none ws rm mc ms n ∧ y.name = "<init>" ∧ (Cond.instanceMethod y).before args s = true) (hp : PreS s H Pc (.ref b :: As))
    (hg : g.method = m) (hn : As.length = n) (hsize : g.locals.size = nL) (hstack : g.stack = As.reverse ++ .ref b :: rest) (hW : 2 * g.monitorRoom + (rest.map fun v => v.category).sum ≤ 8) (hdg : decode cc g.pc = .ok (.invokespecial index, 3)) (hf : cells + mc ≤ R.cells ∧ slots + ms ≤ R.slots) :
    vx_Run p l e R s m args below meth c H locs cells slots mc ms g rest (Qc (Value.ref b :: As).toArray) XC free := by
  obtain ⟨⟨⟨hrc, hrs, hfr, hlo, hws, hcw⟩, hcode, hini, hy, hlen, hl⟩, hx1, hx2⟩ := cw
  have hK : vx_Back l R p e below s args y 3 8 (PreOf R mc ms Pc) (PostOf Qc mc ms free) (vx_Post XC mc ms free) := vx_back (bytes := bytes) (maxL := maxL) (ret := none) hM hp.1 hrc hrs hfr hlo hws hcw (fun a' U hW => word_at hW (Or.inl (by first | rfl | simp [Cond.onTables, Cond.keeps, Cond.steady])) hini)
  obtain ⟨hx, hb, hml, ho, -⟩ := S
  have hPc := hp.2
  intro T hT X
  rcases vx_callIN X hx (bytes := bytes) (maxL := maxL) ho hx1 hl hx2 hcode hy hK hg (hsize.trans hml.symm) (a := b) (argsL := As) (rest := rest) (fun sig h => hn.trans (hlen sig h)) hstack hW (by rw [hb]; exact hdg)
    (fun vm₁ hW₁ => ⟨hf.1, hf.2, hPc (T.setVm vm₁) hT hW₁⟩) with ⟨v, vm₁, ⟨U', l2, c2, s2⟩, hW₁, X', ⟨g', mk, t, L, e1, e2, hq, h1, hL, h2, h3⟩, st⟩ | ⟨q, vm₁, ⟨U', l2, c2, s2⟩, hW₁, X', ⟨g', mk, t, L, E, ce, e1, e2, hq, hce, hcv, hcl, h1, hL, h2, h3⟩, st⟩
  · dsimp only [Pt.U, Pt.locs, Pt.cells, Pt.slots] at X' e1 e2 h1 h2 h3 st
    subst h1; subst h2; subst h3
    exact Or.inl ⟨v, (T.setVm vm₁).calling g' mk (Value.ref b :: As).toArray, t, U', L, hT, X', hL, e1, e2, hq, st⟩
  · dsimp only [Pt.U, Pt.locs, Pt.cells, Pt.slots] at X' e1 e2 h1 h2 h3 st hcl
    subst h1; subst h2; subst h3
    exact Or.inr ⟨q, (T.setVm vm₁).calling g' mk (Value.ref b :: As).toArray, t, U', L, E, ce, hT, X', hL, e1, e2, hq, hce, hcv, vx_cls hW₁ hcl, st⟩
end VXID
/-! ===== END ===== -/
/-! ===== BEGIN a method of a class above, found by the receiver, that may throw (follows va_callVU, va_runU of this kit) ===== -/
section
variable {p : Program} {l : Launch} {e : Env} {R : Room} {s : State} {m : MethodId} {args : Array Value} {below : List Frame} {meth : Method} {c : Code} {H : Heap} {locs : List Loc} {cells slots : Nat}
theorem vx_callVU {T : State} {locs : List Loc} {cells slots : Nat} (X : Stand p l e R s m args below meth c T locs cells slots) (hexec : p.tables.exec = Jvm.exec) {own C owner : String} {index : Nat} {x y : MethodName} {bytes : ByteArray} {maxL : Nat} {ret : Option FieldType}
    (hown : s.vm.findClass own = some m.cls) (hlink : (Cond.methodLink own index x).before args s = true) (hsame : (Cond.sameMethod x.cls owner x.name x.desc).before args s = true)
    (hd0 : va_Decl s ⟨owner, x.name, x.desc⟩) (howner : owner ≠ "java/lang/invoke/MethodHandle" ∧ owner ≠ "java/lang/invoke/VarHandle")
    (hsel : (Cond.selects C x y).before args s = true) (hinst : (Cond.instanceMethod y).before args s = true) (hcode : (Cond.code y bytes maxL ret).before args s = true)
    {W : Nat} {Pre : Pt → Array Value → Prop} {Post : Pt → Array Value → Option Value → Pt → Prop} {PostX : Pt → Array Value → Addr → Pt → Prop} (hK : vx_Back l R p e below s args y 3 W Pre Post PostX)
    {b : Addr} {cellB : Cell} (hcell : T.heap[b]? = some cellB) (hobj : cellB.vm.isStatics = false) (hcls : s.vm.findClass C = some cellB.cls)
    {g : JFrame} (hg : g.method = m) (hsize : g.locals.size = c.maxLocals) {argsL rest : List Value} (hlen : ∀ sig, parseMethodDescriptor x.desc = some sig → argsL.length = sig.parameters.length)
    (hstack : g.stack = argsL.reverse ++ .ref b :: rest) (hW : 2 * g.monitorRoom + (rest.map fun v => v.category).sum ≤ W) (hdg : decode c.code g.pc = .ok (.invokevirtual index, 3))
    (hpre : ∀ vm₁, s.WarmedH vm₁ → Pre ⟨T.setVm vm₁, locs, cells, slots⟩ (Value.ref b :: argsL).toArray) :
    (∃ (v : Option Value) (vm₁ : Vm) (B : Pt), s.WarmedH vm₁ ∧ Stand p l e R s m args below meth c B.U B.locs B.cells B.slots ∧ Post ⟨T.setVm vm₁, locs, cells, slots⟩ (Value.ref b :: argsL).toArray v B ∧
      ∀ target, Steps p.tables e below (B.U.setTop { g with pc := g.pc + 3, stack := v.toList ++ rest }) target → Steps p.tables e below (T.setTop g) target) ∨
    (∃ (q : Addr) (vm₁ : Vm) (B : Pt), s.WarmedH vm₁ ∧ Stand p l e R s m args below meth c B.U B.locs B.cells B.slots ∧ PostX ⟨T.setVm vm₁, locs, cells, slots⟩ (Value.ref b :: argsL).toArray q B ∧
      Steps p.tables e below (T.setTop g) ((B.U.setTop { g with stack := rest }).pushFrame (.throwing q))) := by
  obtain ⟨r0, r, hn, hrm, hstR, hsigR⟩ := hd0
  obtain ⟨cn, ck, r1, hcn, hck, hni, hf, hn1⟩ := Cond.sameMethod_found hsame
  cases hn.symm.trans hn1
  obtain ⟨mk, methM, hnamed, hmethM, -, habM⟩ := Cond.instanceMethod_spec hinst
  obtain ⟨c2, r2, m2, q1, q2, q3, q4, kP, hkP, hkPi⟩ := Cond.selects_spec hsel
  cases hcls.symm.trans q1
  cases hf.symm.trans q2
  cases hnamed.symm.trans q3
  have hselP : selectMethod e.platform s.vm cellB.cls r0 = .method mk := by rw [Launch.admits_selectMethod X.admits]; exact q4
  obtain ⟨vm₁, X₁, hstep₁⟩ := X.invokevirtualUp hexec hown hlink hsame howner hn hrm hstR (a := b) (cell := cellB) hcell
    (fun z h => by rw [h] at hobj; cases hobj) hselP hmethM habM hkP hkPi (g := g) hg (argsL := argsL) (rest := rest) (hlen _ hsigR) hstack hdg
  rcases hK m meth c ⟨T.setVm vm₁, locs, cells, slots⟩ { g with stack := rest } (.invokevirtual index) mk (Value.ref b :: argsL).toArray X₁ hg hsize hdg hW (X₁.named hnamed) (hpre vm₁ X₁.warmed) with ⟨v, B, X', hpost, hsteps⟩ | ⟨q, B, X', hpost, hsteps⟩
  · exact Or.inl ⟨v, vm₁, B, X₁.warmed, X', hpost, fun target h => hstep₁ _ fun acts => by rw [doInvoke_state]; exact hsteps.trans h⟩
  · exact Or.inr ⟨q, vm₁, B, X₁.warmed, X', hpost, hstep₁ _ fun acts => by rw [doInvoke_state]; exact hsteps⟩
theorem vx_runU {x y : MethodName} {bytes cc : ByteArray} {maxL nL mc ms n index : Nat} {ret : Option FieldType} {ws : List Cond} {rm : Room} {Pc : Array Value → State → Prop} {Qc : Array Value → State → Outcome → State → Prop} {XC : String → State → State → Prop} {free : Addr → Prop} {Ts : List Cond} {own C owner : String} {b : Addr} {As rest : List Value} {g : JFrame}
    (S : CallFix p m c cc nL s args Ts own) (hM : vx_Met l y ws rm Pc Qc XC mc ms free) (cw : va_CU R s args own C owner index x y bytes maxL ret ws rm mc ms n) (hp : PreV s H C b Pc As)
    (hg : g.method = m) (hn : As.length = n) (hsize : g.locals.size = nL) (hstack : g.stack = As.reverse ++ .ref b :: rest) (hW : 2 * g.monitorRoom + (rest.map fun v => v.category).sum ≤ 8) (hdg : decode cc g.pc = .ok (.invokevirtual index, 3)) (hf : cells + mc ≤ R.cells ∧ slots + ms ≤ R.slots) :
    vx_Run p l e R s m args below meth c H locs cells slots mc ms g rest (Qc (Value.ref b :: As).toArray) XC free := by
  obtain ⟨hrc, hrs, hfr, hlo, hws, hcw⟩ := cw.back
  have hini := cw.init
  have hK : vx_Back l R p e below s args y 3 8 (PreOf R mc ms Pc) (PostOf Qc mc ms free) (vx_Post XC mc ms free) := vx_back (bytes := bytes) (maxL := maxL) (ret := ret) hM hp.1 hrc hrs hfr hlo hws hcw (fun a' U hW => word_at hW (Or.inl (by first | rfl | simp [Cond.onTables, Cond.keeps, Cond.steady])) hini)
  obtain ⟨hx, hb, hml, ho, -⟩ := S
  obtain ⟨-, ⟨cellB, hcB, hoB, hclB⟩, hPc⟩ := hp
  intro T hT X
  rcases vx_callVU X hx (C := C) (owner := owner) (bytes := bytes) (maxL := maxL) (ret := ret) ho cw.link cw.same cw.decl cw.notMH cw.sel cw.inst cw.code hK (by rw [hT]; exact hcB) hoB hclB hg (hsize.trans hml.symm) (argsL := As) (rest := rest) (fun sig h => hn.trans (cw.len sig h)) hstack hW (by rw [hb]; exact hdg)
    (fun vm₁ hW₁ => ⟨hf.1, hf.2, hPc (T.setVm vm₁) hT hW₁⟩) with ⟨v, vm₁, ⟨U', l2, c2, s2⟩, hW₁, X', ⟨g', mk, t, L, e1, e2, hq, h1, hL, h2, h3⟩, st⟩ | ⟨q, vm₁, ⟨U', l2, c2, s2⟩, hW₁, X', ⟨g', mk, t, L, E, ce, e1, e2, hq, hce, hcv, hcl, h1, hL, h2, h3⟩, st⟩
  · dsimp only [Pt.U, Pt.locs, Pt.cells, Pt.slots] at X' e1 e2 h1 h2 h3 st
    subst h1; subst h2; subst h3
    exact Or.inl ⟨v, (T.setVm vm₁).calling g' mk (Value.ref b :: As).toArray, t, U', L, hT, X', hL, e1, e2, hq, st⟩
  · dsimp only [Pt.U, Pt.locs, Pt.cells, Pt.slots] at X' e1 e2 h1 h2 h3 st hcl
    subst h1; subst h2; subst h3
    exact Or.inr ⟨q, (T.setVm vm₁).calling g' mk (Value.ref b :: As).toArray, t, U', L, E, ce, hT, X', hL, e1, e2, hq, hce, hcv, vx_cls hW₁ hcl, st⟩
end
/-! ===== END ===== -/
/-! ===== BEGIN super.m(..) that may throw (follows va_callSU, va_runSU) ===== -/
section
variable {p : Program} {l : Launch} {e : Env} {R : Room} {s : State} {m : MethodId} {args : Array Value} {below : List Frame} {meth : Method} {c : Code} {H : Heap} {locs : List Loc} {cells slots : Nat}
theorem vx_callSU {T : State} {locs : List Loc} {cells slots : Nat} (X : Stand p l e R s m args below meth c T locs cells slots) (hexec : p.tables.exec = Jvm.exec) {own : String} {index : Nat} {y : MethodName} {bytes : ByteArray} {maxL : Nat} {ret : Option FieldType}
    (hown : s.vm.findClass own = some m.cls) (hlink : (Cond.methodLink own index y).before args s = true) (hsame : (Cond.sameMethod y.cls y.cls y.name y.desc).before args s = true) (hsup : (Cond.superclass own y.cls).before args s = true)
    (hinst : (Cond.instanceMethod y).before args s = true) (hcode : (Cond.code y bytes maxL ret).before args s = true) (hno : y.name ≠ "<init>")
    {W : Nat} {Pre : Pt → Array Value → Prop} {Post : Pt → Array Value → Option Value → Pt → Prop} {PostX : Pt → Array Value → Addr → Pt → Prop} (hK : vx_Back l R p e below s args y 3 W Pre Post PostX)
    {b : Addr} {cellB : Cell} {kB : Class} (hcell : T.heap[b]? = some cellB) (hobj : cellB.vm.isStatics = false) (hkB : s.vm.classes[cellB.cls]? = some kB)
    {g : JFrame} (hg : g.method = m) (hsize : g.locals.size = c.maxLocals) {argsL rest : List Value} (hlen : ∀ sig, parseMethodDescriptor y.desc = some sig → argsL.length = sig.parameters.length)
    (hstack : g.stack = argsL.reverse ++ .ref b :: rest) (hW : 2 * g.monitorRoom + (rest.map fun v => v.category).sum ≤ W) (hdg : decode c.code g.pc = .ok (.invokespecial index, 3))
    (hpre : ∀ vm₁, s.WarmedH vm₁ → Pre ⟨T.setVm vm₁, locs, cells, slots⟩ (Value.ref b :: argsL).toArray) :
    (∃ (v : Option Value) (vm₁ : Vm) (B : Pt), s.WarmedH vm₁ ∧ Stand p l e R s m args below meth c B.U B.locs B.cells B.slots ∧ Post ⟨T.setVm vm₁, locs, cells, slots⟩ (Value.ref b :: argsL).toArray v B ∧
      ∀ target, Steps p.tables e below (B.U.setTop { g with pc := g.pc + 3, stack := v.toList ++ rest }) target → Steps p.tables e below (T.setTop g) target) ∨
    (∃ (q : Addr) (vm₁ : Vm) (B : Pt), s.WarmedH vm₁ ∧ Stand p l e R s m args below meth c B.U B.locs B.cells B.slots ∧ PostX ⟨T.setVm vm₁, locs, cells, slots⟩ (Value.ref b :: argsL).toArray q B ∧
      Steps p.tables e below (T.setTop g) ((B.U.setTop { g with stack := rest }).pushFrame (.throwing q))) := by
  obtain ⟨mk, methM, hnamed, hmethM, hstM, habM⟩ := Cond.instanceMethod_spec hinst
  obtain ⟨methM', cM, hmethM', -, -, -, -, -, -, hsigM⟩ := Cond.code_spec hnamed hcode
  cases hmethM.symm.trans hmethM'
  obtain ⟨ps, dk, kp, hps, hdk, hkp, hsuper, -, -, hnid⟩ := Cond.superclass_spec hown hsup
  have hn : s.methodNamed? ⟨y.cls, y.name, y.desc⟩ = some mk := hnamed
  have hpm : ps = mk.cls := Option.some.inj (hps.symm.trans (findClass_of_methodNamed hnamed))
  have hsub : s.vm.isSubclass ps mk.cls = true := by rw [hpm]; simp [Vm.isSubclass, Vm.isSubclassAux]
  obtain ⟨vm₁, X₁, hstep₁⟩ := X.invokespecialUp hexec hown hlink hsame hn hmethM hstM habM hno hdk hnid hps hsuper hsub (a := b) (cell := cellB) hcell
    (fun z h => by rw [h] at hobj; cases hobj) hkB (g := g) hg (argsL := argsL) (rest := rest) (hlen _ hsigM) hstack hdg
  rcases hK m meth c ⟨T.setVm vm₁, locs, cells, slots⟩ { g with stack := rest } (.invokespecial index) mk (Value.ref b :: argsL).toArray X₁ hg hsize hdg hW (X₁.named hnamed) (hpre vm₁ X₁.warmed) with ⟨v, B, X', hpost, hsteps⟩ | ⟨q, B, X', hpost, hsteps⟩
  · exact Or.inl ⟨v, vm₁, B, X₁.warmed, X', hpost, fun target h => hstep₁ _ (by rw [doInvoke_state]; exact hsteps.trans h)⟩
  · exact Or.inr ⟨q, vm₁, B, X₁.warmed, X', hpost, hstep₁ _ (by rw [doInvoke_state]; exact hsteps)⟩
theorem vx_runSU {y : MethodName} {bytes cc : ByteArray} {maxL nL mc ms n index : Nat} {ret : Option FieldType} {ws : List Cond} {rm : Room} {Pc : Array Value → State → Prop} {Qc : Array Value → State → Outcome → State → Prop} {XC : String → State → State → Prop} {free : Addr → Prop} {Ts : List Cond} {own C : String} {cC : ClassId} {b : Addr} {As rest : List Value} {g : JFrame}
    (hat : ClassAt s C cC) (S : CallFix p m c cc nL s args Ts own) (hM : vx_Met l y ws rm Pc Qc XC mc ms free) (cw : va_CS R s args own index y bytes maxL ret ws rm mc ms n) (hp : PreV s H C b Pc As)
    (hg : g.method = m) (hn : As.length = n) (hsize : g.locals.size = nL) (hstack : g.stack = As.reverse ++ .ref b :: rest) (hW : 2 * g.monitorRoom + (rest.map fun v => v.category).sum ≤ 8) (hdg : decode cc g.pc = .ok (.invokespecial index, 3)) (hf : cells + mc ≤ R.cells ∧ slots + ms ≤ R.slots) :
    vx_Run p l e R s m args below meth c H locs cells slots mc ms g rest (Qc (Value.ref b :: As).toArray) XC free := by
  obtain ⟨⟨hrc, hrs, hfr, hlo, hws, hcw⟩, hl1, hl2, hl3, hl4, hini, hcode, hno, hlen⟩ := cw
  have hK : vx_Back l R p e below s args y 3 8 (PreOf R mc ms Pc) (PostOf Qc mc ms free) (vx_Post XC mc ms free) := vx_back (bytes := bytes) (maxL := maxL) (ret := ret) hM hp.1 hrc hrs hfr hlo hws hcw (fun a' U hW => word_at hW (Or.inl (by first | rfl | simp [Cond.onTables, Cond.keeps, Cond.steady])) hini)
  obtain ⟨hx, hb, hml, ho, -⟩ := S
  obtain ⟨-, ⟨cellB, hcB, hoB, hclB⟩, hPc⟩ := hp
  obtain ⟨hfc, kB, hkB, -⟩ := hat
  cases hfc.symm.trans hclB
  intro T hT X
  rcases vx_callSU X hx (bytes := bytes) (maxL := maxL) (ret := ret) ho hl1 hl2 hl3 hl4 hcode hno hK (by rw [hT]; exact hcB) hoB hkB hg (hsize.trans hml.symm) (argsL := As) (rest := rest) (fun sig h => hn.trans (hlen sig h)) hstack hW (by rw [hb]; exact hdg)
    (fun vm₁ hW₁ => ⟨hf.1, hf.2, hPc (T.setVm vm₁) hT hW₁⟩) with ⟨v, vm₁, ⟨U', l2, c2, s2⟩, hW₁, X', ⟨g', mk, t, L, e1, e2, hq, h1, hL, h2, h3⟩, st⟩ | ⟨q, vm₁, ⟨U', l2, c2, s2⟩, hW₁, X', ⟨g', mk, t, L, E, ce, e1, e2, hq, hce, hcv, hcl, h1, hL, h2, h3⟩, st⟩
  · dsimp only [Pt.U, Pt.locs, Pt.cells, Pt.slots] at X' e1 e2 h1 h2 h3 st
    subst h1; subst h2; subst h3
    exact Or.inl ⟨v, (T.setVm vm₁).calling g' mk (Value.ref b :: As).toArray, t, U', L, hT, X', hL, e1, e2, hq, st⟩
  · dsimp only [Pt.U, Pt.locs, Pt.cells, Pt.slots] at X' e1 e2 h1 h2 h3 st hcl
    subst h1; subst h2; subst h3
    exact Or.inr ⟨q, (T.setVm vm₁).calling g' mk (Value.ref b :: As).toArray, t, U', L, E, ce, hT, X', hL, e1, e2, hq, hce, hcv, vx_cls hW₁ hcl, st⟩
end
/-! ===== END ===== -/
/-! ===== BEGIN a private method of a nest mate that may throw (follows va_callVN, va_callSN, va_runVN, va_runSN) ===== -/
section
variable {p : Program} {l : Launch} {e : Env} {R : Room} {s : State} {m : MethodId} {args : Array Value} {below : List Frame} {meth : Method} {c : Code} {H : Heap} {locs : List Loc} {cells slots : Nat}
variable {T : State}
theorem vx_callVN (X : Stand p l e R s m args below meth c T locs cells slots) (hexec : p.tables.exec = Jvm.exec) {own C : String} {index : Nat} {host : String} {y : MethodName} {bytes : ByteArray} {maxL : Nat} {ret : Option FieldType}
    (hown : s.vm.findClass own = some m.cls) (hlink : (Cond.methodLinkNest own index y host).before args s = true) (hinst : (Cond.instanceMethod y).before args s = true) (hsel : (Cond.selects C y y).before args s = true)
    (hcode : (Cond.code y bytes maxL ret).before args s = true) (hy : y.cls ≠ "java/lang/invoke/MethodHandle" ∧ y.cls ≠ "java/lang/invoke/VarHandle")
    {W : Nat} {Pre : Pt → Array Value → Prop} {Post : Pt → Array Value → Option Value → Pt → Prop} {PostX : Pt → Array Value → Addr → Pt → Prop} (hK : vx_Back l R p e below s args y 3 W Pre Post PostX)
    {b : Addr} {cellB : Cell} (hcell : T.heap[b]? = some cellB) (hobj : cellB.vm.isStatics = false) (hcls : s.vm.findClass C = some cellB.cls)
    {g : JFrame} (hg : g.method = m) (hsize : g.locals.size = c.maxLocals) {argsL rest : List Value} (hlen : ∀ sig, parseMethodDescriptor y.desc = some sig → argsL.length = sig.parameters.length)
    (hstack : g.stack = argsL.reverse ++ .ref b :: rest) (hW : 2 * g.monitorRoom + (rest.map fun v => v.category).sum ≤ W) (hdg : decode c.code g.pc = .ok (.invokevirtual index, 3))
    (hpre : ∀ vm₁, s.WarmedH vm₁ → Pre ⟨T.setVm vm₁, locs, cells, slots⟩ (Value.ref b :: argsL).toArray) :
    (∃ (v : Option Value) (vm₁ : Vm) (B : Pt), s.WarmedH vm₁ ∧ Stand p l e R s m args below meth c B.U B.locs B.cells B.slots ∧ Post ⟨T.setVm vm₁, locs, cells, slots⟩ (Value.ref b :: argsL).toArray v B ∧
      ∀ target, Steps p.tables e below (B.U.setTop { g with pc := g.pc + 3, stack := v.toList ++ rest }) target → Steps p.tables e below (T.setTop g) target) ∨
    (∃ (q : Addr) (vm₁ : Vm) (B : Pt), s.WarmedH vm₁ ∧ Stand p l e R s m args below meth c B.U B.locs B.cells B.slots ∧ PostX ⟨T.setVm vm₁, locs, cells, slots⟩ (Value.ref b :: argsL).toArray q B ∧
      Steps p.tables e below (T.setTop g) ((B.U.setTop { g with stack := rest }).pushFrame (.throwing q))) := by
  obtain ⟨mk, methM, hnamed, hmethM, hstM, habM⟩ := Cond.instanceMethod_spec hinst
  obtain ⟨methM', cM, hmethM', -, -, -, -, -, -, hsigM⟩ := Cond.code_spec hnamed hcode
  cases hmethM.symm.trans hmethM'
  obtain ⟨c2, r2, m2, q1, q2, q3, q4, kP, hkP, hkPi⟩ := Cond.selects_spec hsel
  cases hcls.symm.trans q1
  cases (State.methodFound?_of_named hnamed hy).symm.trans q2
  cases hnamed.symm.trans q3
  have hselP : selectMethod e.platform s.vm cellB.cls mk = .method mk := by rw [Launch.admits_selectMethod X.admits]; exact q4
  obtain ⟨vm₁, X₁, hstep₁⟩ := X.invokevirtualNest hexec hown hlink hnamed hmethM hstM hkP hkPi hy (a := b) (cell := cellB) hcell
    (fun z h => by rw [h] at hobj; cases hobj) hselP hmethM habM hkP hkPi (g := g) hg (argsL := argsL) (rest := rest) (hlen _ hsigM) hstack hdg
  rcases hK m meth c ⟨T.setVm vm₁, locs, cells, slots⟩ { g with stack := rest } (.invokevirtual index) mk (Value.ref b :: argsL).toArray X₁ hg hsize hdg hW (X₁.named hnamed) (hpre vm₁ X₁.warmed) with ⟨v, B, X', hpost, hsteps⟩ | ⟨q, B, X', hpost, hsteps⟩
  · exact Or.inl ⟨v, vm₁, B, X₁.warmed, X', hpost, fun target h => hstep₁ _ fun acts => by rw [doInvoke_state]; exact hsteps.trans h⟩
  · exact Or.inr ⟨q, vm₁, B, X₁.warmed, X', hpost, hstep₁ _ fun acts => by rw [doInvoke_state]; exact hsteps⟩
theorem vx_callSN (X : Stand p l e R s m args below meth c T locs cells slots) (hexec : p.tables.exec = Jvm.exec) {own : String} {index : Nat} {host : String} {y : MethodName} {bytes : ByteArray} {maxL : Nat} {ret : Option FieldType}
    (hown : s.vm.findClass own = some m.cls) (hlink : (Cond.methodLinkNest own index y host).before args s = true) (hstat : (Cond.static y).before args s = true) (hinit : (Cond.initialized y.cls).before args s = true)
    (hcode : (Cond.code y bytes maxL ret).before args s = true) (hy : y.cls ≠ "java/lang/invoke/MethodHandle" ∧ y.cls ≠ "java/lang/invoke/VarHandle")
    {W : Nat} {Pre : Pt → Array Value → Prop} {Post : Pt → Array Value → Option Value → Pt → Prop} {PostX : Pt → Array Value → Addr → Pt → Prop} (hK : vx_Back l R p e below s args y 3 W Pre Post PostX)
    {g : JFrame} (hg : g.method = m) (hsize : g.locals.size = c.maxLocals) {argsL rest : List Value} (hlen : ∀ sig, parseMethodDescriptor y.desc = some sig → argsL.length = sig.parameters.length)
    (hstack : g.stack = argsL.reverse ++ rest) (hW : 2 * g.monitorRoom + (rest.map fun v => v.category).sum ≤ W) (hdg : decode c.code g.pc = .ok (.invokestatic index, 3))
    (hpre : ∀ vm₁, s.WarmedH vm₁ → Pre ⟨T.setVm vm₁, locs, cells, slots⟩ argsL.toArray) :
    (∃ (v : Option Value) (vm₁ : Vm) (B : Pt), s.WarmedH vm₁ ∧ Stand p l e R s m args below meth c B.U B.locs B.cells B.slots ∧ Post ⟨T.setVm vm₁, locs, cells, slots⟩ argsL.toArray v B ∧
      ∀ target, Steps p.tables e below (B.U.setTop { g with pc := g.pc + 3, stack := v.toList ++ rest }) target → Steps p.tables e below (T.setTop g) target) ∨
    (∃ (q : Addr) (vm₁ : Vm) (B : Pt), s.WarmedH vm₁ ∧ Stand p l e R s m args below meth c B.U B.locs B.cells B.slots ∧ PostX ⟨T.setVm vm₁, locs, cells, slots⟩ argsL.toArray q B ∧
      Steps p.tables e below (T.setTop g) ((B.U.setTop { g with stack := rest }).pushFrame (.throwing q))) := by
  obtain ⟨mk, hnamed⟩ := Cond.code_named hcode
  obtain ⟨methM, cM, hmethM, -, -, -, -, -, -, hsigM⟩ := Cond.code_spec hnamed hcode
  have hstatic : methM.isStatic = true := Cond.static_spec hnamed hmethM hstat
  obtain ⟨kP, hkP, -⟩ := className_of_methodNamed hnamed
  have hinitP : kP.init = .initialized := Cond.initialized_spec (findClass_of_methodNamed hnamed) hkP hinit
  obtain ⟨vm₁, X₁, hstep₁⟩ := X.invokestaticNest hexec hown hlink hnamed hmethM hstatic hkP hinitP hy (g := g) hg (argsL := argsL) (rest := rest) (hlen _ hsigM) hstack hdg
  rcases hK m meth c ⟨T.setVm vm₁, locs, cells, slots⟩ { g with stack := rest } (.invokestatic index) mk argsL.toArray X₁ hg hsize hdg hW (X₁.named hnamed) (hpre vm₁ X₁.warmed) with ⟨v, B, X', hpost, hsteps⟩ | ⟨q, B, X', hpost, hsteps⟩
  · exact Or.inl ⟨v, vm₁, B, X₁.warmed, X', hpost, fun target h => hstep₁ _ fun acts => by rw [doInvoke_state]; exact hsteps.trans h⟩
  · exact Or.inr ⟨q, vm₁, B, X₁.warmed, X', hpost, hstep₁ _ fun acts => by rw [doInvoke_state]; exact hsteps⟩
theorem vx_runVN {y : MethodName} {bytes cc : ByteArray} {maxL nL mc ms n index : Nat} {ret : Option FieldType} {ws : List Cond} {rm : Room} {Pc : Array Value → State → Prop} {Qc : Array Value → State → Outcome → State → Prop} {XC : String → State → State → Prop} {free : Addr → Prop} {Ts : List Cond} {own C host : String} {b : Addr} {As rest : List Value} {g : JFrame}
    (S : CallFix p m c cc nL s args Ts own) (hM : vx_Met l y ws rm Pc Qc XC mc ms free) (cw : va_CN R s args own index y host bytes maxL ret ws rm mc ms n ∧ (Cond.instanceMethod y).before args s = true ∧ (Cond.selects C y y).before args s = true) (hp : PreV s H C b Pc As)
    (hg : g.method = m) (hn : As.length = n) (hsize : g.locals.size = nL) (hstack : g.stack = As.reverse ++ .ref b :: rest) (hW : 2 * g.monitorRoom + (rest.map fun v => v.category).sum ≤ 8) (hdg : decode cc g.pc = .ok (.invokevirtual index, 3)) (hf : cells + mc ≤ R.cells ∧ slots + ms ≤ R.slots) :
    vx_Run p l e R s m args below meth c H locs cells slots mc ms g rest (Qc (Value.ref b :: As).toArray) XC free := by
  obtain ⟨⟨⟨hrc, hrs, hfr, hlo, hws, hcw⟩, hcode, hini, hy, hlen, hl⟩, hx1, hx2⟩ := cw
  have hK : vx_Back l R p e below s args y 3 8 (PreOf R mc ms Pc) (PostOf Qc mc ms free) (vx_Post XC mc ms free) := vx_back (bytes := bytes) (maxL := maxL) (ret := ret) hM hp.1 hrc hrs hfr hlo hws hcw (fun a' U hW => word_at hW (Or.inl (by first | rfl | simp [Cond.onTables, Cond.keeps, Cond.steady])) hini)
  obtain ⟨hx, hb, hml, ho, -⟩ := S
  obtain ⟨-, ⟨cellB, hcB, hoB, hclB⟩, hPc⟩ := hp
  intro T hT X
  rcases vx_callVN X hx (C := C) (bytes := bytes) (maxL := maxL) (ret := ret) ho hl hx1 hx2 hcode hy hK (by rw [hT]; exact hcB) hoB hclB hg (hsize.trans hml.symm) (argsL := As) (rest := rest) (fun sig h => hn.trans (hlen sig h)) hstack hW (by rw [hb]; exact hdg)
    (fun vm₁ hW₁ => ⟨hf.1, hf.2, hPc (T.setVm vm₁) hT hW₁⟩) with ⟨v, vm₁, ⟨U', l2, c2, s2⟩, hW₁, X', ⟨g', mk, t, L, e1, e2, hq, h1, hL, h2, h3⟩, st⟩ | ⟨q, vm₁, ⟨U', l2, c2, s2⟩, hW₁, X', ⟨g', mk, t, L, E, ce, e1, e2, hq, hce, hcv, hcl, h1, hL, h2, h3⟩, st⟩
  · dsimp only [Pt.U, Pt.locs, Pt.cells, Pt.slots] at X' e1 e2 h1 h2 h3 st
    subst h1; subst h2; subst h3
    exact Or.inl ⟨v, (T.setVm vm₁).calling g' mk (Value.ref b :: As).toArray, t, U', L, hT, X', hL, e1, e2, hq, st⟩
  · dsimp only [Pt.U, Pt.locs, Pt.cells, Pt.slots] at X' e1 e2 h1 h2 h3 st hcl
    subst h1; subst h2; subst h3
    exact Or.inr ⟨q, (T.setVm vm₁).calling g' mk (Value.ref b :: As).toArray, t, U', L, E, ce, hT, X', hL, e1, e2, hq, hce, hcv, vx_cls hW₁ hcl, st⟩
theorem vx_runSN {y : MethodName} {bytes cc : ByteArray} {maxL nL mc ms n index : Nat} {ret : Option FieldType} {ws : List Cond} {rm : Room} {Pc : Array Value → State → Prop} {Qc : Array Value → State → Outcome → State → Prop} {XC : String → State → State → Prop} {free : Addr → Prop} {Ts : List Cond} {own host : String} {As rest : List Value} {g : JFrame}
    (S : CallFix p m c cc nL s args Ts own) (hM : vx_Met l y ws rm Pc Qc XC mc ms free) (cw : va_CN R s args own index y host bytes maxL ret ws rm mc ms n ∧ (Cond.static y).before args s = true ∧ True) (hp : PreS s H Pc As)
    (hg : g.method = m) (hn : As.length = n) (hsize : g.locals.size = nL) (hstack : g.stack = As.reverse ++ rest) (hW : 2 * g.monitorRoom + (rest.map fun v => v.category).sum ≤ 8) (hdg : decode cc g.pc = .ok (.invokestatic index, 3)) (hf : cells + mc ≤ R.cells ∧ slots + ms ≤ R.slots) :
    vx_Run p l e R s m args below meth c H locs cells slots mc ms g rest (Qc As.toArray) XC free := by
  obtain ⟨⟨⟨hrc, hrs, hfr, hlo, hws, hcw⟩, hcode, hini, hy, hlen, hl⟩, hx1, hx2⟩ := cw
  have hK : vx_Back l R p e below s args y 3 8 (PreOf R mc ms Pc) (PostOf Qc mc ms free) (vx_Post XC mc ms free) := vx_back (bytes := bytes) (maxL := maxL) (ret := ret) hM hp.1 hrc hrs hfr hlo hws hcw (fun a' U hW => word_at hW (Or.inl (by first | rfl | simp [Cond.onTables, Cond.keeps, Cond.steady])) hini)
  obtain ⟨hx, hb, hml, ho, -⟩ := S
  have hPc := hp.2
  intro T hT X
  rcases vx_callSN X hx (bytes := bytes) (maxL := maxL) (ret := ret) ho hl hx1 hini hcode hy hK hg (hsize.trans hml.symm) (argsL := As) (rest := rest) (fun sig h => hn.trans (hlen sig h)) hstack hW (by rw [hb]; exact hdg)
    (fun vm₁ hW₁ => ⟨hf.1, hf.2, hPc (T.setVm vm₁) hT hW₁⟩) with ⟨v, vm₁, ⟨U', l2, c2, s2⟩, hW₁, X', ⟨g', mk, t, L, e1, e2, hq, h1, hL, h2, h3⟩, st⟩ | ⟨q, vm₁, ⟨U', l2, c2, s2⟩, hW₁, X', ⟨g', mk, t, L, E, ce, e1, e2, hq, hce, hcv, hcl, h1, hL, h2, h3⟩, st⟩
  · dsimp only [Pt.U, Pt.locs, Pt.cells, Pt.slots] at X' e1 e2 h1 h2 h3 st
    subst h1; subst h2; subst h3
    exact Or.inl ⟨v, (T.setVm vm₁).calling g' mk As.toArray, t, U', L, hT, X', hL, e1, e2, hq, st⟩
  · dsimp only [Pt.U, Pt.locs, Pt.cells, Pt.slots] at X' e1 e2 h1 h2 h3 st hcl
    subst h1; subst h2; subst h3
    exact Or.inr ⟨q, (T.setVm vm₁).calling g' mk As.toArray, t, U', L, E, ce, hT, X', hL, e1, e2, hq, hce, hcv, vx_cls hW₁ hcl, st⟩
end
/-! ===== END ===== -/
/-! ===== BEGIN calls by an interface of methods that may throw (vx_callIF, vx_runF follow va_callIF, va_runF of this kit) ===== -/
section
variable {p : Program} {l : Launch} {e : Env} {R : Room} {s : State} {m : MethodId} {args : Array Value} {below : List Frame} {meth : Method} {c : Code} {H : Heap} {locs : List Loc} {cells slots : Nat} {Q : State → Prop}
variable {mc ms : Nat} {free : Addr → Prop} {A0 A1 : Nat → Prop} {H0 : Heap} {a : Array Value} {pc : Nat} {ls : Array Slot} {st0 rest : List Value}
def vx_Run5 (p : Program) (l : Launch) (e : Env) (R : Room) (s : State) (m : MethodId) (args : Array Value) (below : List Frame) (meth : Method) (c : Code) (H : Heap) (locs : List Loc) (cells slots mc ms : Nat) (g : JFrame) (rest : List Value) (Qa : State → Outcome → State → Prop) (XC : String → State → State → Prop) (free : Addr → Prop) : Prop :=
  ∀ T : State, T.heap = H → Stand p l e R s m args below meth c T locs cells slots →
    (∃ (v : Option Value) (st₀ t T' : State) (L : List Loc), st₀.heap = H ∧ Stand p l e R s m args below meth c T' (locs ++ L) (cells + mc) (slots + ms) ∧ (∀ q ∈ L, free q.base) ∧ T'.heap = t.heap ∧ T'.vm = t.vm ∧ Qa st₀ (.returned v) t ∧
      Goes p e below T g T' { g with pc := g.pc + 5, stack := v.toList ++ rest }) ∨
    (∃ (q : Addr) (st₀ t T' : State) (L : List Loc) (E : String) (ce : Cell), st₀.heap = H ∧ Stand p l e R s m args below meth c T' (locs ++ L) (cells + mc) (slots + ms) ∧ (∀ z ∈ L, free z.base) ∧ T'.heap = t.heap ∧ T'.vm = t.vm ∧ XC E st₀ t ∧ t.heap[q]? = some ce ∧ ce.vm = .none ∧ s.vm.findClass E = some ce.cls ∧
      Steps p.tables e below (T.setTop g) ((T'.setTop { g with stack := rest }).pushFrame (.throwing q)))
theorem vx_callIF {T : State} (X : Stand p l e R s m args below meth c T locs cells slots) (hexec : p.tables.exec = Jvm.exec) {own C : String} {index count : Nat} {x y : MethodName} {bytes : ByteArray} {maxL : Nat} {ret : Option FieldType}
    (hown : s.vm.findClass own = some m.cls) (hlink : (Cond.methodLink own index x).before args s = true) (hdecl : (Cond.declares x).before args s = true) (hface : (Cond.interfaceMethod x.cls x.cls x.name x.desc).before args s = true)
    (hsel : (Cond.selects C x y).before args s = true) (hinst : (Cond.instanceMethod y).before args s = true) (hpub : (Cond.publicMethod y).before args s = true) (hunh : (Cond.unhidden C x.name x.desc).before args s = true)
    (hcast : (Cond.castable C x.cls).before args s = true) (hcode : (Cond.code y bytes maxL ret).before args s = true) (hx : x.cls ≠ "java/lang/invoke/MethodHandle" ∧ x.cls ≠ "java/lang/invoke/VarHandle")
    {W9 : Nat} {Pre : Pt → Array Value → Prop} {Post : Pt → Array Value → Option Value → Pt → Prop} {PostX : Pt → Array Value → Addr → Pt → Prop} (hK : vx_Back l R p e below s args y 5 W9 Pre Post PostX)
    {b : Addr} {cellB : Cell} {kB : Class} (hcell : T.heap[b]? = some cellB) (hobj : cellB.vm.isStatics = false) (hcls : s.vm.findClass C = some cellB.cls) (hkB : s.vm.classes[cellB.cls]? = some kB)
    {g : JFrame} (hg : g.method = m) (hsize : g.locals.size = c.maxLocals) {argsL rest : List Value} (hlen : ∀ sig, parseMethodDescriptor x.desc = some sig → argsL.length = sig.parameters.length)
    (hstack : g.stack = argsL.reverse ++ .ref b :: rest) (hW : 2 * g.monitorRoom + (rest.map fun v => v.category).sum ≤ W9) (hdg : decode c.code g.pc = .ok (.invokeinterface index count, 5))
    (hpre : ∀ vm₁, s.WarmedH vm₁ → Pre ⟨T.setVm vm₁, locs, cells, slots⟩ (Value.ref b :: argsL).toArray) :
    (∃ (v : Option Value) (vm₁ : Vm) (B : Pt), s.WarmedH vm₁ ∧ Stand p l e R s m args below meth c B.U B.locs B.cells B.slots ∧ Post ⟨T.setVm vm₁, locs, cells, slots⟩ (Value.ref b :: argsL).toArray v B ∧
      ∀ target, Steps p.tables e below (B.U.setTop { g with pc := g.pc + 5, stack := v.toList ++ rest }) target → Steps p.tables e below (T.setTop g) target) ∨
    (∃ (q : Addr) (vm₁ : Vm) (B : Pt), s.WarmedH vm₁ ∧ Stand p l e R s m args below meth c B.U B.locs B.cells B.slots ∧ PostX ⟨T.setVm vm₁, locs, cells, slots⟩ (Value.ref b :: argsL).toArray q B ∧
      Steps p.tables e below (T.setTop g) ((B.U.setTop { g with stack := rest }).pushFrame (.throwing q))) := by
  obtain ⟨r0, r, hn, hrm, hstR, hsigR⟩ := Cond.declares_spec hdecl
  obtain ⟨cL, kL, r1, hcL, hkL, hiL, hfoundL, hn1⟩ := Cond.interfaceMethod_spec hface
  cases hn.symm.trans hn1
  have hr0cls : r0.cls = cL := Option.some.inj ((findClass_of_methodNamed hn).symm.trans hcL)
  obtain ⟨hnameR, hdescR⟩ := name_of_methodNamed hn hrm
  obtain ⟨mk, methM, hnamed, hmethM, -, habM⟩ := Cond.instanceMethod_spec hinst
  obtain ⟨c2, r2, m2, q1, q2, q3, q4, -⟩ := Cond.selects_spec hsel
  cases hcls.symm.trans q1
  cases hfoundL.symm.trans q2
  cases hnamed.symm.trans q3
  have hselP : selectMethod e.platform s.vm cellB.cls r0 = .method mk := by rw [Launch.admits_selectMethod X.admits]; exact q4
  have hpubM : hasFlag methM.accessFlags Acc.public_ = true := Cond.publicMethod_spec hnamed hmethM hpub
  have hway : ((cellB.cls :: s.vm.superclasses cellB.cls).any fun k => (declaredIn s.vm r.name r.desc k).any fun (_, z) => z.isPrivate || z.isStatic) = false := by
    rw [hnameR, hdescR]; exact Cond.unhidden_spec hcls hunh
  obtain ⟨c3, t3, w1, w2, w3⟩ := Cond.castable_spec hcast
  cases hcls.symm.trans w1
  cases hcL.symm.trans w2
  obtain ⟨vm₁, X₁, hstep₁⟩ := X.invokeinterface hexec hown hlink hn hrm hstR (by rw [hr0cls]; exact hkL) hiL hx (a := b) (cell := cellB) (kcell := kB) hcell
    (fun z h => by rw [h] at hobj; cases hobj) hkB (by rw [hr0cls]; exact w3) hselP hmethM hway hpubM habM (g := g) hg (argsL := argsL) (rest := rest) (hlen _ hsigR) hstack hdg
  rcases hK m meth c ⟨T.setVm vm₁, locs, cells, slots⟩ { g with stack := rest } (.invokeinterface index count) mk (Value.ref b :: argsL).toArray X₁ hg hsize hdg hW (X₁.named hnamed) (hpre vm₁ X₁.warmed) with ⟨v, B, X', hpost, hsteps⟩ | ⟨q, B, X', hpost, hsteps⟩
  · exact Or.inl ⟨v, vm₁, B, X₁.warmed, X', hpost, fun target h => hstep₁ _ fun acts => by rw [doInvoke_state]; exact hsteps.trans h⟩
  · exact Or.inr ⟨q, vm₁, B, X₁.warmed, X', hpost, hstep₁ _ fun acts => by rw [doInvoke_state]; exact hsteps⟩
theorem vx_runF {x y : MethodName} {bytes cc : ByteArray} {maxL nL mc ms n index count : Nat} {ret : Option FieldType} {ws : List Cond} {rm : Room} {Pc : Array Value → State → Prop} {Qc : Array Value → State → Outcome → State → Prop} {XC : String → State → State → Prop} {free : Addr → Prop} {Ts : List Cond} {own C : String} {cC : ClassId} {b : Addr} {As rest : List Value} {g : JFrame}
    (hat : ClassAt s C cC) (S : CallFix p m c cc nL s args Ts own) (hM : vx_Met l y ws rm Pc Qc XC mc ms free) (cw : va_CI R s args own C index x y bytes maxL ret ws rm mc ms n) (hp : PreV s H C b Pc As)
    (hg : g.method = m) (hn : As.length = n) (hsize : g.locals.size = nL) (hstack : g.stack = As.reverse ++ .ref b :: rest) (hW : 2 * g.monitorRoom + (rest.map fun v => v.category).sum ≤ 8) (hdg : decode cc g.pc = .ok (.invokeinterface index count, 5)) (hf : cells + mc ≤ R.cells ∧ slots + ms ≤ R.slots) :
    vx_Run5 p l e R s m args below meth c H locs cells slots mc ms g rest (Qc (Value.ref b :: As).toArray) XC free := by
  obtain ⟨hrc, hrs, hfr, hlo, hws, hcw⟩ := cw.back
  have hini := cw.init
  have hK : vx_Back l R p e below s args y 5 8 (PreOf R mc ms Pc) (PostOf Qc mc ms free) (vx_Post XC mc ms free) := vx_back (bytes := bytes) (maxL := maxL) (ret := ret) hM hp.1 hrc hrs hfr hlo hws hcw (fun a' U hW => word_at hW (Or.inl (by first | rfl | simp [Cond.onTables, Cond.keeps, Cond.steady])) hini)
  obtain ⟨hx, hb, hml, ho, -⟩ := S
  obtain ⟨-, ⟨cellB, hcB, hoB, hclB⟩, hPc⟩ := hp
  obtain ⟨hfc, kB, hkB, -⟩ := hat
  cases hfc.symm.trans hclB
  intro T hT X
  rcases vx_callIF X hx (C := C) (bytes := bytes) (maxL := maxL) (ret := ret) ho cw.link cw.decl cw.face cw.sel cw.inst cw.pub cw.unh cw.cast cw.code cw.notMH hK (by rw [hT]; exact hcB) hoB hclB hkB hg (hsize.trans hml.symm) (argsL := As) (rest := rest) (fun sig h => hn.trans (cw.len sig h)) hstack hW (by rw [hb]; exact hdg)
    (fun vm₁ hW₁ => ⟨hf.1, hf.2, hPc (T.setVm vm₁) hT hW₁⟩) with ⟨v, vm₁, ⟨U', l2, c2, s2⟩, hW₁, X', ⟨g', mk, t, L, e1, e2, hq, h1, hL, h2, h3⟩, st⟩ | ⟨q, vm₁, ⟨U', l2, c2, s2⟩, hW₁, X', ⟨g', mk, t, L, E, ce, e1, e2, hq, hce, hcv, hcl, h1, hL, h2, h3⟩, st⟩
  · dsimp only [Pt.U, Pt.locs, Pt.cells, Pt.slots] at X' e1 e2 h1 h2 h3 st
    subst h1; subst h2; subst h3
    exact Or.inl ⟨v, (T.setVm vm₁).calling g' mk (Value.ref b :: As).toArray, t, U', L, hT, X', hL, e1, e2, hq, st⟩
  · dsimp only [Pt.U, Pt.locs, Pt.cells, Pt.slots] at X' e1 e2 h1 h2 h3 st hcl
    subst h1; subst h2; subst h3
    exact Or.inr ⟨q, (T.setVm vm₁).calling g' mk (Value.ref b :: As).toArray, t, U', L, E, ce, hT, X', hL, e1, e2, hq, hce, hcv, vx_cls hW₁ hcl, st⟩
theorem vx_callFv {S SX : Type} {post : S → Prop} {px : SX → Prop} {B : S → State → Prop} {BX : String → SX → State → Prop} {AX : Nat → Prop} (hr : vx_Run5 p l e R s m args below meth c H locs cells slots mc ms (F0 m pc ls st0) rest (va_Qv post B A1 a) (vx_X px BX AX) free) (hS : va_S A0 H0 H locs) (hA : ∀ q, q < H.size → A1 q → A0 q) (hf : ∀ q, free q → A0 q) (hAX : ∀ q, q < H.size → AX q → A0 q)
    (kx : ∀ (E : String) (ce : Cell) (q9 : Addr) (u : SX) (t : State) (H1 : Heap) (locs1 : List Loc), t.heap = H1 → s.vm.Alike t.vm → px u → BX E u t → H.size ≤ H1.size → (∀ q : Nat, q < H.size → ¬ AX q → H1[q]? = H[q]?) → va_S A0 H0 H1 locs1 → H1[q9]? = some ce → ce.vm = .none → s.vm.findClass E = some ce.cls → vx_W p l e R s m args below meth c H1 locs1 (cells + mc) (slots + ms) Q (F0 m pc ls rest) q9)
    (kk : ∀ (u : S) (t : State) (H1 : Heap) (locs1 : List Loc), t.heap = H1 → s.vm.Alike t.vm → post u → B u t → H.size ≤ H1.size → (∀ q : Nat, q < H.size → ¬ A1 q → H1[q]? = H[q]?) → va_S A0 H0 H1 locs1 → W p l e R s m args below meth c H1 locs1 (cells + mc) (slots + ms) Q (F0 m (pc + 5) ls (rest))) : W p l e R s m args below meth c H locs cells slots Q (F0 m pc ls st0) := by
  intro T hT X
  rcases hr T hT X with ⟨v, st₀, t, T', L, h0, X', hL, e1, e2, ⟨⟨u, hv, hp, hb⟩, hF⟩, st⟩ | ⟨q, st₀, t, T', L, E, ce, h0, X', hL, e1, e2, ⟨u, hp, hb, hF⟩, hce, hcv, hcl, st⟩
  · cases hv
    obtain ⟨k1, k2, k3⟩ := vx_keep h0 e1 hS hA hf hL hF
    obtain ⟨t2, a1, b1⟩ := kk u t T'.heap (locs ++ L) e1.symm (by rw [← e2]; exact X'.warmed.alike) hp hb k1 k2 k3 T' rfl X'
    exact ⟨t2, st t2 a1, b1⟩
  · obtain ⟨k1, k2, k3⟩ := vx_keep h0 e1 hS hAX hf hL hF
    obtain ⟨t2, a1, b1⟩ := kx E ce q u t T'.heap (locs ++ L) e1.symm (by rw [← e2]; exact X'.warmed.alike) hp hb k1 k2 k3 (by rw [e1]; exact hce) hcv hcl T' rfl X'
    exact ⟨t2, st.trans a1, b1⟩
theorem vx_callFi {S SX : Type} {post : Int32 → S → Prop} {px : SX → Prop} {B : S → State → Prop} {BX : String → SX → State → Prop} {AX : Nat → Prop} (hr : vx_Run5 p l e R s m args below meth c H locs cells slots mc ms (F0 m pc ls st0) rest (va_Qi post B A1 a) (vx_X px BX AX) free) (hS : va_S A0 H0 H locs) (hA : ∀ q, q < H.size → A1 q → A0 q) (hf : ∀ q, free q → A0 q) (hAX : ∀ q, q < H.size → AX q → A0 q)
    (kx : ∀ (E : String) (ce : Cell) (q9 : Addr) (u : SX) (t : State) (H1 : Heap) (locs1 : List Loc), t.heap = H1 → s.vm.Alike t.vm → px u → BX E u t → H.size ≤ H1.size → (∀ q : Nat, q < H.size → ¬ AX q → H1[q]? = H[q]?) → va_S A0 H0 H1 locs1 → H1[q9]? = some ce → ce.vm = .none → s.vm.findClass E = some ce.cls → vx_W p l e R s m args below meth c H1 locs1 (cells + mc) (slots + ms) Q (F0 m pc ls rest) q9)
    (kk : ∀ (r : Int32) (u : S) (t : State) (H1 : Heap) (locs1 : List Loc), t.heap = H1 → s.vm.Alike t.vm → post r u → B u t → H.size ≤ H1.size → (∀ q : Nat, q < H.size → ¬ A1 q → H1[q]? = H[q]?) → va_S A0 H0 H1 locs1 → W p l e R s m args below meth c H1 locs1 (cells + mc) (slots + ms) Q (F0 m (pc + 5) ls (.int r :: rest))) : W p l e R s m args below meth c H locs cells slots Q (F0 m pc ls st0) := by
  intro T hT X
  rcases hr T hT X with ⟨v, st₀, t, T', L, h0, X', hL, e1, e2, ⟨⟨r, u, hv, hp, hb⟩, hF⟩, st⟩ | ⟨q, st₀, t, T', L, E, ce, h0, X', hL, e1, e2, ⟨u, hp, hb, hF⟩, hce, hcv, hcl, st⟩
  · cases hv
    obtain ⟨k1, k2, k3⟩ := vx_keep h0 e1 hS hA hf hL hF
    obtain ⟨t2, a1, b1⟩ := kk r u t T'.heap (locs ++ L) e1.symm (by rw [← e2]; exact X'.warmed.alike) hp hb k1 k2 k3 T' rfl X'
    exact ⟨t2, st t2 a1, b1⟩
  · obtain ⟨k1, k2, k3⟩ := vx_keep h0 e1 hS hAX hf hL hF
    obtain ⟨t2, a1, b1⟩ := kx E ce q u t T'.heap (locs ++ L) e1.symm (by rw [← e2]; exact X'.warmed.alike) hp hb k1 k2 k3 (by rw [e1]; exact hce) hcv hcl T' rfl X'
    exact ⟨t2, st.trans a1, b1⟩
theorem vx_callFl {S SX : Type} {post : Int64 → S → Prop} {px : SX → Prop} {B : S → State → Prop} {BX : String → SX → State → Prop} {AX : Nat → Prop} (hr : vx_Run5 p l e R s m args below meth c H locs cells slots mc ms (F0 m pc ls st0) rest (va_Ql post B A1 a) (vx_X px BX AX) free) (hS : va_S A0 H0 H locs) (hA : ∀ q, q < H.size → A1 q → A0 q) (hf : ∀ q, free q → A0 q) (hAX : ∀ q, q < H.size → AX q → A0 q)
    (kx : ∀ (E : String) (ce : Cell) (q9 : Addr) (u : SX) (t : State) (H1 : Heap) (locs1 : List Loc), t.heap = H1 → s.vm.Alike t.vm → px u → BX E u t → H.size ≤ H1.size → (∀ q : Nat, q < H.size → ¬ AX q → H1[q]? = H[q]?) → va_S A0 H0 H1 locs1 → H1[q9]? = some ce → ce.vm = .none → s.vm.findClass E = some ce.cls → vx_W p l e R s m args below meth c H1 locs1 (cells + mc) (slots + ms) Q (F0 m pc ls rest) q9)
    (kk : ∀ (r : Int64) (u : S) (t : State) (H1 : Heap) (locs1 : List Loc), t.heap = H1 → s.vm.Alike t.vm → post r u → B u t → H.size ≤ H1.size → (∀ q : Nat, q < H.size → ¬ A1 q → H1[q]? = H[q]?) → va_S A0 H0 H1 locs1 → W p l e R s m args below meth c H1 locs1 (cells + mc) (slots + ms) Q (F0 m (pc + 5) ls (.long r :: rest))) : W p l e R s m args below meth c H locs cells slots Q (F0 m pc ls st0) := by
  intro T hT X
  rcases hr T hT X with ⟨v, st₀, t, T', L, h0, X', hL, e1, e2, ⟨⟨r, u, hv, hp, hb⟩, hF⟩, st⟩ | ⟨q, st₀, t, T', L, E, ce, h0, X', hL, e1, e2, ⟨u, hp, hb, hF⟩, hce, hcv, hcl, st⟩
  · cases hv
    obtain ⟨k1, k2, k3⟩ := vx_keep h0 e1 hS hA hf hL hF
    obtain ⟨t2, a1, b1⟩ := kk r u t T'.heap (locs ++ L) e1.symm (by rw [← e2]; exact X'.warmed.alike) hp hb k1 k2 k3 T' rfl X'
    exact ⟨t2, st t2 a1, b1⟩
  · obtain ⟨k1, k2, k3⟩ := vx_keep h0 e1 hS hAX hf hL hF
    obtain ⟨t2, a1, b1⟩ := kx E ce q u t T'.heap (locs ++ L) e1.symm (by rw [← e2]; exact X'.warmed.alike) hp hb k1 k2 k3 (by rw [e1]; exact hce) hcv hcl T' rfl X'
    exact ⟨t2, st.trans a1, b1⟩
theorem vx_callFf {S SX : Type} {post : UInt32 → S → Prop} {px : SX → Prop} {B : S → State → Prop} {BX : String → SX → State → Prop} {AX : Nat → Prop} (hr : vx_Run5 p l e R s m args below meth c H locs cells slots mc ms (F0 m pc ls st0) rest (va_Qf post B A1 a) (vx_X px BX AX) free) (hS : va_S A0 H0 H locs) (hA : ∀ q, q < H.size → A1 q → A0 q) (hf : ∀ q, free q → A0 q) (hAX : ∀ q, q < H.size → AX q → A0 q)
    (kx : ∀ (E : String) (ce : Cell) (q9 : Addr) (u : SX) (t : State) (H1 : Heap) (locs1 : List Loc), t.heap = H1 → s.vm.Alike t.vm → px u → BX E u t → H.size ≤ H1.size → (∀ q : Nat, q < H.size → ¬ AX q → H1[q]? = H[q]?) → va_S A0 H0 H1 locs1 → H1[q9]? = some ce → ce.vm = .none → s.vm.findClass E = some ce.cls → vx_W p l e R s m args below meth c H1 locs1 (cells + mc) (slots + ms) Q (F0 m pc ls rest) q9)
    (kk : ∀ (r : UInt32) (u : S) (t : State) (H1 : Heap) (locs1 : List Loc), t.heap = H1 → s.vm.Alike t.vm → post r u → B u t → H.size ≤ H1.size → (∀ q : Nat, q < H.size → ¬ A1 q → H1[q]? = H[q]?) → va_S A0 H0 H1 locs1 → W p l e R s m args below meth c H1 locs1 (cells + mc) (slots + ms) Q (F0 m (pc + 5) ls (.float r :: rest))) : W p l e R s m args below meth c H locs cells slots Q (F0 m pc ls st0) := by
  intro T hT X
  rcases hr T hT X with ⟨v, st₀, t, T', L, h0, X', hL, e1, e2, ⟨⟨r, u, hv, hp, hb⟩, hF⟩, st⟩ | ⟨q, st₀, t, T', L, E, ce, h0, X', hL, e1, e2, ⟨u, hp, hb, hF⟩, hce, hcv, hcl, st⟩
  · cases hv
    obtain ⟨k1, k2, k3⟩ := vx_keep h0 e1 hS hA hf hL hF
    obtain ⟨t2, a1, b1⟩ := kk r u t T'.heap (locs ++ L) e1.symm (by rw [← e2]; exact X'.warmed.alike) hp hb k1 k2 k3 T' rfl X'
    exact ⟨t2, st t2 a1, b1⟩
  · obtain ⟨k1, k2, k3⟩ := vx_keep h0 e1 hS hAX hf hL hF
    obtain ⟨t2, a1, b1⟩ := kx E ce q u t T'.heap (locs ++ L) e1.symm (by rw [← e2]; exact X'.warmed.alike) hp hb k1 k2 k3 (by rw [e1]; exact hce) hcv hcl T' rfl X'
    exact ⟨t2, st.trans a1, b1⟩
theorem vx_callFd {S SX : Type} {post : UInt64 → S → Prop} {px : SX → Prop} {B : S → State → Prop} {BX : String → SX → State → Prop} {AX : Nat → Prop} (hr : vx_Run5 p l e R s m args below meth c H locs cells slots mc ms (F0 m pc ls st0) rest (va_Qd post B A1 a) (vx_X px BX AX) free) (hS : va_S A0 H0 H locs) (hA : ∀ q, q < H.size → A1 q → A0 q) (hf : ∀ q, free q → A0 q) (hAX : ∀ q, q < H.size → AX q → A0 q)
    (kx : ∀ (E : String) (ce : Cell) (q9 : Addr) (u : SX) (t : State) (H1 : Heap) (locs1 : List Loc), t.heap = H1 → s.vm.Alike t.vm → px u → BX E u t → H.size ≤ H1.size → (∀ q : Nat, q < H.size → ¬ AX q → H1[q]? = H[q]?) → va_S A0 H0 H1 locs1 → H1[q9]? = some ce → ce.vm = .none → s.vm.findClass E = some ce.cls → vx_W p l e R s m args below meth c H1 locs1 (cells + mc) (slots + ms) Q (F0 m pc ls rest) q9)
    (kk : ∀ (r : UInt64) (u : S) (t : State) (H1 : Heap) (locs1 : List Loc), t.heap = H1 → s.vm.Alike t.vm → post r u → B u t → H.size ≤ H1.size → (∀ q : Nat, q < H.size → ¬ A1 q → H1[q]? = H[q]?) → va_S A0 H0 H1 locs1 → W p l e R s m args below meth c H1 locs1 (cells + mc) (slots + ms) Q (F0 m (pc + 5) ls (.double r :: rest))) : W p l e R s m args below meth c H locs cells slots Q (F0 m pc ls st0) := by
  intro T hT X
  rcases hr T hT X with ⟨v, st₀, t, T', L, h0, X', hL, e1, e2, ⟨⟨r, u, hv, hp, hb⟩, hF⟩, st⟩ | ⟨q, st₀, t, T', L, E, ce, h0, X', hL, e1, e2, ⟨u, hp, hb, hF⟩, hce, hcv, hcl, st⟩
  · cases hv
    obtain ⟨k1, k2, k3⟩ := vx_keep h0 e1 hS hA hf hL hF
    obtain ⟨t2, a1, b1⟩ := kk r u t T'.heap (locs ++ L) e1.symm (by rw [← e2]; exact X'.warmed.alike) hp hb k1 k2 k3 T' rfl X'
    exact ⟨t2, st t2 a1, b1⟩
  · obtain ⟨k1, k2, k3⟩ := vx_keep h0 e1 hS hAX hf hL hF
    obtain ⟨t2, a1, b1⟩ := kx E ce q u t T'.heap (locs ++ L) e1.symm (by rw [← e2]; exact X'.warmed.alike) hp hb k1 k2 k3 (by rw [e1]; exact hce) hcv hcl T' rfl X'
    exact ⟨t2, st.trans a1, b1⟩
end
/-! ===== END ===== -/
/-! ===== BEGIN by an interface, a method with a table of its own that may throw (follows va_callIFW, va_runFW) ===== -/
section
variable {p : Program} {l : Launch} {e : Env} {R : Room} {s : State} {m : MethodId} {args : Array Value} {below : List Frame} {meth : Method} {c : Code} {H : Heap} {locs : List Loc} {cells slots : Nat}
theorem vx_callIFW {T : State} (X : Stand p l e R s m args below meth c T locs cells slots) (hexec : p.tables.exec = Jvm.exec) {own C : String} {index count : Nat} {x y : MethodName} {bytes : ByteArray} {maxL : Nat} {ret : Option FieldType} {hh : List (Nat × Nat × Nat × Nat)}
    (hown : s.vm.findClass own = some m.cls) (hlink : (Cond.methodLink own index x).before args s = true) (hdecl : (Cond.declares x).before args s = true) (hface : (Cond.interfaceMethod x.cls x.cls x.name x.desc).before args s = true)
    (hsel : (Cond.selects C x y).before args s = true) (hinst : (Cond.instanceMethod y).before args s = true) (hpub : (Cond.publicMethod y).before args s = true) (hunh : (Cond.unhidden C x.name x.desc).before args s = true)
    (hcast : (Cond.castable C x.cls).before args s = true) (hcode : (Cond.codeWith y bytes maxL ret hh).before args s = true) (hx : x.cls ≠ "java/lang/invoke/MethodHandle" ∧ x.cls ≠ "java/lang/invoke/VarHandle")
    {W : Nat} {Pre : Pt → Array Value → Prop} {Post : Pt → Array Value → Option Value → Pt → Prop} {PostX : Pt → Array Value → Addr → Pt → Prop} (hK : vx_Back l R p e below s args y 5 W Pre Post PostX)
    {b : Addr} {cellB : Cell} {kB : Class} (hcell : T.heap[b]? = some cellB) (hobj : cellB.vm.isStatics = false) (hcls : s.vm.findClass C = some cellB.cls) (hkB : s.vm.classes[cellB.cls]? = some kB)
    {g : JFrame} (hg : g.method = m) (hsize : g.locals.size = c.maxLocals) {argsL rest : List Value} (hlen : ∀ sig, parseMethodDescriptor x.desc = some sig → argsL.length = sig.parameters.length)
    (hstack : g.stack = argsL.reverse ++ .ref b :: rest) (hW : 2 * g.monitorRoom + (rest.map fun v => v.category).sum ≤ W) (hdg : decode c.code g.pc = .ok (.invokeinterface index count, 5))
    (hpre : ∀ vm₁, s.WarmedH vm₁ → Pre ⟨T.setVm vm₁, locs, cells, slots⟩ (Value.ref b :: argsL).toArray) :
    (∃ (v : Option Value) (vm₁ : Vm) (B : Pt), s.WarmedH vm₁ ∧ Stand p l e R s m args below meth c B.U B.locs B.cells B.slots ∧ Post ⟨T.setVm vm₁, locs, cells, slots⟩ (Value.ref b :: argsL).toArray v B ∧
      ∀ target, Steps p.tables e below (B.U.setTop { g with pc := g.pc + 5, stack := v.toList ++ rest }) target → Steps p.tables e below (T.setTop g) target) ∨
    (∃ (q : Addr) (vm₁ : Vm) (B : Pt), s.WarmedH vm₁ ∧ Stand p l e R s m args below meth c B.U B.locs B.cells B.slots ∧ PostX ⟨T.setVm vm₁, locs, cells, slots⟩ (Value.ref b :: argsL).toArray q B ∧
      Steps p.tables e below (T.setTop g) ((B.U.setTop { g with stack := rest }).pushFrame (.throwing q))) := by
  obtain ⟨r0, r, hn, hrm, hstR, hsigR⟩ := Cond.declares_spec hdecl
  obtain ⟨cL, kL, r1, hcL, hkL, hiL, hfoundL, hn1⟩ := Cond.interfaceMethod_spec hface
  cases hn.symm.trans hn1
  have hr0cls : r0.cls = cL := Option.some.inj ((findClass_of_methodNamed hn).symm.trans hcL)
  obtain ⟨hnameR, hdescR⟩ := name_of_methodNamed hn hrm
  obtain ⟨mk, methM, hnamed, hmethM, -, habM⟩ := Cond.instanceMethod_spec hinst
  obtain ⟨c2, r2, m2, q1, q2, q3, q4, -⟩ := Cond.selects_spec hsel
  cases hcls.symm.trans q1
  cases hfoundL.symm.trans q2
  cases hnamed.symm.trans q3
  have hselP : selectMethod e.platform s.vm cellB.cls r0 = .method mk := by rw [Launch.admits_selectMethod X.admits]; exact q4
  have hpubM : hasFlag methM.accessFlags Acc.public_ = true := Cond.publicMethod_spec hnamed hmethM hpub
  have hway : ((cellB.cls :: s.vm.superclasses cellB.cls).any fun k => (declaredIn s.vm r.name r.desc k).any fun (_, z) => z.isPrivate || z.isStatic) = false := by
    rw [hnameR, hdescR]; exact Cond.unhidden_spec hcls hunh
  obtain ⟨c3, t3, w1, w2, w3⟩ := Cond.castable_spec hcast
  cases hcls.symm.trans w1
  cases hcL.symm.trans w2
  obtain ⟨vm₁, X₁, hstep₁⟩ := X.invokeinterface hexec hown hlink hn hrm hstR (by rw [hr0cls]; exact hkL) hiL hx (a := b) (cell := cellB) (kcell := kB) hcell
    (fun z h => by rw [h] at hobj; cases hobj) hkB (by rw [hr0cls]; exact w3) hselP hmethM hway hpubM habM (g := g) hg (argsL := argsL) (rest := rest) (hlen _ hsigR) hstack hdg
  rcases hK m meth c ⟨T.setVm vm₁, locs, cells, slots⟩ { g with stack := rest } (.invokeinterface index count) mk (Value.ref b :: argsL).toArray X₁ hg hsize hdg hW (X₁.named hnamed) (hpre vm₁ X₁.warmed) with ⟨v, B, X', hpost, hsteps⟩ | ⟨q, B, X', hpost, hsteps⟩
  · exact Or.inl ⟨v, vm₁, B, X₁.warmed, X', hpost, fun target h => hstep₁ _ fun acts => by rw [doInvoke_state]; exact hsteps.trans h⟩
  · exact Or.inr ⟨q, vm₁, B, X₁.warmed, X', hpost, hstep₁ _ fun acts => by rw [doInvoke_state]; exact hsteps⟩
theorem vx_runFW {x y : MethodName} {bytes cc : ByteArray} {maxL nL mc ms n index count : Nat} {ret : Option FieldType} {hh : List (Nat × Nat × Nat × Nat)} {ws : List Cond} {rm : Room} {Pc : Array Value → State → Prop} {Qc : Array Value → State → Outcome → State → Prop} {XC : String → State → State → Prop} {free : Addr → Prop} {Ts : List Cond} {own C : String} {cC : ClassId} {b : Addr} {As rest : List Value} {g : JFrame}
    (hat : ClassAt s C cC) (S : CallFix p m c cc nL s args Ts own) (hM : vx_Met l y ws rm Pc Qc XC mc ms free) (cw : va_CIW R s args own C index x y bytes maxL ret hh ws rm mc ms n) (hp : PreV s H C b Pc As)
    (hg : g.method = m) (hn : As.length = n) (hsize : g.locals.size = nL) (hstack : g.stack = As.reverse ++ .ref b :: rest) (hW : 2 * g.monitorRoom + (rest.map fun v => v.category).sum ≤ 8) (hdg : decode cc g.pc = .ok (.invokeinterface index count, 5)) (hf : cells + mc ≤ R.cells ∧ slots + ms ≤ R.slots) :
    vx_Run5 p l e R s m args below meth c H locs cells slots mc ms g rest (Qc (Value.ref b :: As).toArray) XC free := by
  obtain ⟨hrc, hrs, hfr, hlo, hws, hcw⟩ := cw.back
  have hini := cw.init
  have hK : vx_Back l R p e below s args y 5 8 (PreOf R mc ms Pc) (PostOf Qc mc ms free) (vx_Post XC mc ms free) := vx_backW (hh := hh) (bytes := bytes) (maxL := maxL) (ret := ret) hM hp.1 hrc hrs hfr hlo hws hcw (fun a' U hW => word_at hW (Or.inl (by first | rfl | simp [Cond.onTables, Cond.keeps, Cond.steady])) hini)
  obtain ⟨hx, hb, hml, ho, -⟩ := S
  obtain ⟨-, ⟨cellB, hcB, hoB, hclB⟩, hPc⟩ := hp
  obtain ⟨hfc, kB, hkB, -⟩ := hat
  cases hfc.symm.trans hclB
  intro T hT X
  rcases vx_callIFW X hx (C := C) (hh := hh) (bytes := bytes) (maxL := maxL) (ret := ret) ho cw.link cw.decl cw.face cw.sel cw.inst cw.pub cw.unh cw.cast cw.code cw.notMH hK (by rw [hT]; exact hcB) hoB hclB hkB hg (hsize.trans hml.symm) (argsL := As) (rest := rest) (fun sig h => hn.trans (cw.len sig h)) hstack hW (by rw [hb]; exact hdg)
    (fun vm₁ hW₁ => ⟨hf.1, hf.2, hPc (T.setVm vm₁) hT hW₁⟩) with ⟨v, vm₁, ⟨U', l2, c2, s2⟩, hW₁, X', ⟨g', mk, t, L, e1, e2, hq, h1, hL, h2, h3⟩, st⟩ | ⟨q, vm₁, ⟨U', l2, c2, s2⟩, hW₁, X', ⟨g', mk, t, L, E, ce, e1, e2, hq, hce, hcv, hcl, h1, hL, h2, h3⟩, st⟩
  · dsimp only [Pt.U, Pt.locs, Pt.cells, Pt.slots] at X' e1 e2 h1 h2 h3 st
    subst h1; subst h2; subst h3
    exact Or.inl ⟨v, (T.setVm vm₁).calling g' mk (Value.ref b :: As).toArray, t, U', L, hT, X', hL, e1, e2, hq, st⟩
  · dsimp only [Pt.U, Pt.locs, Pt.cells, Pt.slots] at X' e1 e2 h1 h2 h3 st hcl
    subst h1; subst h2; subst h3
    exact Or.inr ⟨q, (T.setVm vm₁).calling g' mk (Value.ref b :: As).toArray, t, U', L, E, ce, hT, X', hL, e1, e2, hq, hce, hcv, vx_cls hW₁ hcl, st⟩
end
/-! ===== END ===== -/
/-! ===== BEGIN .. of methods that hand back an object of the pool ===== -/
section
variable {p : Program} {l : Launch} {e : Env} {R : Room} {s : State} {m : MethodId} {args : Array Value} {below : List Frame} {meth : Method} {c : Code} {H : Heap} {locs : List Loc} {cells slots : Nat} {Q : State → Prop}
variable {mc ms : Nat} {free : Addr → Prop} {A0 A1 : Nat → Prop} {H0 : Heap} {a : Array Value} {pc : Nat} {ls : Array Slot} {st0 rest : List Value}
theorem vx_callq {S SX : Type} {post : Option Nat → S → Prop} {px : SX → Prop} {B : S → State → Prop} {BX : String → SX → State → Prop} {AX : Nat → Prop} (hr : vx_Run p l e R s m args below meth c H locs cells slots mc ms (F0 m pc ls st0) rest (va_Qq post B A1 a) (vx_X px BX AX) free) (hS : va_S A0 H0 H locs) (hA : ∀ q, q < H.size → A1 q → A0 q) (hf : ∀ q, free q → A0 q) (hAX : ∀ q, q < H.size → AX q → A0 q)
    (kx : ∀ (E : String) (ce : Cell) (q9 : Addr) (u : SX) (t : State) (H1 : Heap) (locs1 : List Loc), t.heap = H1 → s.vm.Alike t.vm → px u → BX E u t → H.size ≤ H1.size → (∀ q : Nat, q < H.size → ¬ AX q → H1[q]? = H[q]?) → va_S A0 H0 H1 locs1 → H1[q9]? = some ce → ce.vm = .none → s.vm.findClass E = some ce.cls → vx_W p l e R s m args below meth c H1 locs1 (cells + mc) (slots + ms) Q (F0 m pc ls rest) q9)
    (kk : ∀ (r : Option Nat) (u : S) (t : State) (H1 : Heap) (locs1 : List Loc), t.heap = H1 → s.vm.Alike t.vm → post r u → B u t → H.size ≤ H1.size → (∀ q : Nat, q < H.size → ¬ A1 q → H1[q]? = H[q]?) → va_S A0 H0 H1 locs1 → W p l e R s m args below meth c H1 locs1 (cells + mc) (slots + ms) Q (F0 m (pc + 3) ls (va_rf r :: rest))) : W p l e R s m args below meth c H locs cells slots Q (F0 m pc ls st0) := by
  intro T hT X
  rcases hr T hT X with ⟨v, st₀, t, T', L, h0, X', hL, e1, e2, ⟨⟨r, u, hv, hp, hb⟩, hF⟩, st⟩ | ⟨q, st₀, t, T', L, E, ce, h0, X', hL, e1, e2, ⟨u, hp, hb, hF⟩, hce, hcv, hcl, st⟩
  · cases hv
    obtain ⟨k1, k2, k3⟩ := vx_keep h0 e1 hS hA hf hL hF
    obtain ⟨t2, a1, b1⟩ := kk r u t T'.heap (locs ++ L) e1.symm (by rw [← e2]; exact X'.warmed.alike) hp hb k1 k2 k3 T' rfl X'
    exact ⟨t2, st t2 a1, b1⟩
  · obtain ⟨k1, k2, k3⟩ := vx_keep h0 e1 hS hAX hf hL hF
    obtain ⟨t2, a1, b1⟩ := kx E ce q u t T'.heap (locs ++ L) e1.symm (by rw [← e2]; exact X'.warmed.alike) hp hb k1 k2 k3 (by rw [e1]; exact hce) hcv hcl T' rfl X'
    exact ⟨t2, st.trans a1, b1⟩
end
/-! ===== END ===== -/
/-! ===== BEGIN .. a constant ===== -/
section
variable {p : Program} {l : Launch} {e : Env} {R : Room} {s : State} {m : MethodId} {args : Array Value} {below : List Frame} {meth : Method} {c : Code} {H : Heap} {locs : List Loc} {cells slots : Nat} {Q : State → Prop}
variable {mc ms : Nat} {free : Addr → Prop} {A0 A1 : Nat → Prop} {H0 : Heap} {a : Array Value} {pc : Nat} {ls : Array Slot} {st0 rest : List Value}
theorem vx_calle {ad : Nat → Nat} {S SX : Type} {post : Option Nat → S → Prop} {px : SX → Prop} {B : S → State → Prop} {BX : String → SX → State → Prop} {AX : Nat → Prop} (hr : vx_Run p l e R s m args below meth c H locs cells slots mc ms (F0 m pc ls st0) rest (va_Qe ad post B A1 a) (vx_X px BX AX) free) (hS : va_S A0 H0 H locs) (hA : ∀ q, q < H.size → A1 q → A0 q) (hf : ∀ q, free q → A0 q) (hAX : ∀ q, q < H.size → AX q → A0 q)
    (kx : ∀ (E : String) (ce : Cell) (q9 : Addr) (u : SX) (t : State) (H1 : Heap) (locs1 : List Loc), t.heap = H1 → s.vm.Alike t.vm → px u → BX E u t → H.size ≤ H1.size → (∀ q : Nat, q < H.size → ¬ AX q → H1[q]? = H[q]?) → va_S A0 H0 H1 locs1 → H1[q9]? = some ce → ce.vm = .none → s.vm.findClass E = some ce.cls → vx_W p l e R s m args below meth c H1 locs1 (cells + mc) (slots + ms) Q (F0 m pc ls rest) q9)
    (kk : ∀ (r : Option Nat) (u : S) (t : State) (H1 : Heap) (locs1 : List Loc), t.heap = H1 → s.vm.Alike t.vm → post r u → B u t → H.size ≤ H1.size → (∀ q : Nat, q < H.size → ¬ A1 q → H1[q]? = H[q]?) → va_S A0 H0 H1 locs1 → W p l e R s m args below meth c H1 locs1 (cells + mc) (slots + ms) Q (F0 m (pc + 3) ls (va_re ad r :: rest))) : W p l e R s m args below meth c H locs cells slots Q (F0 m pc ls st0) := by
  intro T hT X
  rcases hr T hT X with ⟨v, st₀, t, T', L, h0, X', hL, e1, e2, ⟨⟨r, u, hv, hp, hb⟩, hF⟩, st⟩ | ⟨q, st₀, t, T', L, E, ce, h0, X', hL, e1, e2, ⟨u, hp, hb, hF⟩, hce, hcv, hcl, st⟩
  · cases hv
    obtain ⟨k1, k2, k3⟩ := vx_keep h0 e1 hS hA hf hL hF
    obtain ⟨t2, a1, b1⟩ := kk r u t T'.heap (locs ++ L) e1.symm (by rw [← e2]; exact X'.warmed.alike) hp hb k1 k2 k3 T' rfl X'
    exact ⟨t2, st t2 a1, b1⟩
  · obtain ⟨k1, k2, k3⟩ := vx_keep h0 e1 hS hAX hf hL hF
    obtain ⟨t2, a1, b1⟩ := kx E ce q u t T'.heap (locs ++ L) e1.symm (by rw [← e2]; exact X'.warmed.alike) hp hb k1 k2 k3 (by rw [e1]; exact hce) hcv hcl T' rfl X'
    exact ⟨t2, st.trans a1, b1⟩
end
/-! ===== END ===== -/
/-! ===== BEGIN .. by an interface, an object ===== -/
section
variable {p : Program} {l : Launch} {e : Env} {R : Room} {s : State} {m : MethodId} {args : Array Value} {below : List Frame} {meth : Method} {c : Code} {H : Heap} {locs : List Loc} {cells slots : Nat} {Q : State → Prop}
variable {mc ms : Nat} {free : Addr → Prop} {A0 A1 : Nat → Prop} {H0 : Heap} {a : Array Value} {pc : Nat} {ls : Array Slot} {st0 rest : List Value}
theorem vx_callFq {S SX : Type} {post : Option Nat → S → Prop} {px : SX → Prop} {B : S → State → Prop} {BX : String → SX → State → Prop} {AX : Nat → Prop} (hr : vx_Run5 p l e R s m args below meth c H locs cells slots mc ms (F0 m pc ls st0) rest (va_Qq post B A1 a) (vx_X px BX AX) free) (hS : va_S A0 H0 H locs) (hA : ∀ q, q < H.size → A1 q → A0 q) (hf : ∀ q, free q → A0 q) (hAX : ∀ q, q < H.size → AX q → A0 q)
    (kx : ∀ (E : String) (ce : Cell) (q9 : Addr) (u : SX) (t : State) (H1 : Heap) (locs1 : List Loc), t.heap = H1 → s.vm.Alike t.vm → px u → BX E u t → H.size ≤ H1.size → (∀ q : Nat, q < H.size → ¬ AX q → H1[q]? = H[q]?) → va_S A0 H0 H1 locs1 → H1[q9]? = some ce → ce.vm = .none → s.vm.findClass E = some ce.cls → vx_W p l e R s m args below meth c H1 locs1 (cells + mc) (slots + ms) Q (F0 m pc ls rest) q9)
    (kk : ∀ (r : Option Nat) (u : S) (t : State) (H1 : Heap) (locs1 : List Loc), t.heap = H1 → s.vm.Alike t.vm → post r u → B u t → H.size ≤ H1.size → (∀ q : Nat, q < H.size → ¬ A1 q → H1[q]? = H[q]?) → va_S A0 H0 H1 locs1 → W p l e R s m args below meth c H1 locs1 (cells + mc) (slots + ms) Q (F0 m (pc + 5) ls (va_rf r :: rest))) : W p l e R s m args below meth c H locs cells slots Q (F0 m pc ls st0) := by
  intro T hT X
  rcases hr T hT X with ⟨v, st₀, t, T', L, h0, X', hL, e1, e2, ⟨⟨r, u, hv, hp, hb⟩, hF⟩, st⟩ | ⟨q, st₀, t, T', L, E, ce, h0, X', hL, e1, e2, ⟨u, hp, hb, hF⟩, hce, hcv, hcl, st⟩
  · cases hv
    obtain ⟨k1, k2, k3⟩ := vx_keep h0 e1 hS hA hf hL hF
    obtain ⟨t2, a1, b1⟩ := kk r u t T'.heap (locs ++ L) e1.symm (by rw [← e2]; exact X'.warmed.alike) hp hb k1 k2 k3 T' rfl X'
    exact ⟨t2, st t2 a1, b1⟩
  · obtain ⟨k1, k2, k3⟩ := vx_keep h0 e1 hS hAX hf hL hF
    obtain ⟨t2, a1, b1⟩ := kx E ce q u t T'.heap (locs ++ L) e1.symm (by rw [← e2]; exact X'.warmed.alike) hp hb k1 k2 k3 (by rw [e1]; exact hce) hcv hcl T' rfl X'
    exact ⟨t2, st.trans a1, b1⟩
end
/-! ===== END ===== -/
/-! ===== BEGIN .. by an interface, a constant ===== -/
section
variable {p : Program} {l : Launch} {e : Env} {R : Room} {s : State} {m : MethodId} {args : Array Value} {below : List Frame} {meth : Method} {c : Code} {H : Heap} {locs : List Loc} {cells slots : Nat} {Q : State → Prop}
variable {mc ms : Nat} {free : Addr → Prop} {A0 A1 : Nat → Prop} {H0 : Heap} {a : Array Value} {pc : Nat} {ls : Array Slot} {st0 rest : List Value}
theorem vx_callFe {ad : Nat → Nat} {S SX : Type} {post : Option Nat → S → Prop} {px : SX → Prop} {B : S → State → Prop} {BX : String → SX → State → Prop} {AX : Nat → Prop} (hr : vx_Run5 p l e R s m args below meth c H locs cells slots mc ms (F0 m pc ls st0) rest (va_Qe ad post B A1 a) (vx_X px BX AX) free) (hS : va_S A0 H0 H locs) (hA : ∀ q, q < H.size → A1 q → A0 q) (hf : ∀ q, free q → A0 q) (hAX : ∀ q, q < H.size → AX q → A0 q)
    (kx : ∀ (E : String) (ce : Cell) (q9 : Addr) (u : SX) (t : State) (H1 : Heap) (locs1 : List Loc), t.heap = H1 → s.vm.Alike t.vm → px u → BX E u t → H.size ≤ H1.size → (∀ q : Nat, q < H.size → ¬ AX q → H1[q]? = H[q]?) → va_S A0 H0 H1 locs1 → H1[q9]? = some ce → ce.vm = .none → s.vm.findClass E = some ce.cls → vx_W p l e R s m args below meth c H1 locs1 (cells + mc) (slots + ms) Q (F0 m pc ls rest) q9)
    (kk : ∀ (r : Option Nat) (u : S) (t : State) (H1 : Heap) (locs1 : List Loc), t.heap = H1 → s.vm.Alike t.vm → post r u → B u t → H.size ≤ H1.size → (∀ q : Nat, q < H.size → ¬ A1 q → H1[q]? = H[q]?) → va_S A0 H0 H1 locs1 → W p l e R s m args below meth c H1 locs1 (cells + mc) (slots + ms) Q (F0 m (pc + 5) ls (va_re ad r :: rest))) : W p l e R s m args below meth c H locs cells slots Q (F0 m pc ls st0) := by
  intro T hT X
  rcases hr T hT X with ⟨v, st₀, t, T', L, h0, X', hL, e1, e2, ⟨⟨r, u, hv, hp, hb⟩, hF⟩, st⟩ | ⟨q, st₀, t, T', L, E, ce, h0, X', hL, e1, e2, ⟨u, hp, hb, hF⟩, hce, hcv, hcl, st⟩
  · cases hv
    obtain ⟨k1, k2, k3⟩ := vx_keep h0 e1 hS hA hf hL hF
    obtain ⟨t2, a1, b1⟩ := kk r u t T'.heap (locs ++ L) e1.symm (by rw [← e2]; exact X'.warmed.alike) hp hb k1 k2 k3 T' rfl X'
    exact ⟨t2, st t2 a1, b1⟩
  · obtain ⟨k1, k2, k3⟩ := vx_keep h0 e1 hS hAX hf hL hF
    obtain ⟨t2, a1, b1⟩ := kx E ce q u t T'.heap (locs ++ L) e1.symm (by rw [← e2]; exact X'.warmed.alike) hp hb k1 k2 k3 (by rw [e1]; exact hce) hcv hcl T' rfl X'
    exact ⟨t2, st.trans a1, b1⟩
end
/-! ===== END ===== -/
/-! ===== BEGIN what the machine throws by itself: null at a field, at athrow ===== -/
section VXM2
variable {p : Program} {l : Launch} {e : Env} {R : Room} {s : State} {m : MethodId} {args : Array Value} {below : List Frame} {meth : Method} {c : Code} {H : Heap} {locs : List Loc} {cells slots : Nat}
variable {Q : State → Prop} {cc : ByteArray} {pc : Nat} {ls : Array Slot} {rest : List Value}
theorem vx_getfN {D cl tys} {own ref C : String} {T : u_T} {N ci index : Nat} {Ts : List Cond} (hexec : p.tables.exec = Jvm.exec) (hb : c.code = cc) (hts : ∀ w ∈ Ts, w.before args s = true) (hin : ∀ w ∈ u_ws C T N, w ∈ Ts) (hown : s.vm.findClass own = some m.cls) (hK : va_K D cl tys s) (hc : cl[ci]? = some (C, T, N)) (k : Nat) (hk : k < N) (hlink : (Cond.fieldLink own index ref (T k).2.1 (T k).2.2.1).before args s = true) (hsame : ∀ x, s.fieldFound? (T k).1 (T k).2.1 (T k).2.2.1 = some x → s.fieldFound? ref (T k).2.1 (T k).2.2.1 = some x) (hdg : decode cc pc = .ok (.getfield index, 3)) (kk : vx_NoteN p l e R s m args below meth c H locs cells slots Q (F0 m pc ls rest)) : W p l e R s m args below meth c H locs cells slots Q (F0 m pc ls (.null :: rest)) := by
  obtain ⟨hS, hfc, kC, hkC, -⟩ := hK.1 ci _ hc
  obtain ⟨cf, kf, fi, f, hi, -⟩ := hS k hk
  intro U hU X
  obtain ⟨vm', X1, st1⟩ := X.getfieldNull hexec hown hlink (hsame _ hi) (u_facts hfc hkC (u_lays hts hin hk) hi).1 (g := F0 m pc ls (.null :: rest)) rfl (rest := rest) rfl (by rw [hb]; exact hdg)
  obtain ⟨t, st, q⟩ := kk (U.setVm vm') hU X1
  exact ⟨t, st1 t st, q⟩
theorem vx_getfNN {D cl tys} {own ref C host : String} {T : u_T} {N ci index : Nat} {Ts : List Cond} (hexec : p.tables.exec = Jvm.exec) (hb : c.code = cc) (hts : ∀ w ∈ Ts, w.before args s = true) (hin : ∀ w ∈ u_ws C T N, w ∈ Ts) (hown : s.vm.findClass own = some m.cls) (hK : va_K D cl tys s) (hc : cl[ci]? = some (C, T, N)) (k : Nat) (hk : k < N) (hlink : (Cond.fieldLinkNest own index ref (T k).2.1 (T k).2.2.1 host).before args s = true) (hsame : ∀ x, s.fieldFound? (T k).1 (T k).2.1 (T k).2.2.1 = some x → s.fieldFound? ref (T k).2.1 (T k).2.2.1 = some x) (hdg : decode cc pc = .ok (.getfield index, 3)) (kk : vx_NoteN p l e R s m args below meth c H locs cells slots Q (F0 m pc ls rest)) : W p l e R s m args below meth c H locs cells slots Q (F0 m pc ls (.null :: rest)) := by
  obtain ⟨hS, hfc, kC, hkC, -⟩ := hK.1 ci _ hc
  obtain ⟨cf, kf, fi, f, hi, -⟩ := hS k hk
  intro U hU X
  obtain ⟨vm', X1, st1⟩ := X.getfieldNullNest hexec hown hlink (hsame _ hi) (u_facts hfc hkC (u_lays hts hin hk) hi).1 (g := F0 m pc ls (.null :: rest)) rfl (rest := rest) rfl (by rw [hb]; exact hdg)
  obtain ⟨t, st, q⟩ := kk (U.setVm vm') hU X1
  exact ⟨t, st1 t st, q⟩
theorem vx_putfN {D cl tys} {own ref C : String} {T : u_T} {N ci index : Nat} {Ts : List Cond} (hexec : p.tables.exec = Jvm.exec) (hb : c.code = cc) (hts : ∀ w ∈ Ts, w.before args s = true) (hin : ∀ w ∈ u_ws C T N, w ∈ Ts) (hown : s.vm.findClass own = some m.cls) (hK : va_K D cl tys s) (hc : cl[ci]? = some (C, T, N)) (k : Nat) (hk : k < N) (hlink : (Cond.fieldLink own index ref (T k).2.1 (T k).2.2.1).before args s = true) (hsame : ∀ x, s.fieldFound? (T k).1 (T k).2.1 (T k).2.2.1 = some x → s.fieldFound? ref (T k).2.1 (T k).2.2.1 = some x) (hfin : (T k).2.2.2 = false) {v : Value} (hdg : decode cc pc = .ok (.putfield index, 3)) (kk : vx_NoteN p l e R s m args below meth c H locs cells slots Q (F0 m pc ls rest)) : W p l e R s m args below meth c H locs cells slots Q (F0 m pc ls (v :: .null :: rest)) := by
  obtain ⟨hS, hfc, kC, hkC, -⟩ := hK.1 ci _ hc
  obtain ⟨cf, kf, fi, f, hi, -⟩ := hS k hk
  have hlay := hts _ (hin _ (u_in_lay hk))
  unfold u_lay at hlay
  rw [if_neg (by rw [hfin]; decide)] at hlay
  obtain ⟨c9, k9, cf9, kf9, fi9, f9, -, -, hi9, hst9, hnf9, -⟩ := Cond.lays_spec hlay
  cases hi.symm.trans hi9
  intro U hU X
  obtain ⟨vm', X1, st1⟩ := X.putfieldNull hexec hown hlink (hsame _ hi) hst9 hnf9 (g := F0 m pc ls (v :: .null :: rest)) rfl (v := v) (rest := rest) rfl (by rw [hb]; exact hdg)
  obtain ⟨t, st, q⟩ := kk (U.setVm vm') hU X1
  exact ⟨t, st1 t st, q⟩
theorem vx_putfNN {D cl tys} {own ref C host : String} {T : u_T} {N ci index : Nat} {Ts : List Cond} (hexec : p.tables.exec = Jvm.exec) (hb : c.code = cc) (hts : ∀ w ∈ Ts, w.before args s = true) (hin : ∀ w ∈ u_ws C T N, w ∈ Ts) (hown : s.vm.findClass own = some m.cls) (hK : va_K D cl tys s) (hc : cl[ci]? = some (C, T, N)) (k : Nat) (hk : k < N) (hlink : (Cond.fieldLinkNest own index ref (T k).2.1 (T k).2.2.1 host).before args s = true) (hsame : ∀ x, s.fieldFound? (T k).1 (T k).2.1 (T k).2.2.1 = some x → s.fieldFound? ref (T k).2.1 (T k).2.2.1 = some x) (hfin : (T k).2.2.2 = false) {v : Value} (hdg : decode cc pc = .ok (.putfield index, 3)) (kk : vx_NoteN p l e R s m args below meth c H locs cells slots Q (F0 m pc ls rest)) : W p l e R s m args below meth c H locs cells slots Q (F0 m pc ls (v :: .null :: rest)) := by
  obtain ⟨hS, hfc, kC, hkC, -⟩ := hK.1 ci _ hc
  obtain ⟨cf, kf, fi, f, hi, -⟩ := hS k hk
  have hlay := hts _ (hin _ (u_in_lay hk))
  unfold u_lay at hlay
  rw [if_neg (by rw [hfin]; decide)] at hlay
  obtain ⟨c9, k9, cf9, kf9, fi9, f9, -, -, hi9, hst9, hnf9, -⟩ := Cond.lays_spec hlay
  cases hi.symm.trans hi9
  intro U hU X
  obtain ⟨vm', X1, st1⟩ := X.putfieldNullNest hexec hown hlink (hsame _ hi) hst9 hnf9 (g := F0 m pc ls (v :: .null :: rest)) rfl (v := v) (rest := rest) rfl (by rw [hb]; exact hdg)
  obtain ⟨t, st, q⟩ := kk (U.setVm vm') hU X1
  exact ⟨t, st1 t st, q⟩
theorem vx_athrowN (hexec : p.tables.exec = Jvm.exec) (hb : c.code = cc) (hdg : decode cc pc = .ok (.athrow, 1)) (k : vx_NoteN p l e R s m args below meth c H locs cells slots Q (F0 m pc ls rest)) : W p l e R s m args below meth c H locs cells slots Q (F0 m pc ls (.null :: rest)) := by
  intro T hT X
  obtain ⟨t, st, q⟩ := k T hT X
  exact ⟨t, X.athrowNull hexec (g := F0 m pc ls (.null :: rest)) rfl (rest := rest) rfl (by rw [hb]; exact hdg) t st, q⟩
end VXM2
/-! ===== END ===== -/
end
section
/-! THE INTERPRETER: a program of numbered methods; cells are known by their places (numbers in the order in which they came), not by their addresses. -/
abbrev zK : Type := List (Nat × Nat)
abbrev zS : Type := zK × (Nat → Nat → Int32) × (Nat → Nat → Option Nat) × (Nat → Nat → Int64) × Nat × Nat
abbrev zLs : Type := List (Option Value)
abbrev zI : Type := Instr × Nat × Nat × Nat × List Nat
/-- name, bytes, locals, return type, handlers (start, end, where, which class), its code, frames, words -/
abbrev zM : Type := MethodName × ByteArray × Nat × Option FieldType × List (Nat × Nat × Nat × Nat) × List (Nat × zI) × Nat × Nat
abbrev zO : Type := Option Value ⊕ Nat
abbrev zmN (q : zM) : MethodName := q.1
abbrev zmB (q : zM) : ByteArray := q.2.1
abbrev zmL (q : zM) : Nat := q.2.2.1
abbrev zmR (q : zM) : Option FieldType := q.2.2.2.1
abbrev zmH (q : zM) : List (Nat × Nat × Nat × Nat) := q.2.2.2.2.1
abbrev zmC (q : zM) : List (Nat × zI) := q.2.2.2.2.2.1
abbrev zmF (q : zM) : Nat := q.2.2.2.2.2.2.1
abbrev zmW (q : zM) : Nat := q.2.2.2.2.2.2.2
def zlk : List (Nat × zI) → Nat → Option zI
  | [], _ => none
  | e :: r, pc => if e.1 = pc then some e.2 else zlk r pc
def zg (ls : zLs) (k : Nat) : Option Value := match ls[k]? with
  | some (some v) => some v
  | _ => none
def zc2 : Option Value → Bool
  | some v => v.category == 2
  | none => false
def zkl (ls : zLs) (i : Nat) : zLs := match i with
  | 0 => ls
  | k + 1 => if zc2 (ls.getD k none) then ls.set k none else ls
def zs1 (ls : zLs) (i : Nat) (v : Value) : zLs := (zkl ls i).set i (some v)
def zs2 (ls : zLs) (i : Nat) (v : Value) : zLs := ((zkl ls i).set i (some v)).set (i + 1) none
def zent : List Value → zLs
  | [] => []
  | v :: vs => if v.category = 2 then some v :: none :: zent vs else some v :: zent vs
/-- a method's first locals -/
def zfst (vs : List Value) (n : Nat) : zLs := zent vs ++ List.replicate (n - (zent vs).length) none
def zup {α : Type} (h : Nat → Nat → α) (p f : Nat) (v : α) : Nat → Nat → α := fun a j => if a = p ∧ j = f then v else h a j
def zupR {α : Type} (h : Nat → Nat → α) (p : Nat) (v : Nat → α) : Nat → Nat → α := fun a => if a = p then v else h a
/-- what a field of that type holds -/
def zfv (ty : FieldType) (σ : zS) (p f : Nat) : Value := match ty with
  | .object _ => va_rf (σ.2.2.1 p f)
  | .array _ => va_rf (σ.2.2.1 p f)
  | .long => .long (σ.2.2.2.1 p f)
  | _ => .int (σ.2.1 p f)
/-- a field gets a value -/
def zfp (σ : zS) (p f : Nat) (v : Value) : Option zS := match v with
  | .int x => some (σ.1, zup σ.2.1 p f x, σ.2.2)
  | .long x => some (σ.1, σ.2.1, σ.2.2.1, zup σ.2.2.2.1 p f x, σ.2.2.2.2)
  | .ref q => some (σ.1, σ.2.1, zup σ.2.2.1 p f (some q), σ.2.2.2)
  | .null => some (σ.1, σ.2.1, zup σ.2.2.1 p f none, σ.2.2.2)
  | _ => none
/-- a new cell of a kind, n slots -/
def znw (σ : zS) (k n : Nat) : zS := (σ.1 ++ [(k, n)], zupR σ.2.1 σ.1.length (fun _ => 0), zupR σ.2.2.1 σ.1.length (fun _ => none), zupR σ.2.2.2.1 σ.1.length (fun _ => 0), σ.2.2.2.2.1 + 1, σ.2.2.2.2.2 + n)
/-- an object is thrown: a cell of six slots that nobody will ask for -/
def zthr (σ : zS) : zS := (σ.1, σ.2.1, σ.2.2.1, σ.2.2.2.1, σ.2.2.2.2.1 + 1, σ.2.2.2.2.2 + 6)
def zcat (hs : List (Nat × Nat × Nat × Nat)) (pc E : Nat) : Option Nat := match hs with
  | [] => none
  | x :: r => if x.1 ≤ pc ∧ pc < x.2.1 ∧ x.2.2.2 = E then some x.2.2.1 else zcat r pc E
def zin (i : Int32) (n : Nat) : Bool := decide (¬ (i < 0 ∨ n ≤ i.toNatClampNeg))
abbrev zR : Type := Nat → Nat → zLs → List Value → zS → Option (zO × zS)
/-- behind a call: it returned, or threw -/
def zback (P : Nat → zM) (rec : zR) (y pc : Nat) (ls : zLs) (rest : List Value) : Option (zO × zS) → Option (zO × zS)
  | none => none
  | some (.inl v, σ) => rec y (pc + 3) ls (v.toList ++ rest) σ
  | some (.inr E, σ) => match zcat (zmH (P y)) pc E with
    | none => some (.inr E, σ)
    | some h => match zlk (zmC (P y)) h with
      | some (.astore k, _) => if k < ls.length then rec y (h + 2) ((zkl ls k).set k none) [] σ else none
      | some (.astore_n k, _) => if (k : Nat) < ls.length then rec y (h + 1) ((zkl ls k).set k none) [] σ else none
      | _ => none
def zlow (rest : List Value) : Bool := decide ((rest.map fun v => v.category).sum ≤ 8)
/-- one instruction -/
def zst (P : Nat → zM) (ft : Nat → List FieldType) (ro : Nat → Int32 → zS → Option (zO × zS)) (rec : zR) (y pc : Nat) (ls : zLs) (st : List Value) (σ : zS) (e : zI) : Option (zO × zS) :=
  match e with
  | (i, r1, r2, r3, tg) => match i with
  | .aload k => match zg ls k with
    | some (.ref a) => rec y (pc + 2) ls (.ref a :: st) σ
    | some .null => rec y (pc + 2) ls (.null :: st) σ
    | _ => none
  | .aload_n k => match zg ls k with
    | some (.ref a) => rec y (pc + 1) ls (.ref a :: st) σ
    | some .null => rec y (pc + 1) ls (.null :: st) σ
    | _ => none
  | .iload k => match zg ls k with
    | some (.int x) => rec y (pc + 2) ls (.int x :: st) σ
    | _ => none
  | .iload_n k => match zg ls k with
    | some (.int x) => rec y (pc + 1) ls (.int x :: st) σ
    | _ => none
  | .lload k => match zg ls k with
    | some (.long x) => rec y (pc + 2) ls (.long x :: st) σ
    | _ => none
  | .lload_n k => match zg ls k with
    | some (.long x) => rec y (pc + 1) ls (.long x :: st) σ
    | _ => none
  | .astore k => if k < ls.length then match st with
    | .ref a :: r => rec y (pc + 2) (zs1 ls k (.ref a)) r σ
    | .null :: r => rec y (pc + 2) (zs1 ls k .null) r σ
    | _ => none else none
  | .astore_n k => if (k : Nat) < ls.length then match st with
    | .ref a :: r => rec y (pc + 1) (zs1 ls k (.ref a)) r σ
    | .null :: r => rec y (pc + 1) (zs1 ls k .null) r σ
    | _ => none else none
  | .istore k => if k < ls.length then match st with
    | .int x :: r => rec y (pc + 2) (zs1 ls k (.int x)) r σ
    | _ => none else none
  | .istore_n k => if (k : Nat) < ls.length then match st with
    | .int x :: r => rec y (pc + 1) (zs1 ls k (.int x)) r σ
    | _ => none else none
  | .lstore k => if k + 1 < ls.length then match st with
    | .long x :: r => rec y (pc + 2) (zs2 ls k (.long x)) r σ
    | _ => none else none
  | .lstore_n k => if (k : Nat) + 1 < ls.length then match st with
    | .long x :: r => rec y (pc + 1) (zs2 ls k (.long x)) r σ
    | _ => none else none
  | .iinc k n => if k < ls.length then match zg ls k with
    | some (.int x) => rec y (pc + 3) (zs1 ls k (.int (x + Int32.ofInt n))) st σ
    | _ => none else none
  | .iconst n => rec y (pc + 1) ls (.int (Int32.ofInt n) :: st) σ
  | .bipush n => rec y (pc + 2) ls (.int (Int8.ofInt n).toInt32 :: st) σ
  | .sipush n => rec y (pc + 3) ls (.int (Int16.ofInt n).toInt32 :: st) σ
  | .lconst n => rec y (pc + 1) ls (.long (Int64.ofNat n) :: st) σ
  | .ldc _ => rec y (pc + 2) ls (.int (Int32.ofNat r1) :: st) σ
  | .ldc2_w _ => rec y (pc + 3) ls (.long (Int64.ofNat r1) :: st) σ
  | .aconst_null => rec y (pc + 1) ls (.null :: st) σ
  | .pop => match st with
    | v :: r => if v.category = 1 then rec y (pc + 1) ls r σ else none
    | _ => none
  | .dup => match st with
    | v :: r => if v.category = 1 then rec y (pc + 1) ls (v :: v :: r) σ else none
    | _ => none
  | .dup2 => match st with
    | v :: w :: r => if v.category = 1 ∧ w.category = 1 then rec y (pc + 1) ls (v :: w :: v :: w :: r) σ else none
    | _ => none
  | .iadd => match st with
    | .int b :: .int a :: r => rec y (pc + 1) ls (.int (a + b) :: r) σ
    | _ => none
  | .isub => match st with
    | .int b :: .int a :: r => rec y (pc + 1) ls (.int (a - b) :: r) σ
    | _ => none
  | .imul => match st with
    | .int b :: .int a :: r => rec y (pc + 1) ls (.int (a * b) :: r) σ
    | _ => none
  | .idiv => match st with
    | .int b :: .int a :: r => if b = 0 then none else rec y (pc + 1) ls (.int (a / b) :: r) σ
    | _ => none
  | .irem => match st with
    | .int b :: .int a :: r => if b = 0 then none else rec y (pc + 1) ls (.int (a - a / b * b) :: r) σ
    | _ => none
  | .iand => match st with
    | .int b :: .int a :: r => rec y (pc + 1) ls (.int (a &&& b) :: r) σ
    | _ => none
  | .ixor => match st with
    | .int b :: .int a :: r => rec y (pc + 1) ls (.int (a ^^^ b) :: r) σ
    | _ => none
  | .ishr => match st with
    | .int b :: .int a :: r => rec y (pc + 1) ls (.int (a >>> (b &&& 31)) :: r) σ
    | _ => none
  | .ishl => match st with
    | .int b :: .int a :: r => rec y (pc + 1) ls (.int (a <<< (b &&& 31)) :: r) σ
    | _ => none
  | .ineg => match st with
    | .int a :: r => rec y (pc + 1) ls (.int (-a) :: r) σ
    | _ => none
  | .i2l => match st with
    | .int a :: r => rec y (pc + 1) ls (.long a.toInt64 :: r) σ
    | _ => none
  | .i2b => match st with
    | .int a :: r => rec y (pc + 1) ls (.int a.toInt8.toInt32 :: r) σ
    | _ => none
  | .ladd => match st with
    | .long b :: .long a :: r => rec y (pc + 1) ls (.long (a + b) :: r) σ
    | _ => none
  | .lmul => match st with
    | .long b :: .long a :: r => rec y (pc + 1) ls (.long (a * b) :: r) σ
    | _ => none
  | .lcmp => match st with
    | .long b :: .long a :: r => rec y (pc + 1) ls (.int (lg_cmp a b) :: r) σ
    | _ => none
  | .goto _ => rec y r1 ls st σ
  | .ifCond cc _ => match st with
    | .int x :: r => match cc with
      | .eq => if x = 0 then rec y r1 ls r σ else rec y (pc + 3) ls r σ
      | .ne => if x = 0 then rec y (pc + 3) ls r σ else rec y r1 ls r σ
      | .lt => if x < 0 then rec y r1 ls r σ else rec y (pc + 3) ls r σ
      | .ge => if 0 ≤ x then rec y r1 ls r σ else rec y (pc + 3) ls r σ
      | .gt => if 0 < x then rec y r1 ls r σ else rec y (pc + 3) ls r σ
      | .le => if x ≤ 0 then rec y r1 ls r σ else rec y (pc + 3) ls r σ
    | _ => none
  | .if_icmp cc _ => match st with
    | .int b :: .int a :: r => match cc with
      | .eq => if a = b then rec y r1 ls r σ else rec y (pc + 3) ls r σ
      | .ne => if a = b then rec y (pc + 3) ls r σ else rec y r1 ls r σ
      | .lt => if a < b then rec y r1 ls r σ else rec y (pc + 3) ls r σ
      | .ge => if b ≤ a then rec y r1 ls r σ else rec y (pc + 3) ls r σ
      | .gt => if b < a then rec y r1 ls r σ else rec y (pc + 3) ls r σ
      | .le => if a ≤ b then rec y r1 ls r σ else rec y (pc + 3) ls r σ
    | _ => none
  | .ifnull _ => match st with
    | .ref _ :: r => rec y (pc + 3) ls r σ
    | .null :: r => rec y r1 ls r σ
    | _ => none
  | .ifnonnull _ => match st with
    | .ref _ :: r => rec y r1 ls r σ
    | .null :: r => rec y (pc + 3) ls r σ
    | _ => none
  | .tableswitch _ lo hi _ => match st with
    | .int x :: r => if x.toInt < lo ∨ hi < x.toInt then rec y r2 ls r σ else match tg[(x.toInt - lo).toNat]? with
      | some t => rec y t ls r σ
      | none => none
    | _ => none
  | .getfield _ => match st with
    | .ref a :: r => match σ.1[a]? with
      | some (c, _) => if c = r1 then rec y (pc + 3) ls (zfv ((ft r1).getD r2 .int) σ a r2 :: r) σ else none
      | none => none
    | _ => none
  | .putfield _ => match st with
    | v :: .ref a :: r => match σ.1[a]? with
      | some (c, _) => if c = r1 ∧ narrow ((ft r1).getD r2 .int) v = v ∧ fits ((ft r1).getD r2 .int) v = true then match zfp σ a r2 v with
        | some σ1 => rec y (pc + 3) ls r σ1
        | none => none else none
      | none => none
    | _ => none
  | .getstatic _ => rec y (pc + 3) ls (.ref r1 :: st) σ
  | .arraylength => match st with
    | .ref a :: r => match σ.1[a]? with
      | some (c, n) => if c = 100 ∨ c = 103 ∨ c = 104 ∨ c = 105 ∨ c = 200 then rec y (pc + 1) ls (.int (Int32.ofNat n) :: r) σ else none
      | none => none
    | _ => none
  | .iaload => match st with
    | .int i :: .ref a :: r => match σ.1[a]? with
      | some (c, n) => if (c = 100 ∨ c = 200) ∧ zin i n = true then rec y (pc + 1) ls (.int (σ.2.1 a i.toNatClampNeg) :: r) σ else none
      | none => none
    | _ => none
  | .iastore => match st with
    | .int x :: .int i :: .ref a :: r => match σ.1[a]? with
      | some (c, n) => if c = 100 ∧ zin i n = true then rec y (pc + 1) ls r (σ.1, zup σ.2.1 a i.toNatClampNeg x, σ.2.2) else none
      | none => none
    | _ => none
  | .aaload => match st with
    | .int i :: .ref a :: r => match σ.1[a]? with
      | some (c, n) => if (c = 103 ∨ c = 104 ∨ c = 105) ∧ zin i n = true then rec y (pc + 1) ls (va_rf (σ.2.2.1 a i.toNatClampNeg) :: r) σ else none
      | none => none
    | _ => none
  | .aastore => match st with
    | .ref v :: .int i :: .ref a :: r => match σ.1[a]?, σ.1[v]? with
      | some (c, n), some (cv, _) => if c = r1 ∧ cv = r2 ∧ zin i n = true then rec y (pc + 1) ls r (σ.1, σ.2.1, zup σ.2.2.1 a i.toNatClampNeg (some v), σ.2.2.2) else none
      | _, _ => none
    | _ => none
  | .newarray _ => match st with
    | .int n :: r => if n < 0 then none else if n.toNatClampNeg ≤ 100000 then rec y (pc + 2) ls (.ref σ.1.length :: r) (znw σ r1 n.toNatClampNeg) else none
    | _ => none
  | .anewarray _ => match st with
    | .int n :: r => if n < 0 then none else if n.toNatClampNeg ≤ 100000 then rec y (pc + 3) ls (.ref σ.1.length :: r) (znw σ r1 n.toNatClampNeg) else none
    | _ => none
  | .new _ => if r3 = 0 then rec y (pc + 3) ls (.ref σ.1.length :: st) (znw σ r1 (ft r1).length) else match st with
    | [] => some (.inr r1, zthr σ)
    | _ => none
  | .ireturn => match st, zmR (P y) with
    | [.int x], some ty => if narrow ty (.int x) = .int x then some (.inl (some (.int x)), σ) else none
    | _, _ => none
  | .lreturn => match st with
    | [.long x] => some (.inl (some (.long x)), σ)
    | _ => none
  | .areturn => match st with
    | [.ref a] => some (.inl (some (.ref a)), σ)
    | [.null] => some (.inl (some .null), σ)
    | _ => none
  | .return_ => match st with
    | [] => some (.inl none, σ)
    | _ => none
  | .invokestatic _ => if zlow (st.drop r2) then zback P rec y pc ls (st.drop r2) (if (st.take r2).length = r2 ∧ (zent (st.take r2).reverse).length ≤ zmL (P r1) then rec r1 0 (zfst (st.take r2).reverse (zmL (P r1))) [] σ else none) else none
  | .invokevirtual _ => if r3 = 2000 then match st with
    | .int x :: .ref b :: rest => match ro b x σ with
      | some (.inl (some (.int w)), σ1) => rec y (pc + 6) ls (.int w :: rest) σ1
      | some (.inr E, σ1) => zback P rec y pc ls rest (some (.inr E, σ1))
      | _ => none
    | _ => none
  else match st.drop r2 with
    | .ref b :: rest => if zlow rest then match σ.1[b]? with
      | some (c, _) => if c = r3 then zback P rec y pc ls rest (if (st.take r2).length = r2 ∧ (zent (.ref b :: (st.take r2).reverse)).length ≤ zmL (P r1) then rec r1 0 (zfst (.ref b :: (st.take r2).reverse) (zmL (P r1))) [] σ else none) else none
      | none => none else none
    | _ => none
  | .invokespecial _ => match st.drop r2 with
    | .ref b :: rest => if r3 = 1000 then (if r2 = 0 ∧ zlow rest = true then rec y (pc + 3) ls rest σ else none) else if zlow rest then match σ.1[b]? with
      | some (c, _) => if c = r3 then zback P rec y pc ls rest (if (st.take r2).length = r2 ∧ (zent (.ref b :: (st.take r2).reverse)).length ≤ zmL (P r1) then rec r1 0 (zfst (.ref b :: (st.take r2).reverse) (zmL (P r1))) [] σ else none) else none
      | none => none else none
    | _ => none
  | _ => none
/-- the interpreter: n is its fuel -/
def zx (P : Nat → zM) (ft : Nat → List FieldType) (ro : Nat → Int32 → zS → Option (zO × zS)) : Nat → zR
  | 0 => fun _ _ _ _ _ => none
  | n + 1 => fun y pc ls st σ => match zlk (zmC (P y)) pc with
    | none => none
    | some e => zst P ft ro (zx P ft ro n) y pc ls st σ e
end
section
/-! places and addresses: what the interpreter's values, locals and cells are in the machine -/
def zt (L : List Nat) : Value → Value
  | .ref k => .ref (L.getD k 0)
  | .int x => .int x
  | .long x => .long x
  | .null => .null
  | .float x => .float x
  | .double x => .double x
  | .retAddr x => .retAddr x
def zvk (n : Nat) : Value → Prop
  | .ref k => k < n
  | _ => True
theorem zt_cat (L : List Nat) (v : Value) : (zt L v).category = v.category := by cases v <;> rfl
theorem zt_rf (L : List Nat) (r : Option Nat) : zt L (va_rf r) = va_rf (r.map fun q => L.getD q 0) := by cases r <;> rfl
theorem zt_app {L M : List Nat} {v : Value} (h : zvk L.length v) : zt (L ++ M) v = zt L v := by
  cases v with
  | ref k =>
    have hk : k < L.length := h
    simp only [zt, List.getD_eq_getElem?_getD, List.getElem?_append_left hk]
  | _ => rfl
theorem zvk_mono {n k : Nat} {v : Value} (h : zvk n v) (hn : n ≤ k) : zvk k v := by
  cases v with
  | ref a => exact Nat.lt_of_lt_of_le (show a < n from h) hn
  | _ => trivial
theorem zt_apps {L M : List Nat} : ∀ {st : List Value}, (∀ v ∈ st, zvk L.length v) → st.map (zt (L ++ M)) = st.map (zt L)
  | [], _ => rfl
  | v :: st, h => by
    rw [List.map_cons, List.map_cons, zt_app (h v List.mem_cons_self), zt_apps (fun w hw => h w (List.mem_cons_of_mem _ hw))]
/-- the locals -/
def zlv (L : List Nat) (rls : Array Slot) (n : Nat) (ls : zLs) : Prop := rls.size = n ∧ lv_wf rls ∧ ls.length = n ∧ ∀ (i : Nat) (v : Value), zg ls i = some v → rls[i]? = some (.val (zt L v))
def zal (L : List Nat) (n : Nat) (ls : zLs) : List (Nat × Value) := (List.range n).filterMap (fun j => (zg ls j).map (fun v => (j, zt L v)))
theorem zal_mem {L : List Nat} {n : Nat} {ls : zLs} {q : Nat × Value} : q ∈ zal L n ls ↔ ∃ v, q.1 < n ∧ zg ls q.1 = some v ∧ q.2 = zt L v := by
  unfold zal
  rw [List.mem_filterMap]
  constructor
  · rintro ⟨j, hj, h⟩
    cases hz : zg ls j with
    | none => rw [hz] at h; cases h
    | some v =>
      rw [hz] at h
      cases h
      exact ⟨v, List.mem_range.mp hj, hz, rfl⟩
  · rintro ⟨v, h1, h2, h3⟩
    refine ⟨q.1, List.mem_range.mpr h1, ?_⟩
    rw [h2]
    exact congrArg some (Prod.ext rfl h3.symm)
theorem zg_lt {ls : zLs} {i : Nat} {v : Value} (h : zg ls i = some v) : i < ls.length := by
  unfold zg at h
  rcases Nat.lt_or_ge i ls.length with hl | hl
  · exact hl
  · rw [List.getElem?_eq_none hl] at h
    cases h
theorem zlv.has {L : List Nat} {rls : Array Slot} {n : Nat} {ls : zLs} (h : zlv L rls n ls) : lv_has rls n (zal L n ls) := by
  refine ⟨h.1, h.2.1, fun q hq => ?_⟩
  obtain ⟨v, h1, h2, h3⟩ := zal_mem.mp hq
  rw [h3]
  exact h.2.2.2 _ _ h2
theorem zkl_len (ls : zLs) (i : Nat) : (zkl ls i).length = ls.length := by
  unfold zkl
  cases i with
  | zero => rfl
  | succ k =>
    dsimp only
    split
    · exact List.length_set
    · rfl
theorem zg_some {ls : zLs} {i : Nat} {v : Value} : zg ls i = some v ↔ ls[i]? = some (some v) := by
  unfold zg
  constructor
  · intro h
    split at h
    · rename_i w hw
      cases h
      exact hw
    · cases h
  · intro h
    rw [h]
/-- what is left of the locals, where one is about to be stored -/
theorem zkl_at {ls : zLs} {i j : Nat} {w : Value} (h : (zkl ls i)[j]? = some (some w)) : zg ls j = some w ∧ ¬ (j + 1 = i ∧ w.category = 2) := by
  unfold zkl at h
  cases i with
  | zero => exact ⟨zg_some.mpr h, fun q => by omega⟩
  | succ k =>
    dsimp only at h
    by_cases hz : zc2 (ls.getD k none) = true
    · rw [if_pos hz] at h
      by_cases hk : j = k
      · subst hk
        have hl : j < (ls.set j none).length := by
          rcases Nat.lt_or_ge j (ls.set j none).length with q | q
          · exact q
          · rw [List.getElem?_eq_none q] at h; cases h
        rw [List.length_set] at hl
        rw [List.getElem?_set_self hl] at h
        cases h
      · rw [List.getElem?_set_ne (fun q => hk q.symm)] at h
        exact ⟨zg_some.mpr h, fun q => hk (by omega)⟩
    · rw [if_neg hz] at h
      refine ⟨zg_some.mpr h, fun q => hz ?_⟩
      have hk : j = k := by omega
      subst hk
      rw [List.getD_eq_getElem?_getD, h]
      simp [zc2, q.2]
theorem zlv.st1 {L : List Nat} {rls rls' : Array Slot} {n i : Nat} {ls : zLs} {v : Value} (h : zlv L rls n ls) (hi : i < n) (h' : lv_has rls' n ((i, zt L v) :: (zal L n ls).filter (fun q => !(q.1 == i) && !(q.1 + 1 == i && q.2.category == 2)))) : zlv L rls' n (zs1 ls i v) := by
  refine ⟨h'.1, h'.2.1, ?_, fun j w hj => ?_⟩
  · unfold zs1
    rw [List.length_set, zkl_len]
    exact h.2.2.1
  · have hj := zg_some.mp hj
    unfold zs1 at hj
    by_cases hji : j = i
    · subst hji
      rw [List.getElem?_set_self (by rw [zkl_len, h.2.2.1]; exact hi)] at hj
      cases hj
      exact h'.2.2 (j, zt L v) List.mem_cons_self
    · rw [List.getElem?_set_ne (fun q => hji q.symm)] at hj
      obtain ⟨h1, h2⟩ := zkl_at hj
      have hl := zg_lt h1
      refine h'.2.2 (j, zt L w) (List.mem_cons_of_mem _ (List.mem_filter.mpr ⟨zal_mem.mpr ⟨w, by rw [← h.2.2.1]; exact hl, h1, rfl⟩, ?_⟩))
      simp only [Bool.and_eq_true, Bool.not_eq_true', beq_eq_false_iff_ne, ne_eq, Bool.and_eq_false_iff, zt_cat]
      refine ⟨hji, ?_⟩
      by_cases hc : j + 1 = i
      · exact Or.inr (fun q => h2 ⟨hc, q⟩)
      · exact Or.inl hc
/-- a place is stored over, but not told -/
theorem zlv.st0 {L : List Nat} {rls rls' : Array Slot} {n i : Nat} {ls : zLs} {v : Value} (h : zlv L rls n ls) (hi : i < n) (h' : lv_has rls' n ((i, v) :: (zal L n ls).filter (fun q => !(q.1 == i) && !(q.1 + 1 == i && q.2.category == 2)))) : zlv L rls' n ((zkl ls i).set i none) := by
  refine ⟨h'.1, h'.2.1, ?_, fun j w hj => ?_⟩
  · rw [List.length_set, zkl_len]
    exact h.2.2.1
  · have hj := zg_some.mp hj
    by_cases hji : j = i
    · subst hji
      rw [List.getElem?_set_self (by rw [zkl_len, h.2.2.1]; exact hi)] at hj
      cases hj
    · rw [List.getElem?_set_ne (fun q => hji q.symm)] at hj
      obtain ⟨h1, h2⟩ := zkl_at hj
      have hl := zg_lt h1
      refine h'.2.2 (j, zt L w) (List.mem_cons_of_mem _ (List.mem_filter.mpr ⟨zal_mem.mpr ⟨w, by rw [← h.2.2.1]; exact hl, h1, rfl⟩, ?_⟩))
      simp only [Bool.and_eq_true, Bool.not_eq_true', beq_eq_false_iff_ne, ne_eq, Bool.and_eq_false_iff, zt_cat]
      refine ⟨hji, ?_⟩
      by_cases hc : j + 1 = i
      · exact Or.inr (fun q => h2 ⟨hc, q⟩)
      · exact Or.inl hc
theorem zlv.st2 {L : List Nat} {rls rls' : Array Slot} {n i : Nat} {ls : zLs} {v : Value} (h : zlv L rls n ls) (hi : i + 1 < n) (h' : lv_has rls' n ((i, zt L v) :: (zal L n ls).filter (fun q => !(q.1 == i) && (!(q.1 == i + 1) && !(q.1 + 1 == i && q.2.category == 2))))) : zlv L rls' n (zs2 ls i v) := by
  refine ⟨h'.1, h'.2.1, ?_, fun j w hj => ?_⟩
  · unfold zs2
    rw [List.length_set, List.length_set, zkl_len]
    exact h.2.2.1
  · have hj := zg_some.mp hj
    unfold zs2 at hj
    by_cases hj1 : j = i + 1
    · subst hj1
      rw [List.getElem?_set_self (by rw [List.length_set, zkl_len, h.2.2.1]; exact hi)] at hj
      cases hj
    · rw [List.getElem?_set_ne (fun q => hj1 q.symm)] at hj
      by_cases hji : j = i
      · subst hji
        rw [List.getElem?_set_self (by rw [zkl_len, h.2.2.1]; omega)] at hj
        cases hj
        exact h'.2.2 (j, zt L v) List.mem_cons_self
      · rw [List.getElem?_set_ne (fun q => hji q.symm)] at hj
        obtain ⟨h1, h2⟩ := zkl_at hj
        have hl := zg_lt h1
        refine h'.2.2 (j, zt L w) (List.mem_cons_of_mem _ (List.mem_filter.mpr ⟨zal_mem.mpr ⟨w, by rw [← h.2.2.1]; exact hl, h1, rfl⟩, ?_⟩))
        simp only [Bool.and_eq_true, Bool.not_eq_true', beq_eq_false_iff_ne, ne_eq, Bool.and_eq_false_iff, zt_cat]
        refine ⟨hji, hj1, ?_⟩
        by_cases hc : j + 1 = i
        · exact Or.inr (fun q => h2 ⟨hc, q⟩)
        · exact Or.inl hc
theorem zlv.app {L M : List Nat} {rls : Array Slot} {n : Nat} {ls : zLs} (h : zlv L rls n ls) (hv : ∀ i v, zg ls i = some v → zvk L.length v) : zlv (L ++ M) rls n ls := ⟨h.1, h.2.1, h.2.2.1, fun i v hi => by rw [zt_app (hv i v hi)]; exact h.2.2.2 i v hi⟩
/-- which locals are valid -/
def zlo (n : Nat) (ls : zLs) : Prop := ∀ (i : Nat) (v : Value), zg ls i = some v → zvk n v
def zso (n : Nat) (st : List Value) : Prop := ∀ v ∈ st, zvk n v
theorem zlo.st1 {n i : Nat} {ls : zLs} {v : Value} (h : zlo n ls) (hv : zvk n v) : zlo n (zs1 ls i v) := by
  intro j w hj
  have hj := zg_some.mp hj
  unfold zs1 at hj
  by_cases hji : j = i
  · subst hji
    rw [List.getElem?_set_self'] at hj
    cases hq : (zkl ls j)[j]? with
    | none => rw [hq] at hj; cases hj
    | some x => rw [hq] at hj; cases hj; exact hv
  · rw [List.getElem?_set_ne (fun q => hji q.symm)] at hj
    exact h j w (zkl_at hj).1
theorem zlo.st0 {n i : Nat} {ls : zLs} (h : zlo n ls) : zlo n ((zkl ls i).set i none) := by
  intro j w hj
  have hj := zg_some.mp hj
  by_cases hji : j = i
  · subst hji
    rw [List.getElem?_set_self'] at hj
    cases hq : (zkl ls j)[j]? with
    | none => rw [hq] at hj; cases hj
    | some x => rw [hq] at hj; cases hj
  · rw [List.getElem?_set_ne (fun q => hji q.symm)] at hj
    exact h j w (zkl_at hj).1
theorem zlo.st2 {n i : Nat} {ls : zLs} {v : Value} (h : zlo n ls) (hv : zvk n v) : zlo n (zs2 ls i v) := by
  intro j w hj
  have hj := zg_some.mp hj
  unfold zs2 at hj
  by_cases hj1 : j = i + 1
  · subst hj1
    rw [List.getElem?_set_self'] at hj
    cases hq : ((zkl ls i).set i (some v))[i + 1]? with
    | none => rw [hq] at hj; cases hj
    | some x => rw [hq] at hj; cases hj
  · rw [List.getElem?_set_ne (fun q => hj1 q.symm)] at hj
    exact (zlo.st1 (i := i) h hv) j w (zg_some.mpr (by unfold zs1; exact hj))
theorem zlo.mono {n k : Nat} {ls : zLs} (h : zlo n ls) (hn : n ≤ k) : zlo k ls := fun i v hi => zvk_mono (h i v hi) hn
theorem zso.mono {n k : Nat} {st : List Value} (h : zso n st) (hn : n ≤ k) : zso k st := fun v hv => zvk_mono (h v hv) hn
theorem zso.cons {n : Nat} {v : Value} {st : List Value} (hv : zvk n v) (h : zso n st) : zso n (v :: st) := fun w hw => (List.mem_cons.mp hw).elim (fun e => e ▸ hv) (h w)
theorem zso.tl {n : Nat} {v : Value} {st : List Value} (h : zso n (v :: st)) : zso n st := fun w hw => h w (List.mem_cons_of_mem _ hw)
theorem zso.hd {n : Nat} {v : Value} {st : List Value} (h : zso n (v :: st)) : zvk n v := h v List.mem_cons_self
/-- a method's first locals -/
theorem zent_at (L : List Nat) : ∀ (vs : List Value) (k i : Nat) (v : Value), (zent vs)[i]? = some (some v) → (k + i, zt L v) ∈ lv_args k (vs.map (zt L))
  | [], _, _, _, h => by cases h
  | w :: vs, k, i, v, h => by
    unfold zent at h
    rw [List.map_cons]
    unfold lv_args
    rw [zt_cat]
    by_cases hc : w.category = 2
    · rw [if_pos hc] at h
      rw [if_pos hc]
      match i, h with
      | 0, h => cases h; exact List.mem_cons_self
      | 1, h => cases h
      | i + 2, h =>
        have h := zent_at L vs (k + 2) i v h
        rw [show k + 2 + i = k + (i + 2) by omega] at h
        exact List.mem_cons_of_mem _ h
    · rw [if_neg hc] at h
      rw [if_neg hc]
      match i, h with
      | 0, h => cases h; exact List.mem_cons_self
      | i + 1, h =>
        have h := zent_at L vs (k + 1) i v h
        rw [show k + 1 + i = k + (i + 1) by omega] at h
        exact List.mem_cons_of_mem _ h
theorem zent_len (L : List Nat) : ∀ vs : List Value, (zent vs).length = (lg_sl (vs.map (zt L))).length
  | [] => rfl
  | v :: vs => by
    have ih := zent_len L vs
    unfold lg_sl at ih ⊢
    unfold zent
    rw [List.map_cons, List.flatMap_cons, List.length_append, ← ih, zt_cat]
    by_cases hc : v.category = 2
    · rw [if_pos hc, if_pos hc]
      simp
      omega
    · rw [if_neg hc, if_neg hc]
      simp
      omega
theorem zent_ok {n : Nat} : ∀ {vs : List Value}, zso n vs → ∀ (i : Nat) (v : Value), (zent vs)[i]? = some (some v) → zvk n v
  | [], _, _, _, h => by cases h
  | w :: vs, hs, i, v, h => by
    unfold zent at h
    by_cases hc : w.category = 2
    · rw [if_pos hc] at h
      match i, h with
      | 0, h => cases h; exact hs.hd
      | 1, h => cases h
      | i + 2, h => exact zent_ok hs.tl i v h
    · rw [if_neg hc] at h
      match i, h with
      | 0, h => cases h; exact hs.hd
      | i + 1, h => exact zent_ok hs.tl i v h
theorem zfst_at {vs : List Value} {n i : Nat} {v : Value} (h : zg (zfst vs n) i = some v) : (zent vs)[i]? = some (some v) := by
  have h := zg_some.mp h
  unfold zfst at h
  rcases Nat.lt_or_ge i (zent vs).length with q | q
  · rw [List.getElem?_append_left q] at h
    exact h
  · rw [List.getElem?_append_right q, List.getElem?_replicate] at h
    split at h <;> cases h
theorem zfst_ok {n k : Nat} {vs : List Value} (hs : zso n vs) : zlo n (zfst vs k) := fun i v h => zent_ok hs i v (zfst_at h)
theorem zfst_lv (L : List Nat) {vs : List Value} {n : Nat} (hn : (zent vs).length ≤ n) : zlv L ((lg_sl (vs.map (zt L)) ++ List.replicate (n - (lg_sl (vs.map (zt L))).length) Slot.unset).toArray) n (zfst vs n) := by
  have h := lv_entry (vs.map (zt L)) (n := n) (by rw [← zent_len]; exact hn)
  refine ⟨h.1, h.2.1, ?_, fun i v hi => ?_⟩
  · unfold zfst
    rw [List.length_append, List.length_replicate]
    omega
  · have h2 := zent_at L vs 0 i v (zfst_at hi)
    rw [Nat.zero_add] at h2
    exact h.2.2 (i, zt L v) h2
end
section
/-! the world: the cells of the interpreter in the heap -/
def ze (ft : Nat → List FieldType) (cA : Nat → ClassId) (L : List Nat) (σ : zS) (p : Nat) : va_E := match σ.1.getD p (0, 0) with
  | (k, n) => if k < 100 then .inr (k, (List.range (ft k).length).map (fun j => zt L (zfv ((ft k).getD j .int) σ p j)))
    else if k < 103 then .inl (cA (k - 100), n, .inl (σ.2.1 p))
    else .inl (cA (k - 100), n, .inr (.inr (.inr (.inr (fun j => (σ.2.2.1 p j).map (fun q => L.getD q 0))))))
/-- the cells from place mo on are the world's; those ahead of it were there before -/
def zw (ft : Nat → List FieldType) (cA : Nat → ClassId) (mo : Nat) (L : List Nat) (σ : zS) : va_W := (List.range (σ.1.length - mo)).map (fun j => (L.getD (mo + j) 0, ze ft cA L σ (mo + j)))
def zVH (σ : zS) : Prop := ∀ p f q : Nat, σ.2.2.1 p f = some q → q < σ.1.length
section ZWLD
variable {ft : Nat → List FieldType} {cA : Nat → ClassId} {mo : Nat} {L : List Nat} {σ : zS}
theorem zw_len : (zw ft cA mo L σ).length = σ.1.length - mo := by unfold zw; rw [List.length_map, List.length_range]
theorem zw_at {p : Nat} (h : mo ≤ p) (hp : p < σ.1.length) : (zw ft cA mo L σ)[p - mo]? = some (L.getD p 0, ze ft cA L σ p) := by
  unfold zw
  rw [List.getElem?_map, List.getElem?_range (by omega)]
  show some (L.getD (mo + (p - mo)) 0, ze ft cA L σ (mo + (p - mo))) = some _
  rw [show mo + (p - mo) = p by omega]
theorem ze_obj {p k n : Nat} (h : σ.1[p]? = some (k, n)) (hk : k < 100) : ze ft cA L σ p = .inr (k, (List.range (ft k).length).map (fun j => zt L (zfv ((ft k).getD j .int) σ p j))) := by
  unfold ze
  rw [List.getD_eq_getElem?_getD, h]
  show (if k < 100 then _ else _) = _
  rw [if_pos hk]
theorem ze_int {p k n : Nat} (h : σ.1[p]? = some (k, n)) (hk : 100 ≤ k) (hk2 : k < 103) : ze ft cA L σ p = .inl (cA (k - 100), n, .inl (σ.2.1 p)) := by
  unfold ze
  rw [List.getD_eq_getElem?_getD, h]
  show (if k < 100 then _ else _) = _
  rw [if_neg (by omega), if_pos hk2]
theorem ze_ref {p k n : Nat} (h : σ.1[p]? = some (k, n)) (hk : 103 ≤ k) : ze ft cA L σ p = .inl (cA (k - 100), n, .inr (.inr (.inr (.inr (fun j => (σ.2.2.1 p j).map (fun q => L.getD q 0)))))) := by
  unfold ze
  rw [List.getD_eq_getElem?_getD, h]
  show (if k < 100 then _ else _) = _
  rw [if_neg (by omega), if_neg (by omega)]
/-- another state of the same kinds whose cells are those, but one -/
theorem zw_set {σ' : zS} {p : Nat} {e : va_E} (hK : σ'.1 = σ.1) (h : mo ≤ p) (hp : p < σ.1.length) (he : ze ft cA L σ' p = e) (ho : ∀ q, q ≠ p → ze ft cA L σ' q = ze ft cA L σ q) : (zw ft cA mo L σ).set (p - mo) (L.getD p 0, e) = zw ft cA mo L σ' := by
  refine List.ext_getElem? fun i => ?_
  by_cases hi : i < σ.1.length - mo
  · have h2 : (zw ft cA mo L σ')[i]? = some (L.getD (mo + i) 0, ze ft cA L σ' (mo + i)) := by
      have h3 := zw_at (ft := ft) (cA := cA) (mo := mo) (L := L) (σ := σ') (p := mo + i) (by omega) (by rw [hK]; omega)
      rw [show mo + i - mo = i by omega] at h3
      exact h3
    rw [h2]
    by_cases hip : i = p - mo
    · subst hip
      rw [List.getElem?_set_self (by rw [zw_len]; exact hi), show mo + (p - mo) = p by omega, he]
    · rw [List.getElem?_set_ne (fun q => hip q.symm)]
      have h3 := zw_at (ft := ft) (cA := cA) (mo := mo) (L := L) (σ := σ) (p := mo + i) (by omega) (by omega)
      rw [show mo + i - mo = i by omega] at h3
      rw [h3, ho (mo + i) (by omega)]
  · rw [List.getElem?_eq_none (by rw [List.length_set, zw_len]; omega), List.getElem?_eq_none (by rw [zw_len, hK]; omega)]
theorem ze_app {σ' : zS} {M : List Nat} {p : Nat} (hV : zVH σ) (hL : L.length = σ.1.length) (hp : p < σ.1.length) (hK : σ'.1[p]? = σ.1[p]?) (h1 : σ'.2.1 p = σ.2.1 p) (h2 : σ'.2.2.1 p = σ.2.2.1 p) (h3 : σ'.2.2.2.1 p = σ.2.2.2.1 p) : ze ft cA (L ++ M) σ' p = ze ft cA L σ p := by
  have hget : ∀ q j, σ.2.2.1 p j = some q → (L ++ M).getD q 0 = L.getD q 0 := fun q j hq => by
    have := hV p j q hq
    rw [List.getD_eq_getElem?_getD, List.getD_eq_getElem?_getD, List.getElem?_append_left (by omega)]
  have hfv : ∀ (ty : FieldType) (j : Nat), zt (L ++ M) (zfv ty σ' p j) = zt L (zfv ty σ p j) := by
    intro ty j
    have hr : zt (L ++ M) (va_rf (σ.2.2.1 p j)) = zt L (va_rf (σ.2.2.1 p j)) := by
      cases hq : σ.2.2.1 p j with
      | none => rfl
      | some q => show Value.ref _ = Value.ref _; rw [hget q j hq]
    cases ty <;> simp only [zfv, h1, h2, h3, hr] <;> rfl
  obtain ⟨k, n, hkn⟩ : ∃ k n, σ.1[p]? = some (k, n) := ⟨(σ.1[p]'hp).1, (σ.1[p]'hp).2, List.getElem?_eq_getElem hp⟩
  rw [hkn] at hK
  by_cases hk : k < 100
  · rw [ze_obj hkn hk, ze_obj hK hk]
    simp only [hfv]
  · by_cases hk2 : k < 103
    · rw [ze_int hkn (by omega) hk2, ze_int hK (by omega) hk2, h1]
    · rw [ze_ref hkn (by omega), ze_ref hK (by omega), h2]
      refine congrArg (fun z => Sum.inl (cA (k - 100), n, Sum.inr (Sum.inr (Sum.inr (Sum.inr z))))) (funext fun j => ?_)
      cases hq : σ.2.2.1 p j with
      | none => rfl
      | some q => show some ((L ++ M).getD q 0) = some (L.getD q 0); rw [hget q j hq]
/-- a cell more -/
theorem zw_push {σ' : zS} {a : Nat} {kn : Nat × Nat} {e : va_E} (hmo : mo ≤ σ.1.length) (hV : zVH σ) (hL : L.length = σ.1.length) (hK : σ'.1 = σ.1 ++ [kn]) (ho : ∀ q, q < σ.1.length → σ'.2.1 q = σ.2.1 q ∧ σ'.2.2.1 q = σ.2.2.1 q ∧ σ'.2.2.2.1 q = σ.2.2.2.1 q) (he : ze ft cA (L ++ [a]) σ' σ.1.length = e) : zw ft cA mo L σ ++ [(a, e)] = zw ft cA mo (L ++ [a]) σ' := by
  have hl' : σ'.1.length = σ.1.length + 1 := by rw [hK, List.length_append]; rfl
  refine List.ext_getElem? fun i => ?_
  by_cases hi : i < σ'.1.length - mo
  · have h2 : (zw ft cA mo (L ++ [a]) σ')[i]? = some ((L ++ [a]).getD (mo + i) 0, ze ft cA (L ++ [a]) σ' (mo + i)) := by
      have h3 := zw_at (ft := ft) (cA := cA) (mo := mo) (L := L ++ [a]) (σ := σ') (p := mo + i) (by omega) (by omega)
      rw [show mo + i - mo = i by omega] at h3
      exact h3
    rw [h2]
    by_cases hip : i < σ.1.length - mo
    · have h3 := zw_at (ft := ft) (cA := cA) (mo := mo) (L := L) (σ := σ) (p := mo + i) (by omega) (by omega)
      rw [show mo + i - mo = i by omega] at h3
      obtain ⟨o1, o2, o3⟩ := ho (mo + i) (by omega)
      rw [List.getElem?_append_left (by rw [zw_len]; exact hip), h3, ze_app hV hL (by omega) (by rw [hK, List.getElem?_append_left (by omega)]) o1 o2 o3]
      rw [List.getD_eq_getElem?_getD, List.getD_eq_getElem?_getD, List.getElem?_append_left (by omega)]
    · have hi2 : mo + i = σ.1.length := by omega
      have hi3 : i = (zw ft cA mo L σ).length := by rw [zw_len]; omega
      have hA : (L ++ [a]).getD σ.1.length 0 = a := by rw [← hL, List.getD_eq_getElem?_getD, List.getElem?_append_right (Nat.le_refl _), Nat.sub_self]; rfl
      rw [hi2, he, hA, hi3, List.getElem?_append_right (Nat.le_refl _), Nat.sub_self]
      rfl
  · rw [List.getElem?_eq_none (by rw [List.length_append, zw_len]; simp; omega), List.getElem?_eq_none (by rw [zw_len]; omega)]
theorem zup_ne {α : Type} {h : Nat → Nat → α} {p f : Nat} {v : α} {q : Nat} (hq : q ≠ p) : zup h p f v q = h q := funext fun j => if_neg fun z => hq z.1
theorem zup_at {α : Type} {h : Nat → Nat → α} {p f : Nat} {v : α} : zup h p f v p f = v := if_pos ⟨rfl, rfl⟩
theorem zup_in {α : Type} {h : Nat → Nat → α} {p f : Nat} {v : α} {j : Nat} (hj : j ≠ f) : zup h p f v p j = h p j := if_neg fun z => hj z.2
theorem zupR_ne {α : Type} {h : Nat → Nat → α} {p : Nat} {v : Nat → α} {q : Nat} (hq : q ≠ p) : zupR h p v q = h q := if_neg hq
theorem zupR_at {α : Type} {h : Nat → Nat → α} {p : Nat} {v : Nat → α} : zupR h p v p = v := if_pos rfl
/-- cells that are not written stay -/
theorem ze_same {σ' : zS} {p : Nat} (hK : σ'.1[p]? = σ.1[p]?) (h1 : σ'.2.1 p = σ.2.1 p) (h2 : σ'.2.2.1 p = σ.2.2.1 p) (h3 : σ'.2.2.2.1 p = σ.2.2.2.1 p) : ze ft cA L σ' p = ze ft cA L σ p := by
  have hfv : ∀ (ty : FieldType) (j : Nat), zfv ty σ' p j = zfv ty σ p j := by
    intro ty j
    cases ty <;> simp only [zfv, h1, h2, h3]
  unfold ze
  rw [List.getD_eq_getElem?_getD, List.getD_eq_getElem?_getD, hK]
  simp only [hfv, h1, h2]
theorem zVH.int {h : Nat → Nat → Int32} {hl : Nat → Nat → Int64} {nc ns : Nat} (hV : zVH σ) : zVH (σ.1, h, σ.2.2.1, hl, nc, ns) := hV
theorem zVH.put {p f q : Nat} (hV : zVH σ) (hq : q < σ.1.length) : zVH (σ.1, σ.2.1, zup σ.2.2.1 p f (some q), σ.2.2.2) := by
  intro a j x hx
  have hx : zup σ.2.2.1 p f (some q) a j = some x := hx
  show x < σ.1.length
  by_cases hz : a = p ∧ j = f
  · obtain ⟨rfl, rfl⟩ := hz
    rw [zup_at] at hx
    cases hx
    exact hq
  · unfold zup at hx
    rw [if_neg hz] at hx
    exact hV a j x hx
theorem zVH.putN {p f : Nat} (hV : zVH σ) : zVH (σ.1, σ.2.1, zup σ.2.2.1 p f none, σ.2.2.2) := by
  intro a j x hx
  have hx : zup σ.2.2.1 p f none a j = some x := hx
  show x < σ.1.length
  by_cases hz : a = p ∧ j = f
  · obtain ⟨rfl, rfl⟩ := hz
    rw [zup_at] at hx
    cases hx
  · unfold zup at hx
    rw [if_neg hz] at hx
    exact hV a j x hx
theorem zVH.new {k n : Nat} (hV : zVH σ) : zVH (znw σ k n) := by
  intro a j x hx
  have hx : zupR σ.2.2.1 σ.1.length (fun _ => none) a j = some x := hx
  show x < (σ.1 ++ [(k, n)]).length
  rw [List.length_append]
  by_cases hz : a = σ.1.length
  · subst hz
    rw [zupR_at] at hx
    cases hx
  · rw [zupR_ne hz] at hx
    have := hV a j x hx
    simp
    omega
theorem zfv_ok {ty : FieldType} {p f : Nat} (hV : zVH σ) : zvk σ.1.length (zfv ty σ p f) := by
  have h : zvk σ.1.length (va_rf (σ.2.2.1 p f)) := by
    cases hq : σ.2.2.1 p f with
    | none => trivial
    | some q => exact hV p f q hq
  cases ty <;> first | exact h | trivial
end ZWLD
end
section
/-! one instruction of the interpreter is one of the machine -/
/-- a method's activation: the machine's part, the tables', the world's, the code's -/
abbrev zX : Type := (Program × Launch × Env × Room × State × MethodId × Array Value × List Frame × Method × Code × (State → Prop)) × (va_G × List vw_C × (Nat → List FieldType) × (Nat → ClassId)) × (Nat × Nat × Nat × Nat × (Nat → Prop) × List Nat × ((Nat → Nat → Int32) × (Nat → Nat))) × (ByteArray × String × List Cond)
abbrev xp (X : zX) : Program := X.1.1
abbrev xl (X : zX) : Launch := X.1.2.1
abbrev xe (X : zX) : Env := X.1.2.2.1
abbrev xR (X : zX) : Room := X.1.2.2.2.1
abbrev xs (X : zX) : State := X.1.2.2.2.2.1
abbrev xm (X : zX) : MethodId := X.1.2.2.2.2.2.1
abbrev xa (X : zX) : Array Value := X.1.2.2.2.2.2.2.1
abbrev xb (X : zX) : List Frame := X.1.2.2.2.2.2.2.2.1
abbrev xme (X : zX) : Method := X.1.2.2.2.2.2.2.2.2.1
abbrev xc (X : zX) : Code := X.1.2.2.2.2.2.2.2.2.2.1
abbrev xQ (X : zX) : State → Prop := X.1.2.2.2.2.2.2.2.2.2.2
abbrev xD (X : zX) : va_G := X.2.1.1
abbrev xcl (X : zX) : List vw_C := X.2.1.2.1
abbrev xft (X : zX) : Nat → List FieldType := X.2.1.2.2.1
abbrev xcA (X : zX) : Nat → ClassId := X.2.1.2.2.2
abbrev xmo (X : zX) : Nat := X.2.2.1.1
abbrev xnL (X : zX) : Nat := X.2.2.1.2.1
abbrev xnc (X : zX) : Nat := X.2.2.1.2.2.1
abbrev xns (X : zX) : Nat := X.2.2.1.2.2.2.1
abbrev xA (X : zX) : Nat → Prop := X.2.2.1.2.2.2.2.1
abbrev xL0 (X : zX) : List Nat := X.2.2.1.2.2.2.2.2.1
/-- what the cells hold that nobody writes, and how many places they have -/
abbrev xRO (X : zX) : (Nat → Nat → Int32) × (Nat → Nat) := X.2.2.1.2.2.2.2.2.2
abbrev xcc (X : zX) : ByteArray := X.2.2.2.1
abbrev xown (X : zX) : String := X.2.2.2.2.1
abbrev xTs (X : zX) : List Cond := X.2.2.2.2.2
def zWX (X : zX) (H : Heap) (locs : List Loc) (cells slots : Nat) (g : JFrame) : Prop := W (xp X) (xl X) (xe X) (xR X) (xs X) (xm X) (xa X) (xb X) (xme X) (xc X) H locs cells slots (xQ X) g
abbrev znc (σ : zS) : Nat := σ.2.2.2.2.1
abbrev zns (σ : zS) : Nat := σ.2.2.2.2.2
def zAC (k : Nat) : String := if k = 103 then "Siegelines$Gun" else if k = 104 then "Siegelines$Company" else "Siegelines$Mine"
def zty1 : FieldType → Bool
  | .int => true
  | .boolean => true
  | .long => true
  | .object _ => true
  | .array _ => true
  | _ => false
def zTys (cA : Nat → ClassId) : List (ClassId × FieldType) := [(cA 0, .int), (cA 3, .object (zAC 103)), (cA 4, .object (zAC 104)), (cA 5, .object (zAC 105))]
def zCls (cl : List vw_C) (ft : Nat → List FieldType) (Ts : List Cond) : Prop := ∀ (k : Nat) (C : String) (T : u_T) (N : Nat), cl[k]? = some (C, T, N) → k < 100 ∧ N = (ft k).length ∧ (∀ w ∈ u_ws C T N, w ∈ Ts) ∧ (∀ j, j < N → parseFieldDescriptor (T j).2.2.1 = some ((ft k).getD j .int) ∧ zty1 ((ft k).getD j .int) = true) ∧ (∀ a, a < N → ∀ b, b < N → a ≠ b → (T a).2.1 ≠ (T b).2.1) ∧ Cond.instantiable C N ∈ Ts ∧ Cond.initialized C ∈ Ts
def zFix (X : zX) : Prop := (xp X).tables.exec = Jvm.exec ∧ (xc X).code = xcc X ∧ (xc X).maxLocals = xnL X ∧ (xs X).vm.findClass (xown X) = some (xm X).cls ∧ (∀ w ∈ xTs X, w.before (xa X) (xs X) = true) ∧ va_K (xD X) (xcl X) (zTys (xcA X)) (xs X) ∧ (∀ q, (xs X).heap.size ≤ q → xA X q) ∧ zCls (xcl X) (xft X) (xTs X) ∧ (∀ p, p < xmo X → va_T .int ((xL0 X).getD p 0) ((xRO X).2 p) (fun j => .int ((xRO X).1 p j)) (xA X) (xs X) (xs X).heap)
def zKi (mo : Nat) (K : zK) : Prop := mo ≤ K.length ∧ ∀ p k n, K[p]? = some (k, n) → (k = 200 ↔ p < mo)
def zRel (X : zX) (L : List Nat) (σ : zS) (H : Heap) (locs : List Loc) : Prop := xL0 X <+: L ∧ L.length = σ.1.length ∧ xmo X ≤ (xL0 X).length ∧ zVH σ ∧ zKi (xmo X) σ.1 ∧ va_P (xD X) (xcl X) (zw (xft X) (xcA X) (xmo X) L σ) H ∧ va_D (xA X) (zw (xft X) (xcA X) (xmo X) L σ) ∧ va_S (xA X) (xs X).heap H locs ∧ (∀ p, p < xmo X → σ.2.1 p = (xRO X).1 p ∧ σ.1[p]? = some (200, (xRO X).2 p)) ∧ xnc X ≤ znc σ ∧ xns X ≤ zns σ
/-- from this point of the interpreter's the machine comes to the method's end -/
def zC (X : zX) (pc : Nat) (ls : zLs) (st : List Value) (σ : zS) : Prop := ∀ (L : List Nat) (rls : Array Slot) (H : Heap) (locs : List Loc), zRel X L σ H locs → zlv L rls (xnL X) ls → zlo L.length ls → zso L.length st → zWX X H locs (znc σ - xnc X) (zns σ - xns X) (F0 (xm X) pc rls (st.map (zt L)))
theorem zin_in {i : Int32} {n : Nat} (h : zin i n = true) : vp_in i n := by
  unfold zin at h
  unfold vp_in
  exact of_decide_eq_true h
section ZSTEP
variable {X : zX} {pc : Nat} {ls : zLs} {st : List Value} {σ : zS}
theorem zs_iload (F : zFix X) {k : Nat} {x : Int32} (d : decode (xcc X) pc = .ok (.iload k, 2)) (hg : zg ls k = some (.int x)) (K : zC X (pc + 2) ls (.int x :: st) σ) : zC X pc ls st σ := fun L rls H locs h1 h2 h3 h4 => lv_iload F.1 F.2.1 d (h2.2.2.2 _ _ hg) (K L rls H locs h1 h2 h3 (h4.cons trivial))
theorem zs_iload_n (F : zFix X) {k : Fin 4} {x : Int32} (d : decode (xcc X) pc = .ok (.iload_n k, 1)) (hg : zg ls k = some (.int x)) (K : zC X (pc + 1) ls (.int x :: st) σ) : zC X pc ls st σ := fun L rls H locs h1 h2 h3 h4 => lv_iload_n F.1 F.2.1 d rfl (h2.2.2.2 _ _ hg) (K L rls H locs h1 h2 h3 (h4.cons trivial))
theorem zs_lload (F : zFix X) {k : Nat} {x : Int64} (d : decode (xcc X) pc = .ok (.lload k, 2)) (hg : zg ls k = some (.long x)) (K : zC X (pc + 2) ls (.long x :: st) σ) : zC X pc ls st σ := fun L rls H locs h1 h2 h3 h4 => lv_lload F.1 F.2.1 d (h2.2.2.2 _ _ hg) (K L rls H locs h1 h2 h3 (h4.cons trivial))
theorem zs_lload_n (F : zFix X) {k : Fin 4} {x : Int64} (d : decode (xcc X) pc = .ok (.lload_n k, 1)) (hg : zg ls k = some (.long x)) (K : zC X (pc + 1) ls (.long x :: st) σ) : zC X pc ls st σ := fun L rls H locs h1 h2 h3 h4 => lv_lload_n F.1 F.2.1 d rfl (h2.2.2.2 _ _ hg) (K L rls H locs h1 h2 h3 (h4.cons trivial))
theorem zs_aload (F : zFix X) {k : Nat} {x : Nat} (d : decode (xcc X) pc = .ok (.aload k, 2)) (hg : zg ls k = some (.ref x)) (K : zC X (pc + 2) ls (.ref x :: st) σ) : zC X pc ls st σ := fun L rls H locs h1 h2 h3 h4 => lv_aload F.1 F.2.1 d (h2.2.2.2 _ _ hg) (K L rls H locs h1 h2 h3 (h4.cons (h3 _ _ hg)))
theorem zs_aload_n (F : zFix X) {k : Fin 4} {x : Nat} (d : decode (xcc X) pc = .ok (.aload_n k, 1)) (hg : zg ls k = some (.ref x)) (K : zC X (pc + 1) ls (.ref x :: st) σ) : zC X pc ls st σ := fun L rls H locs h1 h2 h3 h4 => lv_aload_n F.1 F.2.1 d rfl (h2.2.2.2 _ _ hg) (K L rls H locs h1 h2 h3 (h4.cons (h3 _ _ hg)))
theorem zs_aloadN (F : zFix X) {k : Nat} (d : decode (xcc X) pc = .ok (.aload k, 2)) (hg : zg ls k = some .null) (K : zC X (pc + 2) ls (.null :: st) σ) : zC X pc ls st σ := fun L rls H locs h1 h2 h3 h4 => lv_aloadN F.1 F.2.1 d (h2.2.2.2 _ _ hg) (K L rls H locs h1 h2 h3 (h4.cons trivial))
theorem zs_aload_nN (F : zFix X) {k : Fin 4} (d : decode (xcc X) pc = .ok (.aload_n k, 1)) (hg : zg ls k = some .null) (K : zC X (pc + 1) ls (.null :: st) σ) : zC X pc ls st σ := fun L rls H locs h1 h2 h3 h4 => lv_aload_nN F.1 F.2.1 d rfl (h2.2.2.2 _ _ hg) (K L rls H locs h1 h2 h3 (h4.cons trivial))
theorem zs_istore (F : zFix X) {k : Nat} {x : Int32} (d : decode (xcc X) pc = .ok (.istore k, 2)) (hk : k < ls.length) (K : zC X (pc + 2) (zs1 ls k (.int x)) st σ) : zC X pc ls (.int x :: st) σ := fun L rls H locs h1 h2 h3 h4 => lv_istore F.1 F.2.1 d h2.has (by rw [← h2.2.2.1]; exact hk) rfl fun rls' h' => K L rls' H locs h1 (h2.st1 (v := .int x) (by rw [← h2.2.2.1]; exact hk) h') (h3.st1 trivial) h4.tl
theorem zs_istore_n (F : zFix X) {k : Fin 4} {x : Int32} (d : decode (xcc X) pc = .ok (.istore_n k, 1)) (hk : (k : Nat) < ls.length) (K : zC X (pc + 1) (zs1 ls k (.int x)) st σ) : zC X pc ls (.int x :: st) σ := fun L rls H locs h1 h2 h3 h4 => lv_istore_n F.1 F.2.1 d rfl h2.has (by rw [← h2.2.2.1]; exact hk) rfl fun rls' h' => K L rls' H locs h1 (h2.st1 (v := .int x) (by rw [← h2.2.2.1]; exact hk) h') (h3.st1 trivial) h4.tl
theorem zs_lstore (F : zFix X) {k : Nat} {x : Int64} (d : decode (xcc X) pc = .ok (.lstore k, 2)) (hk : k + 1 < ls.length) (K : zC X (pc + 2) (zs2 ls k (.long x)) st σ) : zC X pc ls (.long x :: st) σ := fun L rls H locs h1 h2 h3 h4 => lv_lstore F.1 F.2.1 d h2.has (by rw [← h2.2.2.1]; exact hk) rfl fun rls' h' => K L rls' H locs h1 (h2.st2 (v := .long x) (by rw [← h2.2.2.1]; exact hk) h') (h3.st2 trivial) h4.tl
theorem zs_lstore_n (F : zFix X) {k : Fin 4} {x : Int64} (d : decode (xcc X) pc = .ok (.lstore_n k, 1)) (hk : (k : Nat) + 1 < ls.length) (K : zC X (pc + 1) (zs2 ls k (.long x)) st σ) : zC X pc ls (.long x :: st) σ := fun L rls H locs h1 h2 h3 h4 => lv_lstore_n F.1 F.2.1 d rfl h2.has (by rw [← h2.2.2.1]; exact hk) rfl fun rls' h' => K L rls' H locs h1 (h2.st2 (v := .long x) (by rw [← h2.2.2.1]; exact hk) h') (h3.st2 trivial) h4.tl
theorem zs_astore (F : zFix X) {k : Nat} {x : Nat} (d : decode (xcc X) pc = .ok (.astore k, 2)) (hk : k < ls.length) (K : zC X (pc + 2) (zs1 ls k (.ref x)) st σ) : zC X pc ls (.ref x :: st) σ := fun L rls H locs h1 h2 h3 h4 => lv_astore F.1 F.2.1 d h2.has (by rw [← h2.2.2.1]; exact hk) rfl fun rls' h' => K L rls' H locs h1 (h2.st1 (v := .ref x) (by rw [← h2.2.2.1]; exact hk) h') (h3.st1 h4.hd) h4.tl
theorem zs_astore_n (F : zFix X) {k : Fin 4} {x : Nat} (d : decode (xcc X) pc = .ok (.astore_n k, 1)) (hk : (k : Nat) < ls.length) (K : zC X (pc + 1) (zs1 ls k (.ref x)) st σ) : zC X pc ls (.ref x :: st) σ := fun L rls H locs h1 h2 h3 h4 => lv_astore_n F.1 F.2.1 d rfl h2.has (by rw [← h2.2.2.1]; exact hk) rfl fun rls' h' => K L rls' H locs h1 (h2.st1 (v := .ref x) (by rw [← h2.2.2.1]; exact hk) h') (h3.st1 h4.hd) h4.tl
theorem zs_astoreN (F : zFix X) {k : Nat} (d : decode (xcc X) pc = .ok (.astore k, 2)) (hk : k < ls.length) (K : zC X (pc + 2) (zs1 ls k .null) st σ) : zC X pc ls (.null :: st) σ := fun L rls H locs h1 h2 h3 h4 => lv_astoreN F.1 F.2.1 d h2.has (by rw [← h2.2.2.1]; exact hk) rfl fun rls' h' => K L rls' H locs h1 (h2.st1 (v := .null) (by rw [← h2.2.2.1]; exact hk) h') (h3.st1 trivial) h4.tl
theorem zs_astore_nN (F : zFix X) {k : Fin 4} (d : decode (xcc X) pc = .ok (.astore_n k, 1)) (hk : (k : Nat) < ls.length) (K : zC X (pc + 1) (zs1 ls k .null) st σ) : zC X pc ls (.null :: st) σ := fun L rls H locs h1 h2 h3 h4 => lv_astore_nN F.1 F.2.1 d rfl h2.has (by rw [← h2.2.2.1]; exact hk) rfl fun rls' h' => K L rls' H locs h1 (h2.st1 (v := .null) (by rw [← h2.2.2.1]; exact hk) h') (h3.st1 trivial) h4.tl
theorem zs_iinc (F : zFix X) {k : Nat} {n : Int} {x : Int32} (d : decode (xcc X) pc = .ok (.iinc k n, 3)) (hk : k < ls.length) (hg : zg ls k = some (.int x)) (K : zC X (pc + 3) (zs1 ls k (.int (x + Int32.ofInt n))) st σ) : zC X pc ls st σ := by
  intro L rls H locs h1 h2 h3 h4
  obtain ⟨j, hj⟩ := List.getElem?_of_mem ((zal_mem (L := L) (n := xnL X) (ls := ls) (q := (k, .int x))).mpr ⟨.int x, by rw [← h2.2.2.1]; exact hk, hg, rfl⟩)
  exact lv_iinc F.1 F.2.1 d h2.has (k := j) hj rfl (by rw [← h2.2.2.1]; exact hk) rfl fun rls' h' => K L rls' H locs h1 (h2.st1 (v := .int (x + Int32.ofInt n)) (by rw [← h2.2.2.1]; exact hk) h') (h3.st1 trivial) h4
theorem zs_iconst (F : zFix X) {n : Int} (d : decode (xcc X) pc = .ok (.iconst n, 1)) (K : zC X (pc + 1) ls (.int (Int32.ofInt n) :: st) σ) : zC X pc ls st σ := fun L rls H locs h1 h2 h3 h4 => lv_iconst F.1 F.2.1 d rfl (K L rls H locs h1 h2 h3 (h4.cons trivial))
theorem zs_bipush (F : zFix X) {n : Int} (d : decode (xcc X) pc = .ok (.bipush n, 2)) (K : zC X (pc + 2) ls (.int (Int8.ofInt n).toInt32 :: st) σ) : zC X pc ls st σ := fun L rls H locs h1 h2 h3 h4 => lv_bipush F.1 F.2.1 d rfl (K L rls H locs h1 h2 h3 (h4.cons trivial))
theorem zs_sipush (F : zFix X) {n : Int} (d : decode (xcc X) pc = .ok (.sipush n, 3)) (K : zC X (pc + 3) ls (.int (Int16.ofInt n).toInt32 :: st) σ) : zC X pc ls st σ := fun L rls H locs h1 h2 h3 h4 => lv_sipush F.1 F.2.1 d rfl (K L rls H locs h1 h2 h3 (h4.cons trivial))
theorem zs_lconst (F : zFix X) {n : Fin 2} (d : decode (xcc X) pc = .ok (.lconst n, 1)) (K : zC X (pc + 1) ls (.long (Int64.ofNat n) :: st) σ) : zC X pc ls st σ := fun L rls H locs h1 h2 h3 h4 => lv_lconst F.1 F.2.1 d rfl (K L rls H locs h1 h2 h3 (h4.cons trivial))
theorem zs_ldc (F : zFix X) {i : Nat} {v : Int32} (hw : Cond.constant (xown X) i v ∈ xTs X) (d : decode (xcc X) pc = .ok (.ldc i, 2)) (K : zC X (pc + 2) ls (.int v :: st) σ) : zC X pc ls st σ := fun L rls H locs h1 h2 h3 h4 => lv_ldc F.1 F.2.1 F.2.2.2.1 (F.2.2.2.2.1 _ hw) d (K L rls H locs h1 h2 h3 (h4.cons trivial))
theorem zs_ldc2 (F : zFix X) {i : Nat} {v : Int64} (hw : Cond.constantLong (xown X) i v ∈ xTs X) (d : decode (xcc X) pc = .ok (.ldc2_w i, 3)) (K : zC X (pc + 3) ls (.long v :: st) σ) : zC X pc ls st σ := fun L rls H locs h1 h2 h3 h4 => lv_ldc2 F.1 F.2.1 F.2.2.2.1 (F.2.2.2.2.1 _ hw) d (K L rls H locs h1 h2 h3 (h4.cons trivial))
theorem zs_null (F : zFix X) (d : decode (xcc X) pc = .ok (.aconst_null, 1)) (K : zC X (pc + 1) ls (.null :: st) σ) : zC X pc ls st σ := fun L rls H locs h1 h2 h3 h4 => lv_null F.1 F.2.1 d (K L rls H locs h1 h2 h3 (h4.cons trivial))
theorem zs_pop (F : zFix X) {v : Value} (hv : v.category = 1) (d : decode (xcc X) pc = .ok (.pop, 1)) (K : zC X (pc + 1) ls st σ) : zC X pc ls (v :: st) σ := fun L rls H locs h1 h2 h3 h4 => lv_pop F.1 F.2.1 d (by rw [zt_cat]; exact hv) (K L rls H locs h1 h2 h3 h4.tl)
theorem zs_dup (F : zFix X) {v : Value} (hv : v.category = 1) (d : decode (xcc X) pc = .ok (.dup, 1)) (K : zC X (pc + 1) ls (v :: v :: st) σ) : zC X pc ls (v :: st) σ := fun L rls H locs h1 h2 h3 h4 => lv_dup F.1 F.2.1 d (by rw [zt_cat]; exact hv) (K L rls H locs h1 h2 h3 (h4.cons h4.hd))
theorem zs_dup2 (F : zFix X) {v w : Value} (hv : v.category = 1) (hw : w.category = 1) (d : decode (xcc X) pc = .ok (.dup2, 1)) (K : zC X (pc + 1) ls (v :: w :: v :: w :: st) σ) : zC X pc ls (v :: w :: st) σ := fun L rls H locs h1 h2 h3 h4 => lv_dup2_11 F.1 F.2.1 d (by rw [zt_cat]; exact hv) (by rw [zt_cat]; exact hw) (K L rls H locs h1 h2 h3 ((h4.cons h4.tl.hd).cons h4.hd))
theorem zs_iadd (F : zFix X) {a b : Int32} (d : decode (xcc X) pc = .ok (.iadd, 1)) (K : zC X (pc + 1) ls (.int (a + b) :: st) σ) : zC X pc ls (.int b :: .int a :: st) σ := fun L rls H locs h1 h2 h3 h4 => lv_iadd F.1 F.2.1 d (K L rls H locs h1 h2 h3 (h4.tl.tl.cons trivial))
theorem zs_isub (F : zFix X) {a b : Int32} (d : decode (xcc X) pc = .ok (.isub, 1)) (K : zC X (pc + 1) ls (.int (a - b) :: st) σ) : zC X pc ls (.int b :: .int a :: st) σ := fun L rls H locs h1 h2 h3 h4 => lv_isub F.1 F.2.1 d (K L rls H locs h1 h2 h3 (h4.tl.tl.cons trivial))
theorem zs_imul (F : zFix X) {a b : Int32} (d : decode (xcc X) pc = .ok (.imul, 1)) (K : zC X (pc + 1) ls (.int (a * b) :: st) σ) : zC X pc ls (.int b :: .int a :: st) σ := fun L rls H locs h1 h2 h3 h4 => lv_imul F.1 F.2.1 d (K L rls H locs h1 h2 h3 (h4.tl.tl.cons trivial))
theorem zs_iand (F : zFix X) {a b : Int32} (d : decode (xcc X) pc = .ok (.iand, 1)) (K : zC X (pc + 1) ls (.int (a &&& b) :: st) σ) : zC X pc ls (.int b :: .int a :: st) σ := fun L rls H locs h1 h2 h3 h4 => lv_iand F.1 F.2.1 d (K L rls H locs h1 h2 h3 (h4.tl.tl.cons trivial))
theorem zs_ixor (F : zFix X) {a b : Int32} (d : decode (xcc X) pc = .ok (.ixor, 1)) (K : zC X (pc + 1) ls (.int (a ^^^ b) :: st) σ) : zC X pc ls (.int b :: .int a :: st) σ := fun L rls H locs h1 h2 h3 h4 => lv_ixor F.1 F.2.1 d (K L rls H locs h1 h2 h3 (h4.tl.tl.cons trivial))
theorem zs_ishr (F : zFix X) {a b : Int32} (d : decode (xcc X) pc = .ok (.ishr, 1)) (K : zC X (pc + 1) ls (.int (a >>> (b &&& 31)) :: st) σ) : zC X pc ls (.int b :: .int a :: st) σ := fun L rls H locs h1 h2 h3 h4 => lv_ishr F.1 F.2.1 d (K L rls H locs h1 h2 h3 (h4.tl.tl.cons trivial))
theorem zs_ishl (F : zFix X) {a b : Int32} (d : decode (xcc X) pc = .ok (.ishl, 1)) (K : zC X (pc + 1) ls (.int (a <<< (b &&& 31)) :: st) σ) : zC X pc ls (.int b :: .int a :: st) σ := fun L rls H locs h1 h2 h3 h4 => lv_ishl F.1 F.2.1 d (K L rls H locs h1 h2 h3 (h4.tl.tl.cons trivial))
theorem zs_idiv (F : zFix X) {a b : Int32} (h0 : ¬ b = 0) (d : decode (xcc X) pc = .ok (.idiv, 1)) (K : zC X (pc + 1) ls (.int (a / b) :: st) σ) : zC X pc ls (.int b :: .int a :: st) σ := fun L rls H locs h1 h2 h3 h4 => lv_idiv F.1 F.2.1 d h0 (K L rls H locs h1 h2 h3 (h4.tl.tl.cons trivial))
theorem zs_irem (F : zFix X) {a b : Int32} (h0 : ¬ b = 0) (d : decode (xcc X) pc = .ok (.irem, 1)) (K : zC X (pc + 1) ls (.int (a - a / b * b) :: st) σ) : zC X pc ls (.int b :: .int a :: st) σ := fun L rls H locs h1 h2 h3 h4 => lv_irem F.1 F.2.1 d h0 (K L rls H locs h1 h2 h3 (h4.tl.tl.cons trivial))
theorem zs_ineg (F : zFix X) {a : Int32} (d : decode (xcc X) pc = .ok (.ineg, 1)) (K : zC X (pc + 1) ls (.int (-a) :: st) σ) : zC X pc ls (.int a :: st) σ := fun L rls H locs h1 h2 h3 h4 => lv_ineg F.1 F.2.1 d (K L rls H locs h1 h2 h3 (h4.tl.cons trivial))
theorem zs_i2l (F : zFix X) {a : Int32} (d : decode (xcc X) pc = .ok (.i2l, 1)) (K : zC X (pc + 1) ls (.long a.toInt64 :: st) σ) : zC X pc ls (.int a :: st) σ := fun L rls H locs h1 h2 h3 h4 => lv_i2l F.1 F.2.1 d rfl (K L rls H locs h1 h2 h3 (h4.tl.cons trivial))
theorem zs_i2b (F : zFix X) {a : Int32} (d : decode (xcc X) pc = .ok (.i2b, 1)) (K : zC X (pc + 1) ls (.int a.toInt8.toInt32 :: st) σ) : zC X pc ls (.int a :: st) σ := fun L rls H locs h1 h2 h3 h4 => lv_i2b F.1 F.2.1 d rfl (K L rls H locs h1 h2 h3 (h4.tl.cons trivial))
theorem zs_ladd (F : zFix X) {a b : Int64} (d : decode (xcc X) pc = .ok (.ladd, 1)) (K : zC X (pc + 1) ls (.long (a + b) :: st) σ) : zC X pc ls (.long b :: .long a :: st) σ := fun L rls H locs h1 h2 h3 h4 => lv_ladd F.1 F.2.1 d (K L rls H locs h1 h2 h3 (h4.tl.tl.cons trivial))
theorem zs_lmul (F : zFix X) {a b : Int64} (d : decode (xcc X) pc = .ok (.lmul, 1)) (K : zC X (pc + 1) ls (.long (a * b) :: st) σ) : zC X pc ls (.long b :: .long a :: st) σ := fun L rls H locs h1 h2 h3 h4 => lv_lmul F.1 F.2.1 d (K L rls H locs h1 h2 h3 (h4.tl.tl.cons trivial))
theorem zs_lcmp (F : zFix X) {a b : Int64} (d : decode (xcc X) pc = .ok (.lcmp, 1)) (K : zC X (pc + 1) ls (.int (lg_cmp a b) :: st) σ) : zC X pc ls (.long b :: .long a :: st) σ := fun L rls H locs h1 h2 h3 h4 => W.lcmp F.1 F.2.1 d (K L rls H locs h1 h2 h3 (h4.tl.tl.cons trivial))
theorem zs_goto (F : zFix X) {off : Int} {t : Nat} (ht : (pc : Int) + off = t) (d : decode (xcc X) pc = .ok (.goto off, 3)) (K : zC X t ls st σ) : zC X pc ls st σ := fun L rls H locs h1 h2 h3 h4 => lv_goto F.1 F.2.1 d ht (K L rls H locs h1 h2 h3 h4)
theorem zs_ifR (F : zFix X) {off : Int} {a : Nat} (d : decode (xcc X) pc = .ok (.ifnull off, 3)) (K : zC X (pc + 3) ls st σ) : zC X pc ls (.ref a :: st) σ := fun L rls H locs h1 h2 h3 h4 => lv_ifnull F.1 F.2.1 d (K L rls H locs h1 h2 h3 h4.tl)
theorem zs_ifN (F : zFix X) {off : Int} {t : Nat} (ht : (pc : Int) + off = t) (d : decode (xcc X) pc = .ok (.ifnull off, 3)) (K : zC X t ls st σ) : zC X pc ls (.null :: st) σ := fun L rls H locs h1 h2 h3 h4 => lv_ifnullN F.1 F.2.1 d ht (K L rls H locs h1 h2 h3 h4.tl)
theorem zs_ifnR (F : zFix X) {off : Int} {a t : Nat} (ht : (pc : Int) + off = t) (d : decode (xcc X) pc = .ok (.ifnonnull off, 3)) (K : zC X t ls st σ) : zC X pc ls (.ref a :: st) σ := fun L rls H locs h1 h2 h3 h4 => lv_ifnonnull F.1 F.2.1 d ht (K L rls H locs h1 h2 h3 h4.tl)
theorem zs_ifnN (F : zFix X) {off : Int} (d : decode (xcc X) pc = .ok (.ifnonnull off, 3)) (K : zC X (pc + 3) ls st σ) : zC X pc ls (.null :: st) σ := fun L rls H locs h1 h2 h3 h4 => lv_ifnonnullN F.1 F.2.1 d (K L rls H locs h1 h2 h3 h4.tl)
theorem zs_tabO (F : zFix X) {df lo hi : Int} {offs : Array Int} {len t : Nat} {x : Int32} (h : x.toInt < lo ∨ hi < x.toInt) (ht : (pc : Int) + df = t) (d : decode (xcc X) pc = .ok (.tableswitch df lo hi offs, len)) (K : zC X t ls st σ) : zC X pc ls (.int x :: st) σ := fun L rls H locs h1 h2 h3 h4 => lv_tableOut F.1 F.2.1 d h ht (K L rls H locs h1 h2 h3 h4.tl)
theorem zs_tabI (F : zFix X) {df lo hi off : Int} {offs : Array Int} {len t : Nat} {x : Int32} (hl : ¬ x.toInt < lo) (hh : ¬ hi < x.toInt) (ho : offs[(x.toInt - lo).toNat]? = some off) (ht : (pc : Int) + off = t) (d : decode (xcc X) pc = .ok (.tableswitch df lo hi offs, len)) (K : zC X t ls st σ) : zC X pc ls (.int x :: st) σ := fun L rls H locs h1 h2 h3 h4 => lv_tableIn F.1 F.2.1 d hl hh ho ht (K L rls H locs h1 h2 h3 h4.tl)
theorem zs_if_eq (F : zFix X) {x : Int32} {off : Int} {t : Nat} (ht : (pc : Int) + off = t) (d : decode (xcc X) pc = .ok (.ifCond .eq off, 3)) (kt : x = 0 → zC X t ls st σ) (kf : ¬ x = 0 → zC X (pc + 3) ls st σ) : zC X pc ls (.int x :: st) σ := fun L rls H locs h1 h2 h3 h4 => lv_if_eq F.1 F.2.1 d ht (fun q => kt q L rls H locs h1 h2 h3 h4.tl) (fun q => kf q L rls H locs h1 h2 h3 h4.tl)
theorem zs_if_ne (F : zFix X) {x : Int32} {off : Int} {t : Nat} (ht : (pc : Int) + off = t) (d : decode (xcc X) pc = .ok (.ifCond .ne off, 3)) (kt : ¬ x = 0 → zC X t ls st σ) (kf : x = 0 → zC X (pc + 3) ls st σ) : zC X pc ls (.int x :: st) σ := fun L rls H locs h1 h2 h3 h4 => lv_if_ne F.1 F.2.1 d ht (fun q => kt q L rls H locs h1 h2 h3 h4.tl) (fun q => kf q L rls H locs h1 h2 h3 h4.tl)
theorem zs_if_lt (F : zFix X) {x : Int32} {off : Int} {t : Nat} (ht : (pc : Int) + off = t) (d : decode (xcc X) pc = .ok (.ifCond .lt off, 3)) (kt : x < 0 → zC X t ls st σ) (kf : ¬ x < 0 → zC X (pc + 3) ls st σ) : zC X pc ls (.int x :: st) σ := fun L rls H locs h1 h2 h3 h4 => lv_if_lt F.1 F.2.1 d ht (fun q => kt q L rls H locs h1 h2 h3 h4.tl) (fun q => kf q L rls H locs h1 h2 h3 h4.tl)
theorem zs_if_ge (F : zFix X) {x : Int32} {off : Int} {t : Nat} (ht : (pc : Int) + off = t) (d : decode (xcc X) pc = .ok (.ifCond .ge off, 3)) (kt : 0 ≤ x → zC X t ls st σ) (kf : ¬ 0 ≤ x → zC X (pc + 3) ls st σ) : zC X pc ls (.int x :: st) σ := fun L rls H locs h1 h2 h3 h4 => lv_if_ge F.1 F.2.1 d ht (fun q => kt q L rls H locs h1 h2 h3 h4.tl) (fun q => kf q L rls H locs h1 h2 h3 h4.tl)
theorem zs_if_gt (F : zFix X) {x : Int32} {off : Int} {t : Nat} (ht : (pc : Int) + off = t) (d : decode (xcc X) pc = .ok (.ifCond .gt off, 3)) (kt : 0 < x → zC X t ls st σ) (kf : ¬ 0 < x → zC X (pc + 3) ls st σ) : zC X pc ls (.int x :: st) σ := fun L rls H locs h1 h2 h3 h4 => lv_if_gt F.1 F.2.1 d ht (fun q => kt q L rls H locs h1 h2 h3 h4.tl) (fun q => kf q L rls H locs h1 h2 h3 h4.tl)
theorem zs_if_le (F : zFix X) {x : Int32} {off : Int} {t : Nat} (ht : (pc : Int) + off = t) (d : decode (xcc X) pc = .ok (.ifCond .le off, 3)) (kt : x ≤ 0 → zC X t ls st σ) (kf : ¬ x ≤ 0 → zC X (pc + 3) ls st σ) : zC X pc ls (.int x :: st) σ := fun L rls H locs h1 h2 h3 h4 => lv_if_le F.1 F.2.1 d ht (fun q => kt q L rls H locs h1 h2 h3 h4.tl) (fun q => kf q L rls H locs h1 h2 h3 h4.tl)
theorem zs_icmp_eq (F : zFix X) {a b : Int32} {off : Int} {t : Nat} (ht : (pc : Int) + off = t) (d : decode (xcc X) pc = .ok (.if_icmp .eq off, 3)) (kt : a = b → zC X t ls st σ) (kf : ¬ a = b → zC X (pc + 3) ls st σ) : zC X pc ls (.int b :: .int a :: st) σ := fun L rls H locs h1 h2 h3 h4 => lv_icmp_eq F.1 F.2.1 d ht (fun q => kt q L rls H locs h1 h2 h3 h4.tl.tl) (fun q => kf q L rls H locs h1 h2 h3 h4.tl.tl)
theorem zs_icmp_ne (F : zFix X) {a b : Int32} {off : Int} {t : Nat} (ht : (pc : Int) + off = t) (d : decode (xcc X) pc = .ok (.if_icmp .ne off, 3)) (kt : ¬ a = b → zC X t ls st σ) (kf : a = b → zC X (pc + 3) ls st σ) : zC X pc ls (.int b :: .int a :: st) σ := fun L rls H locs h1 h2 h3 h4 => lv_icmp_ne F.1 F.2.1 d ht (fun q => kt q L rls H locs h1 h2 h3 h4.tl.tl) (fun q => kf q L rls H locs h1 h2 h3 h4.tl.tl)
theorem zs_icmp_lt (F : zFix X) {a b : Int32} {off : Int} {t : Nat} (ht : (pc : Int) + off = t) (d : decode (xcc X) pc = .ok (.if_icmp .lt off, 3)) (kt : a < b → zC X t ls st σ) (kf : ¬ a < b → zC X (pc + 3) ls st σ) : zC X pc ls (.int b :: .int a :: st) σ := fun L rls H locs h1 h2 h3 h4 => lv_icmp_lt F.1 F.2.1 d ht (fun q => kt q L rls H locs h1 h2 h3 h4.tl.tl) (fun q => kf q L rls H locs h1 h2 h3 h4.tl.tl)
theorem zs_icmp_ge (F : zFix X) {a b : Int32} {off : Int} {t : Nat} (ht : (pc : Int) + off = t) (d : decode (xcc X) pc = .ok (.if_icmp .ge off, 3)) (kt : b ≤ a → zC X t ls st σ) (kf : ¬ b ≤ a → zC X (pc + 3) ls st σ) : zC X pc ls (.int b :: .int a :: st) σ := fun L rls H locs h1 h2 h3 h4 => lv_icmp_ge F.1 F.2.1 d ht (fun q => kt q L rls H locs h1 h2 h3 h4.tl.tl) (fun q => kf q L rls H locs h1 h2 h3 h4.tl.tl)
theorem zs_icmp_gt (F : zFix X) {a b : Int32} {off : Int} {t : Nat} (ht : (pc : Int) + off = t) (d : decode (xcc X) pc = .ok (.if_icmp .gt off, 3)) (kt : b < a → zC X t ls st σ) (kf : ¬ b < a → zC X (pc + 3) ls st σ) : zC X pc ls (.int b :: .int a :: st) σ := fun L rls H locs h1 h2 h3 h4 => lv_icmp_gt F.1 F.2.1 d ht (fun q => kt q L rls H locs h1 h2 h3 h4.tl.tl) (fun q => kf q L rls H locs h1 h2 h3 h4.tl.tl)
theorem zs_icmp_le (F : zFix X) {a b : Int32} {off : Int} {t : Nat} (ht : (pc : Int) + off = t) (d : decode (xcc X) pc = .ok (.if_icmp .le off, 3)) (kt : a ≤ b → zC X t ls st σ) (kf : ¬ a ≤ b → zC X (pc + 3) ls st σ) : zC X pc ls (.int b :: .int a :: st) σ := fun L rls H locs h1 h2 h3 h4 => lv_icmp_le F.1 F.2.1 d ht (fun q => kt q L rls H locs h1 h2 h3 h4.tl.tl) (fun q => kf q L rls H locs h1 h2 h3 h4.tl.tl)
end ZSTEP
end
section
/-! the instructions that read or write the heap -/
section ZHEAP
variable {X : zX} {pc : Nat} {ls : zLs} {st : List Value} {σ : zS}
theorem zRel.lt {L : List Nat} {H : Heap} {locs : List Loc} (h : zRel X L σ H locs) {a k n : Nat} (hk : σ.1[a]? = some (k, n)) (h2 : k ≠ 200) : xmo X ≤ a ∧ a < σ.1.length := by
  have h5 := (h.2.2.2.2.1.2 a k n hk)
  have h6 : ¬ a < xmo X := fun q => h2 (h5.mpr q)
  exact ⟨by omega, (List.getElem?_eq_some_iff.mp hk).1⟩
theorem zget_pre {L0 L : List Nat} {p : Nat} (h : L0 <+: L) (hp : p < L0.length) : L.getD p 0 = L0.getD p 0 := by
  obtain ⟨M, rfl⟩ := h
  rw [List.getD_eq_getElem?_getD, List.getD_eq_getElem?_getD, List.getElem?_append_left hp]
theorem zRel.ro {L : List Nat} {H : Heap} {locs : List Loc} (F : zFix X) (h : zRel X L σ H locs) {a n : Nat} (hk : σ.1[a]? = some (200, n)) : va_T .int (L.getD a 0) n (fun j => .int (σ.2.1 a j)) (xA X) (xs X) (xs X).heap := by
  have hp := (h.2.2.2.2.1.2 a 200 n hk).mp rfl
  obtain ⟨e1, e2⟩ := h.2.2.2.2.2.2.2.2.1 a hp
  rw [hk] at e2
  have e3 : n = (xRO X).2 a := (Prod.mk.inj (Option.some.inj e2)).2
  rw [e1, e3, zget_pre h.1 (Nat.lt_of_lt_of_le hp h.2.2.1)]
  exact F.2.2.2.2.2.2.2.2 a hp
theorem zs_getf (F : zFix X) {idx a k n j N : Nat} {C : String} {T : u_T} (hc : (xcl X)[k]? = some (C, T, N)) (hj : j < N) (hl : Cond.fieldLink (xown X) idx (T j).1 (T j).2.1 (T j).2.2.1 ∈ xTs X) (d : decode (xcc X) pc = .ok (.getfield idx, 3)) (hk : σ.1[a]? = some (k, n)) (K : zC X (pc + 3) ls (zfv ((xft X k).getD j .int) σ a j :: st) σ) : zC X pc ls (.ref a :: st) σ := by
  intro L rls H locs h1 h2 h3 h4
  obtain ⟨hx, hb, -, hown, hts, hK, hA, hcl, hro⟩ := id F
  obtain ⟨q1, q2, q3, q4, q5, -⟩ := hcl k C T N hc
  have hp := h1.lt hk (by omega)
  have hz := zw_at (ft := xft X) (cA := xcA X) (L := L) hp.1 hp.2
  rw [ze_obj hk q1] at hz
  refine va_get hx hb hts q3 hown hK h1.2.2.2.2.2.1 (a - xmo X) hz hc j hj (hts _ hl) (fun x h => h) (v := zt L (zfv ((xft X k).getD j .int) σ a j)) ?_ d (K L rls H locs h1 h2 h3 (h4.tl.cons ?_))
  · rw [List.getElem?_map, List.getElem?_range (by rw [← q2]; exact hj)]
    rfl
  · rw [h1.2.1]
    exact zfv_ok h1.2.2.2.1
theorem zfp_ne {a j b i : Nat} {v : Value} {σ1 : zS} (h : zfp σ a j v = some σ1) (hn : ¬ (b = a ∧ i = j)) : σ1.2.1 b i = σ.2.1 b i ∧ σ1.2.2.1 b i = σ.2.2.1 b i ∧ σ1.2.2.2.1 b i = σ.2.2.2.1 b i := by
  cases v <;> first | (cases h; done) | (cases h; refine ⟨?_, ?_, ?_⟩ <;> first | rfl | exact if_neg hn)
theorem zfp_K {a j : Nat} {v : Value} {σ1 : zS} (h : zfp σ a j v = some σ1) : σ1.1 = σ.1 ∧ znc σ1 = znc σ ∧ zns σ1 = zns σ := by
  cases v <;> first | (cases h; done) | (cases h; exact ⟨rfl, rfl, rfl⟩)
theorem zfp_VH {a j : Nat} {v : Value} {σ1 : zS} (hV : zVH σ) (hv : zvk σ.1.length v) (h : zfp σ a j v = some σ1) : zVH σ1 := by
  cases v with
  | int x => cases h; exact hV
  | long x => cases h; exact hV
  | ref x => cases h; exact hV.put hv
  | null => cases h; exact hV.putN
  | _ => cases h
theorem zfv_eq {ty : FieldType} {σ1 : zS} {b i : Nat} (h : σ1.2.1 b i = σ.2.1 b i ∧ σ1.2.2.1 b i = σ.2.2.1 b i ∧ σ1.2.2.2.1 b i = σ.2.2.2.1 b i) : zfv ty σ1 b i = zfv ty σ b i := by
  obtain ⟨h1, h2, h3⟩ := h
  cases ty <;> simp only [zfv, h1, h2, h3]
/-- a field's new value, in the list of an object's fields -/
theorem zfp_set {L : List Nat} {ty : Nat → FieldType} {N a j : Nat} {v : Value} {σ1 : zS} (hj : j < N) (h : zfp σ a j v = some σ1) (hf : fits (ty j) v = true) : (List.range N).map (fun i => zt L (zfv (ty i) σ1 a i)) = ((List.range N).map (fun i => zt L (zfv (ty i) σ a i))).set j (zt L v) := by
  refine List.ext_getElem? fun i => ?_
  by_cases hij : i = j
  · subst hij
    rw [List.getElem?_set_self (by rw [List.length_map, List.length_range]; exact hj), List.getElem?_map, List.getElem?_range hj]
    show some (zt L _) = some (zt L v)
    refine congrArg (fun z => some (zt L z)) ?_
    cases v with
    | int x =>
      cases h
      generalize ty i = t at hf
      cases t <;> first | exact congrArg Value.int (zup_at (h := σ.2.1) (p := a) (f := i) (v := x)) | (cases hf; done)
    | long x =>
      cases h
      generalize ty i = t at hf
      cases t <;> first | exact congrArg Value.long (zup_at (h := σ.2.2.2.1) (p := a) (f := i) (v := x)) | (cases hf; done)
    | ref x =>
      cases h
      generalize ty i = t at hf
      cases t <;> first | exact congrArg va_rf (zup_at (h := σ.2.2.1) (p := a) (f := i) (v := some x)) | (cases hf; done)
    | null =>
      cases h
      generalize ty i = t at hf
      cases t <;> first | exact congrArg va_rf (zup_at (h := σ.2.2.1) (p := a) (f := i) (v := none)) | (cases hf; done)
    | _ => cases h
  · rw [List.getElem?_set_ne (fun q => hij q.symm), List.getElem?_map, List.getElem?_map]
    by_cases hi : i < N
    · rw [List.getElem?_range hi]
      show some (zt L _) = some (zt L _)
      rw [zfv_eq (zfp_ne h (fun q => hij q.2))]
    · rw [List.getElem?_eq_none (by rw [List.length_range]; omega)]
      rfl
/-- one cell of the world has changed -/
theorem zRel.upd {L : List Nat} {σ1 : zS} {H H1 : Heap} {locs locs1 : List Loc} {a k n : Nat} {e : va_E} (h : zRel X L σ H locs) (hk : σ.1[a]? = some (k, n)) (h2 : k ≠ 200) (hK : σ1.1 = σ.1) (hn : znc σ1 = znc σ ∧ zns σ1 = zns σ) (hV : zVH σ1) (he : ze (xft X) (xcA X) L σ1 a = e) (ho : ∀ q, q ≠ a → σ1.2.1 q = σ.2.1 q ∧ σ1.2.2.1 q = σ.2.2.1 q ∧ σ1.2.2.2.1 q = σ.2.2.2.1 q)
    (hP : va_P (xD X) (xcl X) ((zw (xft X) (xcA X) (xmo X) L σ).set (a - xmo X) (L.getD a 0, e)) H1) (hD : va_D (xA X) ((zw (xft X) (xcA X) (xmo X) L σ).set (a - xmo X) (L.getD a 0, e))) (hS : va_S (xA X) (xs X).heap H1 locs1) : zRel X L σ1 H1 locs1 := by
  have hp := h.lt hk h2
  obtain ⟨r1, r2, r3, r4, r5, -, -, -, r9, r10, r11⟩ := h
  have hw := zw_set (ft := xft X) (cA := xcA X) (L := L) hK hp.1 hp.2 he (fun q hq => ze_same (by rw [hK]) (ho q hq).1 (ho q hq).2.1 (ho q hq).2.2)
  rw [hw] at hP hD
  refine ⟨r1, by rw [hK]; exact r2, r3, hV, by rw [hK]; exact r5, hP, hD, hS, fun p hp9 => ?_, by rw [hn.1]; exact r10, by rw [hn.2]; exact r11⟩
  rw [hK, (ho p (by omega)).1]
  exact r9 p hp9
theorem zs_putf (F : zFix X) {idx a k n j N : Nat} {C : String} {T : u_T} {v : Value} {σ1 : zS} (hc : (xcl X)[k]? = some (C, T, N)) (hj : j < N) (hl : Cond.fieldLink (xown X) idx (T j).1 (T j).2.1 (T j).2.2.1 ∈ xTs X) (hfin : (T j).2.2.2 = false ∨ ((T j).2.2.2 = true ∧ (xme X).name = "<init>" ∧ (T j).1 = xown X)) (d : decode (xcc X) pc = .ok (.putfield idx, 3)) (hk : σ.1[a]? = some (k, n)) (hna : narrow ((xft X k).getD j .int) v = v) (hfi : fits ((xft X k).getD j .int) v = true) (hz1 : zfp σ a j v = some σ1) (K : zC X (pc + 3) ls st σ1) : zC X pc ls (v :: .ref a :: st) σ := by
  intro L rls H locs h1 h2 h3 h4
  obtain ⟨hx, hb, -, hown, hts, hK, hA, hcl, hro⟩ := id F
  obtain ⟨q1, q2, q3, q4, q5, -⟩ := hcl k C T N hc
  have hp := h1.lt hk (by omega)
  have hz := zw_at (ft := xft X) (cA := xcA X) (L := L) hp.1 hp.2
  rw [ze_obj hk q1] at hz
  have hk1 := zfp_K hz1
  have hkn : σ1.1[a]? = some (k, n) := by rw [hk1.1]; exact hk
  have hset := zfp_set (L := L) (ty := fun i => (xft X k).getD i .int) (N := N) hj hz1 hfi
  rw [q2] at hset
  have hna' : narrow ((xft X k).getD j .int) (zt L v) = zt L v := by
    cases v with
    | ref x => generalize (xft X k).getD j .int = t at *; cases t <;> rfl
    | int x => exact hna
    | long x => exact hna
    | null => exact hna
    | float x => exact hna
    | double x => exact hna
    | retAddr x => exact hna
  have hfi' : fits ((xft X k).getD j .int) (zt L v) = true := by
    cases v with
    | ref x => generalize (xft X k).getD j .int = t at *; cases t <;> first | rfl | (cases hfi; done)
    | int x => exact hfi
    | long x => exact hfi
    | null => exact hfi
    | float x => exact hfi
    | double x => exact hfi
    | retAddr x => exact hfi
  have go : ∀ (H1 : Heap) (locs1 : List Loc), va_P (xD X) (xcl X) ((zw (xft X) (xcA X) (xmo X) L σ).set (a - xmo X) (L.getD a 0, .inr (k, ((List.range (xft X k).length).map (fun j => zt L (zfv ((xft X k).getD j .int) σ a j))).set j (zt L v)))) H1 → va_D (xA X) ((zw (xft X) (xcA X) (xmo X) L σ).set (a - xmo X) (L.getD a 0, .inr (k, ((List.range (xft X k).length).map (fun j => zt L (zfv ((xft X k).getD j .int) σ a j))).set j (zt L v)))) → va_S (xA X) (xs X).heap H1 locs1 → zWX X H1 locs1 (znc σ - xnc X) (zns σ - xns X) (F0 (xm X) (pc + 3) rls (st.map (zt L))) := by
    intro H1 locs1 gP gD gS
    have hv : zvk σ.1.length v := by rw [← h1.2.1]; exact h4.hd
    have hR := h1.upd hk (by omega) hk1.1 hk1.2 (zfp_VH h1.2.2.2.1 hv hz1) (by rw [ze_obj hkn q1, hset]) (fun q hq => ⟨funext fun i => (zfp_ne hz1 (fun z => hq z.1)).1, funext fun i => (zfp_ne hz1 (fun z => hq z.1)).2.1, funext fun i => (zfp_ne hz1 (fun z => hq z.1)).2.2⟩) gP gD gS
    have := K L rls H1 locs1 hR h2 h3 h4.tl.tl
    rw [hk1.2.1, hk1.2.2] at this
    exact this
  have hl2 : j < ((List.range (xft X k).length).map (fun j => zt L (zfv ((xft X k).getD j .int) σ a j))).length := by rw [List.length_map, List.length_range, ← q2]; exact hj
  rcases hfin with hf | ⟨hf, hi, ho⟩
  · exact va_put hx hb hts q3 (fun j => (xft X k).getD j .int) (fun j hj => (q4 j hj).1) q5 hown hK h1.2.2.2.2.2.1 h1.2.2.2.2.2.2.1 h1.2.2.2.2.2.2.2.1 (a - xmo X) hz hc j hj (hts _ hl) (fun x h => h) hf (q4 j hj).1 hna' hfi' hl2 d go
  · exact va_putF hx hb hts q3 (fun j => (xft X k).getD j .int) (fun j hj => (q4 j hj).1) q5 hown hK h1.2.2.2.2.2.1 h1.2.2.2.2.2.2.1 h1.2.2.2.2.2.2.2.1 (a - xmo X) hz hc j hj (hts _ hl) (fun x h => h) hf hi ho (q4 j hj).1 hna' hfi' hl2 d go
theorem zs_alen (F : zFix X) {a k n : Nat} (hk : σ.1[a]? = some (k, n)) (hkk : k = 100 ∨ k = 103 ∨ k = 104 ∨ k = 105 ∨ k = 200) (d : decode (xcc X) pc = .ok (.arraylength, 1)) (K : zC X (pc + 1) ls (.int (Int32.ofNat n) :: st) σ) : zC X pc ls (.ref a :: st) σ := by
  intro L rls H locs h1 h2 h3 h4
  obtain ⟨hx, hb, -, hown, hts, hK, hA, hcl, hro⟩ := id F
  by_cases h200 : k = 200
  · subst h200
    exact va_tlen hx hb (h1.ro F hk) h1.2.2.2.2.2.2.2.1 rfl d (K L rls H locs h1 h2 h3 (h4.tl.cons trivial))
  · have hp := h1.lt hk h200
    have hz := zw_at (ft := xft X) (cA := xcA X) (L := L) hp.1 hp.2
    have hk2 : k = 100 ∨ k = 103 ∨ k = 104 ∨ k = 105 := by omega
    rcases hk2 with rfl | rfl | rfl | rfl
    · rw [ze_int hk (by omega) (by omega)] at hz
      exact va_alen hx hb hK h1.2.2.2.2.2.1 (a - xmo X) 0 hz rfl rfl d (K L rls H locs h1 h2 h3 (h4.tl.cons trivial))
    · rw [ze_ref hk (by omega)] at hz
      exact va_alen hx hb hK h1.2.2.2.2.2.1 (a - xmo X) 1 hz rfl rfl d (K L rls H locs h1 h2 h3 (h4.tl.cons trivial))
    · rw [ze_ref hk (by omega)] at hz
      exact va_alen hx hb hK h1.2.2.2.2.2.1 (a - xmo X) 2 hz rfl rfl d (K L rls H locs h1 h2 h3 (h4.tl.cons trivial))
    · rw [ze_ref hk (by omega)] at hz
      exact va_alen hx hb hK h1.2.2.2.2.2.1 (a - xmo X) 3 hz rfl rfl d (K L rls H locs h1 h2 h3 (h4.tl.cons trivial))
theorem zs_iald (F : zFix X) {a k n : Nat} {i : Int32} (hk : σ.1[a]? = some (k, n)) (hkk : k = 100 ∨ k = 200) (hi : zin i n = true) (d : decode (xcc X) pc = .ok (.iaload, 1)) (K : zC X (pc + 1) ls (.int (σ.2.1 a i.toNatClampNeg) :: st) σ) : zC X pc ls (.int i :: .ref a :: st) σ := by
  intro L rls H locs h1 h2 h3 h4
  obtain ⟨hx, hb, -, hown, hts, hK, hA, hcl, hro⟩ := id F
  rcases hkk with rfl | rfl
  · have hp := h1.lt hk (by omega)
    have hz := zw_at (ft := xft X) (cA := xcA X) (L := L) hp.1 hp.2
    rw [ze_int hk (by omega) (by omega)] at hz
    exact va_iald hx hb hK h1.2.2.2.2.2.1 (a - xmo X) 0 hz rfl (zin_in hi) d (K L rls H locs h1 h2 h3 (h4.tl.tl.cons trivial))
  · exact va_ti hx hb (h1.ro F hk) h1.2.2.2.2.2.2.2.1 (zin_in hi) rfl d (K L rls H locs h1 h2 h3 (h4.tl.tl.cons trivial))
theorem zs_iast (F : zFix X) {a n : Nat} {i x : Int32} (hk : σ.1[a]? = some (100, n)) (hi : zin i n = true) (d : decode (xcc X) pc = .ok (.iastore, 1)) (K : zC X (pc + 1) ls st (σ.1, zup σ.2.1 a i.toNatClampNeg x, σ.2.2)) : zC X pc ls (.int x :: .int i :: .ref a :: st) σ := by
  intro L rls H locs h1 h2 h3 h4
  obtain ⟨hx, hb, -, hown, hts, hK, hA, hcl, hro⟩ := id F
  have hp := h1.lt hk (by omega)
  have hz := zw_at (ft := xft X) (cA := xcA X) (L := L) hp.1 hp.2
  rw [ze_int hk (by omega) (by omega)] at hz
  refine va_iast hx hb hK h1.2.2.2.2.2.1 h1.2.2.2.2.2.2.1 h1.2.2.2.2.2.2.2.1 (a - xmo X) 0 hz rfl (zin_in hi) d fun H1 locs1 gP gD gS => ?_
  refine K L rls H1 locs1 (h1.upd (σ1 := (σ.1, zup σ.2.1 a i.toNatClampNeg x, σ.2.2)) hk (by omega) rfl ⟨rfl, rfl⟩ h1.2.2.2.1 ?_ (fun q hq => ⟨zup_ne hq, rfl, rfl⟩) gP gD gS) h2 h3 h4.tl.tl.tl
  rw [ze_int (σ := (σ.1, zup σ.2.1 a i.toNatClampNeg x, σ.2.2)) (show (σ.1)[a]? = _ from hk) (by omega) (by omega)]
  refine congrArg (fun z => Sum.inl (xcA X 0, n, Sum.inl z)) (funext fun j => ?_)
  show (if a = a ∧ j = _ then x else _) = (if j = _ then x else _)
  by_cases hj : j = i.toNatClampNeg
  · rw [if_pos ⟨rfl, hj⟩, if_pos hj]
  · rw [if_neg (fun q => hj q.2), if_neg hj]
theorem zs_aald (F : zFix X) {a k n : Nat} {i : Int32} (hk : σ.1[a]? = some (k, n)) (hkk : k = 103 ∨ k = 104 ∨ k = 105) (hi : zin i n = true) (d : decode (xcc X) pc = .ok (.aaload, 1)) (K : zC X (pc + 1) ls (va_rf (σ.2.2.1 a i.toNatClampNeg) :: st) σ) : zC X pc ls (.int i :: .ref a :: st) σ := by
  intro L rls H locs h1 h2 h3 h4
  obtain ⟨hx, hb, -, hown, hts, hK, hA, hcl, hro⟩ := id F
  have hp := h1.lt hk (by omega)
  have hz := zw_at (ft := xft X) (cA := xcA X) (L := L) hp.1 hp.2
  rw [ze_ref hk (by omega)] at hz
  have hv : zvk L.length (va_rf (σ.2.2.1 a i.toNatClampNeg)) := by
    cases hq : σ.2.2.1 a i.toNatClampNeg with
    | none => trivial
    | some q => rw [h1.2.1]; exact h1.2.2.2.1 _ _ _ hq
  have k1 := K L rls H locs h1 h2 h3 (h4.tl.tl.cons hv)
  rw [List.map_cons, zt_rf] at k1
  rcases hkk with rfl | rfl | rfl
  · exact va_aldq hx hb hK h1.2.2.2.2.2.1 (a - xmo X) 1 hz rfl (zin_in hi) d k1
  · exact va_aldq hx hb hK h1.2.2.2.2.2.1 (a - xmo X) 2 hz rfl (zin_in hi) d k1
  · exact va_aldq hx hb hK h1.2.2.2.2.2.1 (a - xmo X) 3 hz rfl (zin_in hi) d k1
theorem zs_aast (F : zFix X) {a v k kv n nv N : Nat} {T : u_T} {i : Int32} (hk : σ.1[a]? = some (k, n)) (hkk : k = 103 ∨ k = 104 ∨ k = 105) (hkv : σ.1[v]? = some (kv, nv)) (hc : (xcl X)[kv]? = some (zAC k, T, N)) (hi : zin i n = true) (d : decode (xcc X) pc = .ok (.aastore, 1)) (K : zC X (pc + 1) ls st (σ.1, σ.2.1, zup σ.2.2.1 a i.toNatClampNeg (some v), σ.2.2.2)) : zC X pc ls (.ref v :: .int i :: .ref a :: st) σ := by
  intro L rls H locs h1 h2 h3 h4
  obtain ⟨hx, hb, -, hown, hts, hK, hA, hcl, hro⟩ := id F
  obtain ⟨q1, q2, q3, q4, q5, -⟩ := hcl kv _ T N hc
  have hp := h1.lt hk (by omega)
  have hz := zw_at (ft := xft X) (cA := xcA X) (L := L) hp.1 hp.2
  rw [ze_ref hk (by omega)] at hz
  have hpv := h1.lt hkv (by omega)
  have hzv := zw_at (ft := xft X) (cA := xcA X) (L := L) hpv.1 hpv.2
  rw [ze_obj hkv q1] at hzv
  have go : ∀ (H1 : Heap) (locs1 : List Loc), va_P (xD X) (xcl X) ((zw (xft X) (xcA X) (xmo X) L σ).set (a - xmo X) (L.getD a 0, .inl (xcA X (k - 100), n, .inr (.inr (.inr (.inr (va_up (fun j => (σ.2.2.1 a j).map (fun q => L.getD q 0)) i.toNatClampNeg (some (L.getD v 0))))))))) H1 → va_D (xA X) ((zw (xft X) (xcA X) (xmo X) L σ).set (a - xmo X) (L.getD a 0, .inl (xcA X (k - 100), n, .inr (.inr (.inr (.inr (va_up (fun j => (σ.2.2.1 a j).map (fun q => L.getD q 0)) i.toNatClampNeg (some (L.getD v 0))))))))) → va_S (xA X) (xs X).heap H1 locs1 → zWX X H1 locs1 (znc σ - xnc X) (zns σ - xns X) (F0 (xm X) (pc + 1) rls (st.map (zt L))) := by
    intro H1 locs1 gP gD gS
    refine K L rls H1 locs1 (h1.upd (σ1 := (σ.1, σ.2.1, zup σ.2.2.1 a i.toNatClampNeg (some v), σ.2.2.2)) hk (by omega) rfl ⟨rfl, rfl⟩ (h1.2.2.2.1.put hpv.2) ?_ (fun q hq => ⟨rfl, zup_ne hq, rfl⟩) gP gD gS) h2 h3 h4.tl.tl.tl
    rw [ze_ref (σ := (σ.1, σ.2.1, zup σ.2.2.1 a i.toNatClampNeg (some v), σ.2.2.2)) (show (σ.1)[a]? = _ from hk) (by omega)]
    refine congrArg (fun z => Sum.inl (xcA X (k - 100), n, Sum.inr (Sum.inr (Sum.inr (Sum.inr z))))) (funext fun j => ?_)
    show (if a = a ∧ j = _ then some v else _).map _ = (if j = _ then some _ else _)
    by_cases hj : j = i.toNatClampNeg
    · rw [if_pos ⟨rfl, hj⟩, if_pos hj]
      rfl
    · rw [if_neg (fun q => hj q.2), if_neg hj]
  rcases hkk with rfl | rfl | rfl
  · exact va_astq hx hb hK h1.2.2.2.2.2.1 h1.2.2.2.2.2.2.1 h1.2.2.2.2.2.2.2.1 (a - xmo X) 1 (v - xmo X) kv hz rfl hzv hc (zin_in hi) d go
  · exact va_astq hx hb hK h1.2.2.2.2.2.1 h1.2.2.2.2.2.2.1 h1.2.2.2.2.2.2.2.1 (a - xmo X) 2 (v - xmo X) kv hz rfl hzv hc (zin_in hi) d go
  · exact va_astq hx hb hK h1.2.2.2.2.2.1 h1.2.2.2.2.2.2.1 h1.2.2.2.2.2.2.2.1 (a - xmo X) 3 (v - xmo X) kv hz rfl hzv hc (zin_in hi) d go
end ZHEAP
end
section
/-! new cells, statics, ends -/
section ZNEW
variable {X : zX} {pc : Nat} {ls : zLs} {st : List Value} {σ : zS}
theorem zRel.push {L : List Nat} {H H1 : Heap} {locs locs1 : List Loc} {k n a : Nat} {e : va_E} (h : zRel X L σ H locs) (hk : k ≠ 200) (he : ze (xft X) (xcA X) (L ++ [a]) (znw σ k n) σ.1.length = e) (hP : va_P (xD X) (xcl X) (zw (xft X) (xcA X) (xmo X) L σ ++ [(a, e)]) H1) (hD : va_D (xA X) (zw (xft X) (xcA X) (xmo X) L σ ++ [(a, e)])) (hS : va_S (xA X) (xs X).heap H1 locs1) : zRel X (L ++ [a]) (znw σ k n) H1 locs1 := by
  obtain ⟨r1, r2, r3, r4, r5, -, -, -, r9, r10, r11⟩ := h
  have hl : (znw σ k n).1.length = σ.1.length + 1 := by show (σ.1 ++ [(k, n)]).length = _; rw [List.length_append]; rfl
  have hw := zw_push (ft := xft X) (cA := xcA X) (σ' := znw σ k n) (kn := (k, n)) r5.1 r4 r2 rfl (fun q hq => ⟨zupR_ne (by omega), zupR_ne (by omega), zupR_ne (by omega)⟩) he
  rw [hw] at hP hD
  refine ⟨r1.trans (List.prefix_append _ _), by rw [List.length_append, hl, r2]; rfl, r3, r4.new, ⟨by rw [hl]; have := r5.1; omega, fun p k9 n9 hp => ?_⟩, hP, hD, hS, fun p hp => ?_, by show _ ≤ σ.2.2.2.2.1 + 1; exact Nat.le_succ_of_le r10, by show _ ≤ σ.2.2.2.2.2 + n; exact Nat.le_add_right_of_le r11⟩
  · have hp : (σ.1 ++ [(k, n)])[p]? = some (k9, n9) := hp
    by_cases hpl : p < σ.1.length
    · rw [List.getElem?_append_left hpl] at hp
      exact r5.2 p k9 n9 hp
    · have hpl2 : p < (σ.1 ++ [(k, n)]).length := (List.getElem?_eq_some_iff.mp hp).1
      rw [List.length_append] at hpl2
      have hpe : p = σ.1.length := by simp at hpl2; omega
      rw [List.getElem?_append_right (by omega), hpe, Nat.sub_self] at hp
      cases hp
      exact ⟨fun q => absurd q hk, fun q => absurd r5.1 (by omega)⟩
  · obtain ⟨q1, q2⟩ := r9 p hp
    have hpl : p < σ.1.length := Nat.lt_of_lt_of_le hp r5.1
    refine ⟨(zupR_ne (by omega)).trans q1, ?_⟩
    show (σ.1 ++ [(k, n)])[p]? = _
    rw [List.getElem?_append_left hpl]
    exact q2
theorem zgo_new {L : List Nat} {rls : Array Slot} {H1 : Heap} {locs1 : List Loc} {pc2 k n a : Nat} (h : xnc X ≤ znc σ ∧ xns X ≤ zns σ) (hR : zRel X (L ++ [a]) (znw σ k n) H1 locs1) (hL : L.length = σ.1.length) (h2 : zlv L rls (xnL X) ls) (h3 : zlo L.length ls) (h4 : zso L.length st) (K : zC X pc2 ls (.ref σ.1.length :: st) (znw σ k n)) : zWX X H1 locs1 (znc σ - xnc X + 1) (zns σ - xns X + n) (F0 (xm X) pc2 rls (.ref a :: st.map (zt L))) := by
  have k1 := K (L ++ [a]) rls H1 locs1 hR (h2.app h3) (h3.mono (by simp)) ((h4.mono (by simp)).cons (show σ.1.length < _ by rw [List.length_append, hL]; simp))
  rw [List.map_cons, zt_apps h4] at k1
  have e1 : zt (L ++ [a]) (.ref σ.1.length) = .ref a := by
    show Value.ref ((L ++ [a]).getD σ.1.length 0) = _
    rw [← hL, List.getD_eq_getElem?_getD, List.getElem?_append_right (Nat.le_refl _), Nat.sub_self]
    rfl
  rw [e1] at k1
  have e2 : znc (znw σ k n) - xnc X = znc σ - xnc X + 1 := by show znc σ + 1 - _ = _; omega
  have e3 : zns (znw σ k n) - xns X = zns σ - xns X + n := by show zns σ + n - _ = _; omega
  rw [e2, e3] at k1
  exact k1
theorem zs_newi (F : zFix X) {n : Int32} (hn : ¬ n < 0) (hm : n.toNatClampNeg ≤ 100000) (ha : Cond.arrayClass .int ∈ xTs X) (d : decode (xcc X) pc = .ok (.newarray .int, 2)) (hr1 : znc σ + 1 - xnc X ≤ (xR X).cells) (hr2 : zns σ + n.toNatClampNeg - xns X ≤ (xR X).slots) (K : zC X (pc + 2) ls (.ref σ.1.length :: st) (znw σ 100 n.toNatClampNeg)) : zC X pc ls (.int n :: st) σ := by
  intro L rls H locs h1 h2 h3 h4
  obtain ⟨hx, hb, -, hown, hts, hK, hA, hcl, hro⟩ := id F
  have c1 := h1.2.2.2.2.2.2.2.2.2.1
  have c2 := h1.2.2.2.2.2.2.2.2.2.2
  refine va_newa (atype := .int) hx hb (hts _ ha) rfl hK h1.2.2.2.2.2.1 h1.2.2.2.2.2.2.1 h1.2.2.2.2.2.2.2.1 hA (a0 := (n.toNatClampNeg, .inl (fun _ => 0))) (fun cA => rfl) hn rfl (by show _ * 4 ≤ _; omega) (by omega) (by omega) d fun q cA' H1 gK gP gD gS => ?_
  have hcA : cA' = xcA X 0 := by
    have e1 : (xs X).vm.findClass ("[" ++ FieldType.int.toString) = some cA' := (gK.2 4 (cA', .int) rfl).2
    have e2 : (xs X).vm.findClass ("[" ++ FieldType.int.toString) = some (xcA X 0) := (hK.2 0 (xcA X 0, .int) rfl).2
    exact Option.some.inj (e1.symm.trans e2)
  subst hcA
  refine zgo_new ⟨c1, c2⟩ (h1.push (k := 100) (by decide) ?_ gP gD gS) h1.2.1 h2 h3 h4.tl K
  have hk : (znw σ 100 n.toNatClampNeg).1[σ.1.length]? = some (100, n.toNatClampNeg) := by
    show (σ.1 ++ [(100, n.toNatClampNeg)])[σ.1.length]? = _
    rw [List.getElem?_append_right (Nat.le_refl _), Nat.sub_self]; rfl
  rw [ze_int hk (by omega) (by omega)]
  refine congrArg (fun z => Sum.inl (xcA X 0, n.toNatClampNeg, Sum.inl z)) (funext fun j => ?_)
  show zupR σ.2.1 σ.1.length (fun _ => 0) σ.1.length j = 0
  rw [zupR_at]
theorem zs_newq (F : zFix X) {k idx : Nat} {n : Int32} (hn : ¬ n < 0) (hm : n.toNatClampNeg ≤ 100000) (hkk : k = 103 ∨ k = 104 ∨ k = 105) (ha : va_AO (zAC k) (xs X)) (hcl1 : Cond.classLink (xown X) idx (zAC k) ∈ xTs X) (d : decode (xcc X) pc = .ok (.anewarray idx, 3)) (hr1 : znc σ + 1 - xnc X ≤ (xR X).cells) (hr2 : zns σ + n.toNatClampNeg - xns X ≤ (xR X).slots) (K : zC X (pc + 3) ls (.ref σ.1.length :: st) (znw σ k n.toNatClampNeg)) : zC X pc ls (.int n :: st) σ := by
  intro L rls H locs h1 h2 h3 h4
  obtain ⟨hx, hb, -, hown, hts, hK, hA, hcl, hro⟩ := id F
  have c1 := h1.2.2.2.2.2.2.2.2.2.1
  have c2 := h1.2.2.2.2.2.2.2.2.2.2
  refine va_newq hx hb hown (hts _ hcl1) ha hK h1.2.2.2.2.2.1 h1.2.2.2.2.2.2.1 h1.2.2.2.2.2.2.2.1 hA hn rfl (by omega) (by omega) (by omega) d fun q cA' H1 gK gP gD gS => ?_
  have hcA : cA' = xcA X (k - 100) := by
    obtain ⟨kA, comp, -, -, -, e1⟩ := (gK.2 4 (cA', .object (zAC k)) rfl).2
    have e2 : (xs X).vm.findClass ("[" ++ (FieldType.object (zAC k)).toString) = some (xcA X (k - 100)) := by
      rcases hkk with rfl | rfl | rfl
      · obtain ⟨_, _, -, -, -, e⟩ := (hK.2 1 (xcA X 3, .object (zAC 103)) rfl).2
        exact e
      · obtain ⟨_, _, -, -, -, e⟩ := (hK.2 2 (xcA X 4, .object (zAC 104)) rfl).2
        exact e
      · obtain ⟨_, _, -, -, -, e⟩ := (hK.2 3 (xcA X 5, .object (zAC 105)) rfl).2
        exact e
    exact Option.some.inj (e1.symm.trans e2)
  subst hcA
  refine zgo_new ⟨c1, c2⟩ (h1.push (k := k) (by omega) ?_ gP gD gS) h1.2.1 h2 h3 h4.tl K
  have hk : (znw σ k n.toNatClampNeg).1[σ.1.length]? = some (k, n.toNatClampNeg) := by
    show (σ.1 ++ [(k, n.toNatClampNeg)])[σ.1.length]? = _
    rw [List.getElem?_append_right (Nat.le_refl _), Nat.sub_self]; rfl
  rw [ze_ref hk (by omega)]
  refine congrArg (fun z => Sum.inl (xcA X (k - 100), n.toNatClampNeg, Sum.inr (Sum.inr (Sum.inr (Sum.inr z))))) (funext fun j => ?_)
  show (zupR σ.2.2.1 σ.1.length (fun _ => none) σ.1.length j).map _ = none
  rw [zupR_at]
  rfl
theorem zs_new (F : zFix X) {k idx N : Nat} {C : String} {T : u_T} (hc : (xcl X)[k]? = some (C, T, N)) (hcl1 : Cond.classLink (xown X) idx C ∈ xTs X) (d : decode (xcc X) pc = .ok (.new idx, 3)) (hr1 : znc σ + 1 - xnc X ≤ (xR X).cells) (hr2 : zns σ + (xft X k).length - xns X ≤ (xR X).slots) (K : zC X (pc + 3) ls (.ref σ.1.length :: st) (znw σ k (xft X k).length)) : zC X pc ls st σ := by
  intro L rls H locs h1 h2 h3 h4
  obtain ⟨hx, hb, -, hown, hts, hK, hA, hcl, hro⟩ := id F
  obtain ⟨q1, q2, q3, q4, q5, q6, q7⟩ := hcl k C T N hc
  have c1 := h1.2.2.2.2.2.2.2.2.2.1
  have c2 := h1.2.2.2.2.2.2.2.2.2.2
  refine va_new hx hb hts q3 (fun j => (xft X k).getD j .int) (fun j hj => (q4 j hj).1) hown (hts _ hcl1) (hts _ q6) (hts _ q7) hK h1.2.2.2.2.2.1 h1.2.2.2.2.2.2.1 h1.2.2.2.2.2.2.2.1 hA hc (fs := (List.range N).map (fun j => defaultValue ((xft X k).getD j .int))) (fun j hj => ?_) (by omega) (by omega) d fun q H1 gP gD gS => ?_
  · unfold vp_V
    rw [List.getD_eq_getElem?_getD (l := List.map (fun j => defaultValue ((xft X k).getD j .int)) (List.range N)), List.getElem?_map, List.getElem?_range hj]
    rfl
  · rw [q2]
    refine zgo_new ⟨c1, c2⟩ (h1.push (k := k) (by omega) ?_ gP gD gS) h1.2.1 h2 h3 h4 K
    have hk : (znw σ k (xft X k).length).1[σ.1.length]? = some (k, (xft X k).length) := by
      show (σ.1 ++ [(k, (xft X k).length)])[σ.1.length]? = _
      rw [List.getElem?_append_right (Nat.le_refl _), Nat.sub_self]; rfl
    rw [ze_obj hk q1, q2]
    refine congrArg (fun z => Sum.inr (k, z)) (List.map_congr_left fun j hj => ?_)
    have hj2 := (q4 j (by rw [q2]; exact List.mem_range.mp hj)).2
    generalize (xft X k).getD j .int = t at hj2
    have z1 : (znw σ k (xft X k).length).2.1 σ.1.length j = 0 := by show zupR σ.2.1 σ.1.length (fun _ => 0) σ.1.length j = 0; rw [zupR_at]
    have z2 : (znw σ k (xft X k).length).2.2.1 σ.1.length j = none := by show zupR σ.2.2.1 σ.1.length (fun _ => none) σ.1.length j = none; rw [zupR_at]
    have z3 : (znw σ k (xft X k).length).2.2.2.1 σ.1.length j = 0 := by show zupR σ.2.2.2.1 σ.1.length (fun _ => 0) σ.1.length j = 0; rw [zupR_at]
    cases t <;> first | (cases hj2; done) | (simp only [zfv, z1, z2, z3]; rfl)
/-- the statics: which field is at which place -/
def zSN (k : Nat) : String := if k = 0 then "BY_NUMBERS" else if k = 1 then "SQUARE_FACTS" else if k = 2 then "GUN_FACTS" else if k = 3 then "COMPANY_FACTS" else "MINE_FACTS"
def zSt (X : zX) : Prop := ∀ k, k < 5 → va_Z "Siegelines" (zSN k) "[I" (.ref ((xL0 X).getD k 0)) (xA X) (xs X) (xs X).heap
theorem zs_gets (F : zFix X) (hS : zSt X) {k idx : Nat} (hk : k < 5) (hmo : 5 < xmo X) (hl : Cond.fieldLink (xown X) idx "Siegelines" (zSN k) "[I" ∈ xTs X ∨ Cond.fieldLinkNest (xown X) idx "Siegelines" (zSN k) "[I" "Siegelines" ∈ xTs X) (d : decode (xcc X) pc = .ok (.getstatic idx, 3)) (K : zC X (pc + 3) ls (.ref k :: st) σ) : zC X pc ls st σ := by
  intro L rls H locs h1 h2 h3 h4
  obtain ⟨hx, hb, -, hown, hts, hK, hA, hcl, hro⟩ := id F
  have hz := hS k hk
  have hm := h1.2.2.1
  have e : (xL0 X).getD k 0 = L.getD k 0 := (zget_pre h1.1 (by omega)).symm
  rw [e] at hz
  have k1 := K L rls H locs h1 h2 h3 (h4.cons (show k < L.length by have := h1.1.length_le; omega))
  rcases hl with hl | hl
  · exact va_gets hx hb hz h1.2.2.2.2.2.2.2.1 hown (hts _ hl) (fun x h => h) d k1
  · exact va_getsN hx hb hz h1.2.2.2.2.2.2.2.1 hown (hts _ hl) (fun x h => h) d k1
/-- the world behind a method -/
abbrev zY : Type := (va_G × List vw_C × (Nat → List FieldType) × (Nat → ClassId)) × (Nat × ((Nat → Nat → Int32) × (Nat → Nat)))
abbrev xY (X : zX) : zY := (X.2.1, (xmo X, xRO X))
def zEnd (Y : zY) (A : Nat → Prop) (L0 Lf : List Nat) (σ' : zS) (t : State) : Prop := L0 <+: Lf ∧ Lf.length = σ'.1.length ∧ zVH σ' ∧ zKi Y.2.1 σ'.1 ∧ va_P Y.1.1 Y.1.2.1 (zw Y.1.2.2.1 Y.1.2.2.2 Y.2.1 Lf σ') t.heap ∧ va_D A (zw Y.1.2.2.1 Y.1.2.2.2 Y.2.1 Lf σ') ∧ (∀ p, p < Y.2.1 → σ'.2.1 p = Y.2.2.1 p ∧ σ'.1[p]? = some (200, Y.2.2.2 p))
def zQc (Y : zY) (A : Nat → Prop) (L0 : List Nat) (o : zO) (σ' : zS) : Array Value → State → Outcome → State → Prop := fun _ st oc t => (∃ (Lf : List Nat) (v : Option Value), o = .inl v ∧ oc = .returned (v.map (zt Lf)) ∧ (∀ w, v = some w → zvk Lf.length w) ∧ zEnd Y A L0 Lf σ' t) ∧ va_F A st t
/-- the classes of what is thrown, by numbers -/
def zEx (k : Nat) : String := if k = 86 then "java/lang/IllegalStateException" else if k = 43 then "java/lang/IndexOutOfBoundsException" else "java/lang/IllegalArgumentException"
def zXc (Y : zY) (A : Nat → Prop) (L0 : List Nat) (o : zO) (σ' : zS) : String → State → State → Prop := fun E st t => (∃ (Lf : List Nat) (k : Nat), o = .inr k ∧ E = zEx k ∧ zEnd Y A L0 Lf σ' t) ∧ va_F A st t
theorem zRel.end_ {L : List Nat} {H : Heap} {locs : List Loc} {t : State} (h : zRel X L σ H locs) (ht : t.heap = H) : zEnd (xY X) (xA X) (xL0 X) L σ t ∧ va_F (xA X) (xs X) t := by
  obtain ⟨r1, r2, r3, r4, r5, r6, r7, r8, r9, r10, r11⟩ := h
  exact ⟨⟨r1, r2, r4, r5, by rw [ht]; exact r6, r7, r9⟩, r8.F ht⟩
def zQ (X : zX) (o : zO) (σ' : zS) : State → Prop := vx_MQ (xb X) (zQc (xY X) (xA X) (xL0 X) o σ') (zXc (xY X) (xA X) (xL0 X) o σ') (xa X) (xs X) (xR X).cells (xR X).slots (xA X)
theorem zs_iret (F : zFix X) {x : Int32} {ty : FieldType} (hQ : xQ X = zQ X (.inl (some (.int x))) σ) (hlk : (xme X).locks = false) (hr : (xme X).sig.returnType = some ty) (hn : narrow ty (.int x) = .int x) (d : decode (xcc X) pc = .ok (.ireturn, 1)) (hr1 : znc σ - xnc X ≤ (xR X).cells) (hr2 : zns σ - xns X ≤ (xR X).slots) : zC X pc ls [.int x] σ := by
  intro L rls H locs h1 h2 h3 h4
  obtain ⟨hx, hb, -, hown, hts, hK, hA, hcl, hro⟩ := id F
  unfold zWX
  rw [hQ]
  refine vx_ret ?_
  refine W.widen hr1 hr2 ?_
  exact W.zret hx hb hr hn (fun t ht _ => ⟨⟨L, some (.int x), rfl, rfl, fun w hw => by cases hw; trivial, (h1.end_ ht).1⟩, (h1.end_ ht).2⟩) h1.2.2.2.2.2.2.2.1.2.2 d hlk
theorem zs_lret (F : zFix X) {x : Int64} (hQ : xQ X = zQ X (.inl (some (.long x))) σ) (hlk : (xme X).locks = false) (hr : (xme X).sig.returnType = some .long) (d : decode (xcc X) pc = .ok (.lreturn, 1)) (hr1 : znc σ - xnc X ≤ (xR X).cells) (hr2 : zns σ - xns X ≤ (xR X).slots) : zC X pc ls [.long x] σ := by
  intro L rls H locs h1 h2 h3 h4
  obtain ⟨hx, hb, -, hown, hts, hK, hA, hcl, hro⟩ := id F
  unfold zWX
  rw [hQ]
  refine vx_ret ?_
  refine W.widen hr1 hr2 ?_
  exact W.lret hx hb hr (fun t ht _ => ⟨⟨L, some (.long x), rfl, rfl, fun w hw => by cases hw; trivial, (h1.end_ ht).1⟩, (h1.end_ ht).2⟩) h1.2.2.2.2.2.2.2.1.2.2 d hlk
theorem zs_aret (F : zFix X) {v : Value} {C : String} (hv : v = .null ∨ ∃ a, v = .ref a) (hQ : xQ X = zQ X (.inl (some v)) σ) (hlk : (xme X).locks = false) (hr : (xme X).sig.returnType = some (.object C)) (d : decode (xcc X) pc = .ok (.areturn, 1)) (hr1 : znc σ - xnc X ≤ (xR X).cells) (hr2 : zns σ - xns X ≤ (xR X).slots) : zC X pc ls [v] σ := by
  intro L rls H locs h1 h2 h3 h4
  obtain ⟨hx, hb, -, hown, hts, hK, hA, hcl, hro⟩ := id F
  unfold zWX
  rw [hQ]
  refine vx_ret ?_
  refine W.widen hr1 hr2 ?_
  refine W.aret (v := zt L v) hx hb hr (Or.inl ⟨C, rfl⟩) ?_ (fun t ht _ => ⟨⟨L, some v, rfl, rfl, fun w hw => by cases hw; exact h4.hd, (h1.end_ ht).1⟩, (h1.end_ ht).2⟩) h1.2.2.2.2.2.2.2.1.2.2 d hlk
  rcases hv with rfl | ⟨a, rfl⟩
  · exact Or.inl rfl
  · exact Or.inr ⟨_, rfl⟩
theorem zs_vret (F : zFix X) (hQ : xQ X = zQ X (.inl none) σ) (hlk : (xme X).locks = false) (hr : (xme X).sig.returnType = none) (d : decode (xcc X) pc = .ok (.return_, 1)) (hr1 : znc σ - xnc X ≤ (xR X).cells) (hr2 : zns σ - xns X ≤ (xR X).slots) : zC X pc ls [] σ := by
  intro L rls H locs h1 h2 h3 h4
  obtain ⟨hx, hb, -, hown, hts, hK, hA, hcl, hro⟩ := id F
  unfold zWX
  rw [hQ]
  refine vx_ret ?_
  refine W.widen hr1 hr2 ?_
  exact W.vret hx hb hr (fun t ht _ => ⟨⟨L, none, rfl, rfl, (fun w hw => by cases hw), (h1.end_ ht).1⟩, (h1.end_ ht).2⟩) h1.2.2.2.2.2.2.2.1.2.2 d hlk
end ZNEW
end
section
/-! contracts: a method of the interpreter's is a method of the machine -/
/-- the words that stay, whoever is asked -/
def zTb : List Cond := lw_tbl.filter goodWord
/-- words of other kinds that stay too -/
def zWk (w : Cond) : Bool := match w with
  | .castable _ _ => true
  | .declares _ => true
  | .fieldLinkNest _ _ _ _ _ _ => true
  | .methodLinkNest _ _ _ _ => true
  | _ => false
def zWs : List Cond := lw_tbl.filter zWk
theorem zWk_warm {w : Cond} {s U : State} (hw : zWk w = true) (hW : s.WarmedH U.vm) (h : va_Nw w s) : va_Nw w U := by
  cases w with
  | castable C T => exact va_Nw.warmC hW h
  | declares x => exact va_Nw.warmD hW h
  | fieldLinkNest a i b n d h' => exact va_Nw.warmF hW h
  | methodLinkNest a i x h' => exact va_Nw.warmM hW h
  | _ => cases hw
theorem zWk_tabs {w : Cond} (hw : zWk w = true) : w.onTables = true := by
  cases w <;> first | rfl | (cases hw; done)
/-- string constants that are thrown with: whose, which, what -/
def zSr (w : Cond) : Option (String × Nat × String) := match w with
  | .stringRef a i t => some (a, i, t)
  | _ => none
def zStr : List (String × Nat × String) := lw_tbl.filterMap zSr
/-- pairs of classes of which one isn't the other -/
def zNcs : List (String × String) := [("java/lang/IllegalStateException", "java/lang/IndexOutOfBoundsException"), ("java/lang/IndexOutOfBoundsException", "java/lang/IllegalStateException"), ("java/lang/IllegalArgumentException", "java/lang/IndexOutOfBoundsException"), ("java/lang/IllegalArgumentException", "java/lang/IllegalStateException")]
/-- what is so all the time, beside the world: seen from a state, of what the method may not change -/
def zVm (Y : zY) (L : List Nat) (A : Nat → Prop) (U : State) (H : Heap) : Prop :=
  (∀ p, p < Y.2.1 → va_T .int (L.getD p 0) (Y.2.2.2 p) (fun j => .int (Y.2.2.1 p j)) A U H) ∧
  (∀ k, k < 5 → va_Z "Siegelines" (zSN k) "[I" (.ref (L.getD k 0)) A U H) ∧
  vx_Zq Bundle.tN "UNASSIGNED_STACK" Bundle.steD A U H ∧ vx_Zq Bundle.tN "SUPPRESSED_SENTINEL" Bundle.listD A U H ∧
  (∀ x ∈ zStr, ∃ sa, vk_R x.1 x.2.1 x.2.2 sa U) ∧ (∀ x ∈ zNcs, va_Nc x.1 x.2 U) ∧ (∀ w ∈ zWs, va_Nw w U) ∧ (∀ k, k = 103 ∨ k = 104 ∨ k = 105 → va_AO (zAC k) U) ∧ va_K Y.1.1 Y.1.2.1 (zTys Y.1.2.2.2) U
theorem vx_Zq.to {C n d : String} {A B : Nat → Prop} {s U : State} {H H1 : Heap} (h : vx_Zq C n d A s H) (hW : s.WarmedH U.vm) (hq : ∀ a : Nat, a < H.size → ¬ A a → H1[a]? = H[a]?) (hAB : ∀ q, B q → A q) : vx_Zq C n d B U H1 := vx_Zq.moved hW.alike (vx_Zq.narrow (h.kept hq) hAB)
theorem zVm.to {Y : zY} {L L' : List Nat} {A B : Nat → Prop} {s U : State} {H H1 : Heap} (h : zVm Y L A s H) (hW : s.WarmedH U.vm) (hz : H.size ≤ H1.size) (hq : ∀ a : Nat, a < H.size → ¬ A a → H1[a]? = H[a]?) (hAB : ∀ q, B q → A q) (hL : L <+: L') (hm : Y.2.1 ≤ L.length) (h5 : 5 ≤ L.length) : zVm Y L' B U H1 := by
  obtain ⟨a1, a2, a3, a4, a5, a6, a7, a8, a9⟩ := h
  refine ⟨fun p hp => ?_, fun k hk => ?_, a3.to hW hq hAB, a4.to hW hq hAB, fun x hx => ?_, fun x hx => va_Nc.moved hW.alike (a6 x hx), fun w hw => zWk_warm (List.mem_filter.mp hw).2 hW (a7 w hw), fun k hk => va_AO.moved hW.alike (a8 k hk), va_K.moved hW.alike a9⟩
  · rw [zget_pre hL (by omega)]
    exact va_T.moved hW.alike (va_T.narrow ((a1 p hp).kept hq) hAB)
  · rw [zget_pre hL (by omega)]
    exact va_Z.moved hW.alike (va_Z.narrow ((a2 k hk).kept hq) hAB)
  · obtain ⟨sa, hs⟩ := a5 x hx
    exact ⟨sa, vk_R.warm hW hs⟩
/-- frames that come and go change nothing of it -/
theorem zVm.calling {Y : zY} {L : List Nat} {A : Nat → Prop} {U : State} {H : Heap} {g : JFrame} {mk : MethodId} {a : Array Value} (h : zVm Y L A U H) (hm : Y.2.1 ≤ L.length) (h5 : 5 ≤ L.length) : zVm Y L A (U.calling g mk a) H := h.to (U := U.calling g mk a) (State.WarmedH.refl U) (Nat.le_refl _) (fun _ _ _ => rfl) (fun _ q => q) (List.prefix_refl L) hm h5
/-- a method's start -/
def zPc (Y : zY) (L : List Nat) (σ : zS) (sz : Nat) (vs : List Value) : Array Value → State → Prop := va_Pc (vs.map (zt L)) (fun U => U.heap.size = sz ∧ L.length = σ.1.length ∧ 6 ≤ Y.2.1 ∧ Y.2.1 ≤ L.length ∧ zVH σ ∧ zKi Y.2.1 σ.1 ∧ va_P Y.1.1 Y.1.2.1 (zw Y.1.2.2.1 Y.1.2.2.2 Y.2.1 L σ) U.heap ∧ va_D (fun _ => True) (zw Y.1.2.2.1 Y.1.2.2.2 Y.2.1 L σ) ∧ (∀ p, p < Y.2.1 → σ.2.1 p = Y.2.2.1 p ∧ σ.1[p]? = some (200, Y.2.2.2 p)) ∧ zVm Y L (va_A (zw Y.1.2.2.1 Y.1.2.2.2 Y.2.1 L σ) sz) U U.heap ∧ zso L.length vs)
theorem zPc_blind (Y : zY) (L : List Nat) (σ : zS) (sz : Nat) (vs : List Value) : FrameBlind (zPc Y L σ sz vs) := by
  intro a U g mk h
  obtain ⟨h1, h2, h3, h4, h5, h6, h7, h8, h9, h10, h11, h12⟩ := h
  exact ⟨h1, h2, h3, h4, h5, h6, h7, h8, h9, h10, h11.calling h5 (by omega), h12⟩
/-- a method's word -/
def zcw (q : zM) : Cond := if zmH q = [] then .code (zmN q) (zmB q) (zmL q) (zmR q) else .codeWith (zmN q) (zmB q) (zmL q) (zmR q) (zmH q)
def zws (q : zM) : List Cond := zcw q :: zTb
def zrm (q : zM) (mc ms : Nat) : Room := { frames := zmF q, cells := mc, slots := ms, locals := zmW q }
def zMet (l : Launch) (Y : zY) (P : Nat → zM) (y : Nat) (vs : List Value) (σ : zS) (o : zO) (σ' : zS) : Prop := ∀ (L : List Nat) (sz : Nat), vx_Met l (zmN (P y)) (zws (P y)) (zrm (P y) (znc σ' - znc σ) (zns σ' - zns σ)) (zPc Y L σ sz vs) (zQc Y (va_A (zw Y.1.2.2.1 Y.1.2.2.2 Y.2.1 L σ) sz) L o σ') (zXc Y (va_A (zw Y.1.2.2.1 Y.1.2.2.2 Y.2.1 L σ) sz) L o σ') (znc σ' - znc σ) (zns σ' - zns σ) (va_A (zw Y.1.2.2.1 Y.1.2.2.2 Y.2.1 L σ) sz)
end
section
/-! calls -/
/-- the activation is one of this method -/
def zOn (q : zM) (X : zX) : Prop := xcc X = zmB q ∧ xnL X = zmL q ∧ xown X = (zmN q).cls ∧ xTs X = zws q ∧ (xme X).locks = false ∧ (xme X).sig.returnType = zmR q ∧ ((zmN q).name = "<init>" → (xme X).name = "<init>") ∧ (xc X).exceptionTable.toList = tableOf (zmH q) ∧ (xR X).frames = zmF q ∧ (xR X).locals = zmW q ∧ (xl X).stackTraces = false
/-- what is so all the time, in an activation -/
def zVx (X : zX) : Prop := 6 ≤ xmo X ∧ xmo X ≤ (xL0 X).length ∧ zVm (xY X) (xL0 X) (xA X) (xs X) (xs X).heap
theorem zCls.mono {cl : List vw_C} {ft : Nat → List FieldType} {T1 T2 : List Cond} (h : zCls cl ft T1) (hs : ∀ w ∈ T1, w ∈ T2) : zCls cl ft T2 := fun k C T N hc => by
  obtain ⟨a1, a2, a3, a4, a5, a6, a7⟩ := h k C T N hc
  exact ⟨a1, a2, fun w hw => hs w (a3 w hw), a4, a5, hs _ a6, hs _ a7⟩
section ZBODY
variable {l : Launch}
/-- after vx_ofW, vx_ofWH, for any method in whose place nothing native runs -/
theorem zx_ofW {y : MethodName} {ws ws' : List Cond} {rm : Room} {Pc : Array Value → State → Prop} {Qc : Array Value → State → Outcome → State → Prop} {XC : String → State → State → Prop} {mc ms : Nat} {free : Addr → Prop} {cc : ByteArray} {maxL : Nat} {ret : Option FieldType}
    (hy : plainFor y = true) (hw : ws = Cond.code y cc maxL ret :: ws')
    (body : ∀ p e s m args below meth c s₁, BodyLoose p l y (headSpec ws rm) cc maxL ret e s m args below meth c s₁ → c.maxLocals = maxL → (∀ x ∈ c.exceptionTable.toList, False) → Pc args s →
      W p l e (headSpec ws rm).room s m args below meth c s.heap [] 0 0 (vx_MQ below Qc XC args s mc ms free) (entryFrame m args maxL)) : vx_Met l y ws rm Pc Qc XC mc ms free := by
  refine MetFree.of_bodySF (code := cc) (maxLocals := maxL) (ret := ret) hy ?_ ?_
  · intro args s m h hn
    obtain ⟨meth, c, h1, h2, h3, h4, h5, h6, -, -⟩ := Cond.code_spec hn (atoms_spec (ws := ws) h _ (by rw [hw]; exact List.mem_cons_self))
    exact ⟨meth, c, h1, h2, h3, h4, h5, h6⟩
  · intro p e s m args below meth c s₁ B hml hP _
    have hh0 : s₁.heap = s.heap := by rw [B.state]; rfl
    have ht : ∀ x ∈ c.exceptionTable.toList, False := by
      obtain ⟨meth9, c9, h1, h2, -, -, -, -, h7, -⟩ := Cond.code_spec B.named (atoms_spec (ws := ws) B.pre _ (by rw [hw]; exact List.mem_cons_self))
      cases Option.some.inj (h1.symm.trans B.method)
      cases Option.some.inj (h2.symm.trans (Stand.of_body B).code)
      intro x hx
      rw [Array.isEmpty_iff.mp h7] at hx
      cases hx
    obtain ⟨t, a1, o, b1, b2, b3⟩ := body p e s m args below meth c s₁ B hml ht hP s₁ hh0 (Stand.of_body B)
    exact ⟨t, o, a1, b1, b2, b3⟩
theorem zx_ofWH {y : MethodName} {ws ws' : List Cond} {rm : Room} {Pc : Array Value → State → Prop} {Qc : Array Value → State → Outcome → State → Prop} {XC : String → State → State → Prop} {mc ms : Nat} {free : Addr → Prop} {cc : ByteArray} {maxL : Nat} {ret : Option FieldType} {hh : List (Nat × Nat × Nat × Nat)}
    (hy : plainFor y = true) (hw : ws = Cond.codeWith y cc maxL ret hh :: ws')
    (body : ∀ p e s m args below meth c s₁, BodyLoose p l y (headSpec ws rm) cc maxL ret e s m args below meth c s₁ → c.maxLocals = maxL → Pc args s →
      W p l e (headSpec ws rm).room s m args below meth c s.heap [] 0 0 (vx_MQ below Qc XC args s mc ms free) (entryFrame m args maxL)) : vx_Met l y ws rm Pc Qc XC mc ms free := by
  refine MetFree.of_bodySF (code := cc) (maxLocals := maxL) (ret := ret) hy ?_ ?_
  · intro args s m h hn
    obtain ⟨m9, meth, c, hn9, h1, h2, h3, h4, -, h5, h6, -⟩ := Cond.codeWith_spec (atoms_spec (ws := ws) h _ (by rw [hw]; exact List.mem_cons_self))
    cases hn.symm.trans hn9
    exact ⟨meth, c, h1, h2, h3, h4, h5, h6⟩
  · intro p e s m args below meth c s₁ B hml hP _
    have hh0 : s₁.heap = s.heap := by rw [B.state]; rfl
    obtain ⟨t, a1, o, b1, b2, b3⟩ := body p e s m args below meth c s₁ B hml hP s₁ hh0 (Stand.of_body B)
    exact ⟨t, o, a1, b1, b2, b3⟩
end ZBODY
set_option maxHeartbeats 4000000 in
/-- a contract, out of the walk of the method's body -/
theorem zmet_of {l : Launch} {Y : zY} {P : Nat → zM} {y : Nat} {vs : List Value} {σ : zS} {o : zO} {σ' : zS} (hl : l.stackTraces = false) (hlen : (zent vs).length ≤ zmL (P y)) (hpl : plainFor (zmN (P y)) = true) (hc : zCls Y.1.2.1 Y.1.2.2.1 zTb)
    (K : ∀ X : zX, zFix X → zOn (P y) X → xl X = l → xY X = Y → zVx X → xnc X = znc σ → xns X = zns σ → (xR X).cells = znc σ' - znc σ → (xR X).slots = zns σ' - zns σ → xQ X = zQ X o σ' → zC X 0 (zfst vs (zmL (P y))) [] σ) : zMet l Y P y vs σ o σ' := by
  intro L sz
  have body : ∀ (S : Spec) (hS : S = headSpec (zws (P y)) (zrm (P y) (znc σ' - znc σ) (zns σ' - zns σ))) (p : Program) (e : Env) (s : State) (m : MethodId) (args : Array Value) (below : List Frame) (meth : Method) (c : Code) (s₁ : State), BodyLoose p l (zmN (P y)) S (zmB (P y)) (zmL (P y)) (zmR (P y)) e s m args below meth c s₁ → c.maxLocals = zmL (P y) → c.exceptionTable.toList = tableOf (zmH (P y)) → zPc Y L σ sz vs args s →
      W p l e S.room s m args below meth c s.heap [] 0 0 (vx_MQ below (zQc Y (va_A (zw Y.1.2.2.1 Y.1.2.2.2 Y.2.1 L σ) sz) L o σ') (zXc Y (va_A (zw Y.1.2.2.1 Y.1.2.2.2 Y.2.1 L σ) sz) L o σ') args s (znc σ' - znc σ) (zns σ' - zns σ) (va_A (zw Y.1.2.2.1 Y.1.2.2.2 Y.2.1 L σ) sz)) (entryFrame m args (zmL (P y))) := by
    intro S hS p e s m args below meth c s₁ B hml hex hv
    subst hS
    obtain ⟨rfl, hsz, h2, h3, h4, h5, h6, h7, h8, h9, h10, h11⟩ := hv
    subst hsz
    have hts := atoms_spec (ws := zws (P y)) B.pre
    have hown : s.vm.findClass (zmN (P y)).cls = some m.cls := findClass_of_methodNamed B.named
    obtain ⟨A, hAe⟩ : ∃ A, A = va_A (zw Y.1.2.2.1 Y.1.2.2.2 Y.2.1 L σ) s.heap.size := ⟨_, rfl⟩
    have hA : ∀ q, s.heap.size ≤ q → A q := fun q hq => by rw [hAe]; exact Or.inr hq
    have hD : va_D A (zw Y.1.2.2.1 Y.1.2.2.2 Y.2.1 L σ) := by rw [hAe]; exact h8.self
    rw [← hAe] at h10 ⊢
    have k := K ((p, l, e, (headSpec (zws (P y)) (zrm (P y) (znc σ' - znc σ) (zns σ' - zns σ))).room, s, m, (vs.map (zt L)).toArray, below, meth, c, vx_MQ below (zQc Y A L o σ') (zXc Y A L o σ') (vs.map (zt L)).toArray s (znc σ' - znc σ) (zns σ' - zns σ) A), Y.1, (Y.2.1, zmL (P y), znc σ, zns σ, A, L, Y.2.2), (zmB (P y), (zmN (P y)).cls, zws (P y)))
      ⟨B.exec, B.bytes, hml, hown, hts, h10.2.2.2.2.2.2.2.2, hA, hc.mono (fun w hw => List.mem_cons_of_mem _ hw), h10.1⟩
      ⟨rfl, rfl, rfl, rfl, B.notSynchronized, B.returns, (fun q => (name_of_methodNamed B.named B.method).1.trans q), hex, rfl, rfl, hl⟩ rfl rfl ⟨h3, h4, h10⟩ rfl rfl rfl rfl rfl
      L _ s.heap [] ⟨List.prefix_refl L, h2, h4, h5, h6, h7, hD, va_S.rf, h9, Nat.le_refl _, Nat.le_refl _⟩ (zfst_lv L hlen) (zfst_ok h11) (fun v hv => nomatch hv)
    rw [lg_entry_eq]
    have e1 : znc σ - xnc ((p, l, e, (headSpec (zws (P y)) (zrm (P y) (znc σ' - znc σ) (zns σ' - zns σ))).room, s, m, (vs.map (zt L)).toArray, below, meth, c, vx_MQ below (zQc Y A L o σ') (zXc Y A L o σ') (vs.map (zt L)).toArray s (znc σ' - znc σ) (zns σ' - zns σ) A), Y.1, (Y.2.1, zmL (P y), znc σ, zns σ, A, L, Y.2.2), (zmB (P y), (zmN (P y)).cls, zws (P y))) = 0 := Nat.sub_self _
    have e2 : zns σ - xns ((p, l, e, (headSpec (zws (P y)) (zrm (P y) (znc σ' - znc σ) (zns σ' - zns σ))).room, s, m, (vs.map (zt L)).toArray, below, meth, c, vx_MQ below (zQc Y A L o σ') (zXc Y A L o σ') (vs.map (zt L)).toArray s (znc σ' - znc σ) (zns σ' - zns σ) A), Y.1, (Y.2.1, zmL (P y), znc σ, zns σ, A, L, Y.2.2), (zmB (P y), (zmN (P y)).cls, zws (P y))) = 0 := Nat.sub_self _
    rw [e1, e2] at k
    exact k
  by_cases hH : zmH (P y) = []
  · have hw : zws (P y) = Cond.code (zmN (P y)) (zmB (P y)) (zmL (P y)) (zmR (P y)) :: zTb := by unfold zws zcw; rw [if_pos hH]
    refine zx_ofW (ws' := zTb) hpl hw fun p e s m args below meth c s₁ B hml hno hv => body _ rfl p e s m args below meth c s₁ B hml ?_ hv
    rw [hH]
    cases hq : c.exceptionTable.toList with
    | nil => rfl
    | cons a r => exact (hno a (by rw [hq]; exact List.mem_cons_self)).elim
  · have hw : zws (P y) = Cond.codeWith (zmN (P y)) (zmB (P y)) (zmL (P y)) (zmR (P y)) (zmH (P y)) :: zTb := by unfold zws zcw; rw [if_neg hH]
    refine zx_ofWH (ws' := zTb) hpl hw fun p e s m args below meth c s₁ B hml hv => body _ rfl p e s m args below meth c s₁ B hml ?_ hv
    exact vx_table (x := zmN (P y)) B (atoms_spec (ws := zws (P y)) B.pre _ (by rw [hw]; exact List.mem_cons_self))
section ZCALL
variable {X : zX} {pc : Nat} {ls : zLs} {st : List Value} {σ : zS}
/-- something is thrown here, by a callee -/
def zHd (X : zX) (pc : Nat) (ls : zLs) (E : Nat) (σ : zS) : Prop := ∀ (L : List Nat) (rls : Array Slot) (H : Heap) (locs : List Loc) (rest : List Value) (q : Addr) (ce : Cell), zRel X L σ H locs → zlv L rls (xnL X) ls → zlo L.length ls → H[q]? = some ce → ce.vm = .none → (xs X).vm.findClass (zEx E) = some ce.cls → vx_W (xp X) (xl X) (xe X) (xR X) (xs X) (xm X) (xa X) (xb X) (xme X) (xc X) H locs (znc σ - xnc X) (zns σ - xns X) (xQ X) (F0 (xm X) pc rls rest) q
theorem zRel.free {L : List Nat} {H : Heap} {locs : List Loc} (F : zFix X) (h : zRel X L σ H locs) : ∀ q, va_A (zw (xft X) (xcA X) (xmo X) L σ) H.size q → xA X q := by
  intro q hq
  rcases hq with ⟨k, e, hk⟩ | hq
  · exact h.2.2.2.2.2.2.1.2 k (q, e) hk
  · exact F.2.2.2.2.2.2.1 q (Nat.le_trans h.2.2.2.2.2.2.2.1.1 hq)
/-- behind a call -/
theorem zs_back (F : zFix X) {L : List Nat} {rls : Array Slot} {H : Heap} {locs : List Loc} {rest st0 : List Value} {a : Array Value} {o : zO} {σ1 : zS} (h1 : zRel X L σ H locs) (h2 : zlv L rls (xnL X) ls) (h3 : zlo L.length ls) (h4 : zso L.length rest) (hm : znc σ ≤ znc σ1 ∧ zns σ ≤ zns σ1)
    (hr : vx_Run (xp X) (xl X) (xe X) (xR X) (xs X) (xm X) (xa X) (xb X) (xme X) (xc X) H locs (znc σ - xnc X) (zns σ - xns X) (znc σ1 - znc σ) (zns σ1 - zns σ) (F0 (xm X) pc rls st0) (rest.map (zt L)) (zQc (xY X) (va_A (zw (xft X) (xcA X) (xmo X) L σ) H.size) L o σ1 a) (zXc (xY X) (va_A (zw (xft X) (xcA X) (xmo X) L σ) H.size) L o σ1) (va_A (zw (xft X) (xcA X) (xmo X) L σ) H.size))
    (K1 : ∀ v, o = .inl v → zC X (pc + 3) ls (v.toList ++ rest) σ1) (K2 : ∀ E, o = .inr E → zHd X pc ls E σ1) : zWX X H locs (znc σ - xnc X) (zns σ - xns X) (F0 (xm X) pc rls st0) := by
  intro T hT XX
  have hfr := h1.free F
  have e1 : znc σ - xnc X + (znc σ1 - znc σ) = znc σ1 - xnc X := by have := h1.2.2.2.2.2.2.2.2.2.1; omega
  have e2 : zns σ - xns X + (zns σ1 - zns σ) = zns σ1 - xns X := by have := h1.2.2.2.2.2.2.2.2.2.2; omega
  have hRel : ∀ (Lf : List Nat) (t T' : State) (locs1 : List Loc), T'.heap = t.heap → zEnd (xY X) (va_A (zw (xft X) (xcA X) (xmo X) L σ) H.size) L Lf σ1 t → va_S (xA X) (xs X).heap T'.heap locs1 → zRel X Lf σ1 T'.heap locs1 := by
    intro Lf t T' locs1 ht ⟨z1, z2, z3, z4, z5, z6, z7⟩ hS
    exact ⟨h1.1.trans z1, z2, h1.2.2.1, z3, z4, by rw [ht]; exact z5, z6.weaken (fun _ q _ h => hfr q.1 h), hS, z7, by have := h1.2.2.2.2.2.2.2.2.2.1; omega, by have := h1.2.2.2.2.2.2.2.2.2.2; omega⟩
  rcases hr T hT XX with ⟨v, st₀, t, T', Ls, h0, X', hL, g1, g2, ⟨⟨Lf, v1, rfl, hv, hw, hE⟩, hF⟩, hst⟩ | ⟨q, st₀, t, T', Ls, E, ce, h0, X', hL, g1, g2, ⟨⟨Lf, kx, rfl, rfl, hE⟩, hF⟩, hce, hcv, hcl, hst⟩
  · obtain ⟨k1, k2, k3⟩ := vx_keep h0 g1 h1.2.2.2.2.2.2.2.1 (fun q _ h => hfr q h) hfr hL hF
    obtain ⟨M, hM⟩ := hE.1
    have hv : v = v1.map (zt Lf) := by injection hv
    subst hv
    have hsr : rest.map (zt L) = rest.map (zt Lf) := by rw [← hM, zt_apps h4]
    have kk := K1 v1 rfl Lf rls T'.heap (locs ++ Ls) (hRel Lf t T' _ g1 hE k3) (by rw [← hM]; exact h2.app h3) (by rw [← hM]; exact h3.mono (by simp)) (fun w hw2 => by
      rcases List.mem_append.mp hw2 with hw2 | hw2
      · cases v1 with
        | none => cases hw2
        | some z => exact (List.mem_singleton.mp hw2) ▸ hw z rfl
      · rw [← hM]; exact zvk_mono (h4 w hw2) (by simp))
    rw [e1, e2] at X'
    obtain ⟨t2, a1, b1⟩ := kk T' rfl X'
    refine ⟨t2, hst t2 ?_, b1⟩
    have e3 : (v1.map (zt Lf)).toList ++ rest.map (zt L) = (v1.toList ++ rest).map (zt Lf) := by
      rw [hsr, List.map_append]
      cases v1 <;> rfl
    show Steps _ _ _ (T'.setTop { method := xm X, pc := pc + 3, locals := rls, stack := (v1.map (zt Lf)).toList ++ rest.map (zt L), locked := none }) t2
    rw [e3]
    exact a1
  · obtain ⟨k1, k2, k3⟩ := vx_keep h0 g1 h1.2.2.2.2.2.2.2.1 (fun q _ h => hfr q h) hfr hL hF
    obtain ⟨M, hM⟩ := hE.1
    rw [e1, e2] at X'
    obtain ⟨t2, a1, b1⟩ := K2 kx rfl Lf rls T'.heap (locs ++ Ls) (rest.map (zt L)) q ce (hRel Lf t T' _ g1 hE k3) (by rw [← hM]; exact h2.app h3) (by rw [← hM]; exact h3.mono (by simp)) (by rw [g1]; exact hce) hcv hcl T' rfl X'
    exact ⟨t2, hst.trans a1, b1⟩
/-- a callee's start, seen from its caller -/
theorem zs_pre (F : zFix X) (V : zVx X) {L : List Nat} {H : Heap} {locs : List Loc} {vs : List Value} (h1 : zRel X L σ H locs) (hv : zso L.length vs) (U : State) (hU : U.heap = H) (hW : (xs X).WarmedH U.vm) : zPc (xY X) L σ H.size vs (vs.map (zt L)).toArray U := by
  obtain ⟨r1, r2, r3, r4, r5, r6, r7, r8, r9, r10, r11⟩ := id h1
  obtain ⟨V1, V2, V3⟩ := V
  have hm : (xY X).2.1 ≤ (xL0 X).length := V2
  refine ⟨rfl, by rw [hU], r2, V1, Nat.le_trans V2 r1.length_le, r4, r5, by rw [hU]; exact r6, r7.weaken (fun _ _ _ _ => trivial), r9, ?_, hv⟩
  have := V3.to (L' := L) (B := va_A (zw (xft X) (xcA X) (xmo X) L σ) H.size) (U := U) (H1 := H) hW r8.1 (fun q h h2 => r8.2.1 q h h2) (h1.free F) r1 hm (by omega)
  rw [← hU] at this ⊢
  exact this
/-- the words and the room of a call -/
theorem zs_cb (F : zFix X) {q0 q : zM} (O : zOn q0 X) {idx n mc ms : Nat} (hH : zmH q = []) (hcw : zcw q ∈ zTb) (hin : Cond.initialized (zmN q).cls ∈ zTb) (hl : Cond.methodLink (xown X) idx (zmN q) ∈ zTb) (hd : (zmN q).cls ≠ "java/lang/invoke/MethodHandle" ∧ (zmN q).cls ≠ "java/lang/invoke/VarHandle" ∧ (parseMethodDescriptor (zmN q).desc).map (fun d => d.parameters.length) = some n) (hR : zmF q + 1 ≤ zmF q0 ∧ 8 + (zmL q + 11) + zmW q ≤ zmW q0) : CallB (xR X) (xs X) (xa X) (xown X) idx (zmN q) (zmB q) (zmL q) (zmR q) (zws q) (zrm q mc ms) mc ms n := by
  obtain ⟨hx, hb, -, hown, hts, hK, hA, hcl, hro⟩ := id F
  obtain ⟨o1, o2, o3, o4, o5, o6, o7, o8, o9, o10, o11⟩ := O
  have hsub : ∀ w ∈ zTb, w.before (xa X) (xs X) = true := fun w hw => hts w (by rw [o4]; exact List.mem_cons_of_mem _ hw)
  have hG : GoodIn zTb (zws q) := fun w hw => by
    have hw2 : w ∈ zTb := by
      rcases List.mem_cons.mp hw with h | h
      · rw [h]; exact hcw
      · exact h
    exact ⟨hw2, good_of_word (List.mem_filter.mp hw2).2⟩
  have hz : zcw q = Cond.code (zmN q) (zmB q) (zmL q) (zmR q) := by unfold zcw; rw [if_pos hH]
  refine ⟨rfl, rfl, by rw [o9]; exact hR.1, by rw [o10]; exact hR.2, pay_in hsub hG, by rw [← hz]; exact List.mem_cons_self, by rw [← hz]; exact hsub _ hcw, hsub _ hin, ⟨hd.1, hd.2.1⟩, fun sig h => ?_, hsub _ hl⟩
  have h2 := hd.2.2
  rw [h] at h2
  exact (Option.some.inj h2).symm
end ZCALL
end
section
/-! what is thrown: out of a method, into a handler, at its beginning -/
section ZEXC
variable {X : zX} {pc : Nat} {ls : zLs} {st : List Value} {σ : zS}
theorem zHd_out (F : zFix X) (V : zVx X) {q : zM} (O : zOn q X) {E : Nat} (hn : ∀ x ∈ zmH q, ¬ (x.1 ≤ pc ∧ pc < x.2.1) ∨ (x.2.2.2 ≠ 0 ∧ Cond.classLink (xown X) x.2.2.2 (zEx x.2.2.2) ∈ zTb ∧ (zEx E, zEx x.2.2.2) ∈ zNcs)) (hQ : xQ X = zQ X (.inr E) σ) (hr1 : znc σ - xnc X ≤ (xR X).cells) (hr2 : zns σ - xns X ≤ (xR X).slots) : zHd X pc ls E σ := by
  intro L rls H locs rest a ce h1 h2 h3 hc hv hcl
  obtain ⟨hx, hb, -, hown, hts, hK, hA, -, hro⟩ := id F
  obtain ⟨o1, o2, o3, o4, o5, o6, o7, o8, o9, o10, o11⟩ := O
  rw [hQ]
  refine vx_outP hown o5 (fun z hz => ?_) hc hv hcl (fun t ht _ => ⟨⟨L, E, rfl, rfl, (h1.end_ ht).1⟩, (h1.end_ ht).2⟩) h1.2.2.2.2.2.2.2.1.2.2 hr1 hr2
  rw [o8] at hz
  obtain ⟨x, hx1, rfl⟩ := List.mem_map.mp hz
  rcases hn x hx1 with h | ⟨g1, g2, g3⟩
  · refine Or.inl ?_
    show (decide _ && decide _) = false
    by_cases hs : x.1 ≤ pc
    · have : ¬ pc < x.2.1 := fun h9 => h ⟨hs, h9⟩
      rw [decide_eq_false this, Bool.and_false]
    · rw [decide_eq_false hs, Bool.false_and]
  · exact Or.inr ⟨g1, _, hts _ (by rw [o4]; exact List.mem_cons_of_mem _ g2), V.2.2.2.2.2.2.2.1 _ g3⟩
theorem zHd_in (F : zFix X) (V : zVx X) {q : zM} (O : zOn q X) {E h9 : Nat} (pre suf : List (Nat × Nat × Nat × Nat)) {x : Nat × Nat × Nat × Nat} (hs : zmH q = pre ++ x :: suf) (hp : ∀ z ∈ pre, ¬ (z.1 ≤ pc ∧ pc < z.2.1) ∨ (z.2.2.2 ≠ 0 ∧ Cond.classLink (xown X) z.2.2.2 (zEx z.2.2.2) ∈ zTb ∧ (zEx E, zEx z.2.2.2) ∈ zNcs)) (hx1 : x.1 ≤ pc ∧ pc < x.2.1) (hx0 : x.2.2.2 ≠ 0) (hxE : x.2.2.2 = E) (hxh : x.2.2.1 = h9) (hl : Cond.classLink (xown X) E (zEx E) ∈ zTb) (hca : Cond.castable (zEx E) (zEx E) ∈ zWs)
    (kk : ∀ (L : List Nat) (rls : Array Slot) (H : Heap) (locs : List Loc) (a : Nat), zRel X L σ H locs → zlv L rls (xnL X) ls → zlo L.length ls → zWX X H locs (znc σ - xnc X) (zns σ - xns X) (F0 (xm X) h9 rls [.ref a])) : zHd X pc ls E σ := by
  intro L rls H locs rest a ce h1 h2 h3 hc hv hcl
  obtain ⟨hx, hb, -, hown, hts, hK, hA, -, hro⟩ := id F
  obtain ⟨o1, o2, o3, o4, o5, o6, o7, o8, o9, o10, o11⟩ := O
  have hca2 : (Cond.castable (zEx E) (zEx E)).before (xa X) (xs X) = true := va_Nw.use rfl (V.2.2.2.2.2.2.2.2.1 _ hca)
  refine vx_catch (name := zEx E) (E := zEx E) hown (tableOf pre) ⟨x.1, x.2.1, x.2.2.1, x.2.2.2⟩ (tableOf suf) (by rw [o8, hs]; exact List.map_append) (fun z hz => ?_) ?_ hx0 (by rw [show (⟨x.1, x.2.1, x.2.2.1, x.2.2.2⟩ : ExceptionTableEntry).catchType = E from hxE]; exact hts _ (by rw [o4]; exact List.mem_cons_of_mem _ hl)) hca2 hc hv hcl ?_
  · obtain ⟨x9, hx9, rfl⟩ := List.mem_map.mp hz
    rcases hp x9 hx9 with h | ⟨g1, g2, g3⟩
    · refine Or.inl ?_
      show (decide _ && decide _) = false
      by_cases hs : x9.1 ≤ pc
      · have : ¬ pc < x9.2.1 := fun h9 => h ⟨hs, h9⟩
        rw [decide_eq_false this, Bool.and_false]
      · rw [decide_eq_false hs, Bool.false_and]
    · exact Or.inr ⟨g1, _, hts _ (by rw [o4]; exact List.mem_cons_of_mem _ g2), V.2.2.2.2.2.2.2.1 _ g3⟩
  · show (decide _ && decide _) = true
    rw [decide_eq_true hx1.1, decide_eq_true hx1.2]
    rfl
  · show W _ _ _ _ _ _ _ _ _ _ _ _ _ _ _ (F0 _ x.2.2.1 _ _)
    rw [hxh]
    exact kk L rls H locs a h1 h2 h3
theorem zHd_st (F : zFix X) (V : zVx X) {q : zM} (O : zOn q X) {E h9 k : Nat} (pre suf : List (Nat × Nat × Nat × Nat)) {x : Nat × Nat × Nat × Nat} (hs : zmH q = pre ++ x :: suf) (hp : ∀ z ∈ pre, ¬ (z.1 ≤ pc ∧ pc < z.2.1) ∨ (z.2.2.2 ≠ 0 ∧ Cond.classLink (xown X) z.2.2.2 (zEx z.2.2.2) ∈ zTb ∧ (zEx E, zEx z.2.2.2) ∈ zNcs)) (hx1 : x.1 ≤ pc ∧ pc < x.2.1) (hx0 : x.2.2.2 ≠ 0) (hxE : x.2.2.2 = E) (hxh : x.2.2.1 = h9) (hl : Cond.classLink (xown X) E (zEx E) ∈ zTb) (hca : Cond.castable (zEx E) (zEx E) ∈ zWs)
    (d : decode (xcc X) h9 = .ok (.astore k, 2)) (hk : k < ls.length) (K : zC X (h9 + 2) ((zkl ls k).set k none) [] σ) : zHd X pc ls E σ :=
  zHd_in F V O pre suf hs hp hx1 hx0 hxE hxh hl hca fun L rls H locs a h1 h2 h3 => lv_astore F.1 F.2.1 d h2.has (by rw [← h2.2.2.1]; exact hk) rfl fun rls' h' => K L rls' H locs h1 (h2.st0 (by rw [← h2.2.2.1]; exact hk) h') h3.st0 (fun v hv => nomatch hv)
theorem zHd_stn (F : zFix X) (V : zVx X) {q : zM} (O : zOn q X) {E h9 : Nat} {k : Fin 4} (pre suf : List (Nat × Nat × Nat × Nat)) {x : Nat × Nat × Nat × Nat} (hs : zmH q = pre ++ x :: suf) (hp : ∀ z ∈ pre, ¬ (z.1 ≤ pc ∧ pc < z.2.1) ∨ (z.2.2.2 ≠ 0 ∧ Cond.classLink (xown X) z.2.2.2 (zEx z.2.2.2) ∈ zTb ∧ (zEx E, zEx z.2.2.2) ∈ zNcs)) (hx1 : x.1 ≤ pc ∧ pc < x.2.1) (hx0 : x.2.2.2 ≠ 0) (hxE : x.2.2.2 = E) (hxh : x.2.2.1 = h9) (hl : Cond.classLink (xown X) E (zEx E) ∈ zTb) (hca : Cond.castable (zEx E) (zEx E) ∈ zWs)
    (d : decode (xcc X) h9 = .ok (.astore_n k, 1)) (hk : (k : Nat) < ls.length) (K : zC X (h9 + 1) ((zkl ls k).set k none) [] σ) : zHd X pc ls E σ :=
  zHd_in F V O pre suf hs hp hx1 hx0 hxE hxh hl hca fun L rls H locs a h1 h2 h3 => lv_astore_n F.1 F.2.1 d rfl h2.has (by rw [← h2.2.2.1]; exact hk) rfl fun rls' h' => K L rls' H locs h1 (h2.st0 (by rw [← h2.2.2.1]; exact hk) h') h3.st0 (fun v hv => nomatch hv)
/-- the superclasses of what is thrown, up to Throwable -/
def zNm : List String := ["java/lang/RuntimeException", "java/lang/Exception"]
/-- the words of a throw that isn't of the kinds of zTb -/
theorem zs_at (F : zFix X) (V : zVx X) {q : zM} (O : zOn q X) {ic : Nat} {cls : String} (hg : ∀ w ∈ vx_atS (xown X) ic cls zNm, w ∈ zTb ∨ w ∈ zWs) : ∀ w ∈ vx_atS (xown X) ic cls zNm, w.before (xa X) (xs X) = true := by
  intro w hw
  rcases hg w hw with h | h
  · exact F.2.2.2.2.1 _ (by rw [O.2.2.2.1]; exact List.mem_cons_of_mem _ h)
  · exact va_Nw.use (zWk_tabs (List.mem_filter.mp h).2) (V.2.2.2.2.2.2.2.2.1 _ h)
theorem zs_ot {w : Cond} (h : w ∈ zTb ∨ w ∈ zWs) : vx_ot w = true := by
  rcases h with h | h
  · show (w.onTables || goodWord w) = true
    rw [(List.mem_filter.mp h).2, Bool.or_true]
  · show (w.onTables || goodWord w) = true
    rw [zWk_tabs (List.mem_filter.mp h).2, Bool.true_or]
theorem zs_tX {E : Nat} {L : List Nat} {H : Heap} {locs : List Loc} (h1 : zRel X L σ H locs) (t : State) (hz : H.size ≤ t.heap.size) (hq : ∀ q : Nat, q < H.size → t.heap[q]? = H[q]?) : zXc (xY X) (xA X) (xL0 X) (.inr E) (zthr σ) (zEx E) (xs X) t := by
  obtain ⟨r1, r2, r3, r4, r5, r6, r7, r8, r9, r10, r11⟩ := h1
  refine ⟨⟨L, E, rfl, rfl, r1, r2, r4, r5, fun k q hk => (r6 k q hk).kept (hq q.1 (r6 k q hk).lt), r7, r9⟩, Nat.le_trans r8.1 hz, fun q h h2 => ?_⟩
  rw [hq q (Nat.lt_of_lt_of_le h r8.1)]
  exact r8.2.1 q h h2
theorem zs_throw (F : zFix X) (V : zVx X) {q : zM} (O : zOn q X) {E ik is ic : Nat} {text : String} (hcls : Bundle.fit (zEx E) = true) (hk : Cond.classLink (xown X) ik (zEx E) ∈ zTb) (hini : Cond.initialized (zEx E) ∈ zTb) (hstr : (xown X, is, text) ∈ zStr) (hg : ∀ w ∈ vx_atS (xown X) ic (zEx E) zNm, w ∈ zTb ∨ w ∈ zWs) (hH : zmH q = [])
    (d0 : decode (xcc X) pc = .ok (.new ik, 3)) (d3 : decode (xcc X) (pc + 3) = .ok (.dup, 1)) (hd : (decode (xcc X) (pc + 4) = .ok (.ldc is, 2) ∧ decode (xcc X) (pc + 6) = .ok (.invokespecial ic, 3) ∧ decode (xcc X) (pc + 9) = .ok (.athrow, 1)) ∨ (decode (xcc X) (pc + 4) = .ok (.ldc_w is, 3) ∧ decode (xcc X) (pc + 7) = .ok (.invokespecial ic, 3) ∧ decode (xcc X) (pc + 10) = .ok (.athrow, 1)))
    (hf : 6 ≤ zmF q) (hw : 82 ≤ zmW q) (hQ : xQ X = zQ X (.inr E) (zthr σ)) (hr1 : znc (zthr σ) - xnc X ≤ (xR X).cells) (hr2 : zns (zthr σ) - xns X ≤ (xR X).slots) : zC X pc ls [] σ := by
  intro L rls H locs h1 h2 h3 h4
  obtain ⟨hx, hb, hml, hown, hts, hK, hA, -, hro⟩ := id F
  obtain ⟨o1, o2, o3, o4, o5, o6, o7, o8, o9, o10, o11⟩ := id O
  have c1 := h1.2.2.2.2.2.2.2.2.2.1
  have c2 := h1.2.2.2.2.2.2.2.2.2.2
  obtain ⟨sa, hsa⟩ := V.2.2.2.2.2.2.1 _ hstr
  have hsub : ∀ w ∈ zTb, w.before (xa X) (xs X) = true := fun w hw => hts w (by rw [o4]; exact List.mem_cons_of_mem _ hw)
  have hout : ∀ pc9, ∀ x ∈ (xc X).exceptionTable.toList, covers x pc9 = false := by
    intro pc9 x hx9
    rw [o8, hH] at hx9
    cases hx9
  have hgood : ∀ w ∈ Cond.classLink (xown X) ik (zEx E) :: Cond.initialized (zEx E) :: vx_atS (xown X) ic (zEx E) zNm, vx_ot w = true := by
    intro w hw9
    rcases List.mem_cons.mp hw9 with h | hw9
    · exact zs_ot (Or.inl (by rw [h]; exact hk))
    · rcases List.mem_cons.mp hw9 with h | hw9
      · exact zs_ot (Or.inl (by rw [h]; exact hini))
      · exact zs_ot (hg w hw9)
  have hnm : ∀ n ∈ zNm, Bundle.fit n = true := by decide +kernel
  have g1 : znc σ - xnc X + 1 = znc (zthr σ) - xnc X := by show _ = znc σ + 1 - _; omega
  have g2 : zns σ - xns X + 6 = zns (zthr σ) - xns X := by show _ = zns σ + 6 - _; omega
  unfold zWX
  rw [hQ]
  rcases hd with ⟨d4, d6, d9⟩ | ⟨d4, d6, d9⟩
  · exact vx_throwS (names := zNm) (ik := ik) (is := is) (ic := ic) (text := text) (sa := sa) (A := xA X) hx hb o11 hown hcls hnm (hsub _ hk) (hsub _ hini) hsa (zs_at F V O hg) hgood V.2.2.2.2.1 V.2.2.2.2.2.1 h1.2.2.2.2.2.2.2.1 (by rw [hml]; exact h2.1) d0 d3 d4 d6 d9 (hout _) (by rw [o9]; exact Nat.lt_of_lt_of_le (by decide) hf) (by rw [o10]; exact Nat.le_trans (show 0 + (13 * (2 + 1) + 43) ≤ 82 by decide) hw) (by rw [g1]; exact hr1) (by rw [g2]; exact hr2) o5 (fun t _ hz hq => zs_tX h1 t hz hq) h1.2.2.2.2.2.2.2.1.2.2 (by rw [g1]; exact hr1) (by rw [g2]; exact hr2)
  · exact vx_throwSW (names := zNm) (ik := ik) (is := is) (ic := ic) (text := text) (sa := sa) (A := xA X) hx hb o11 hown hcls hnm (hsub _ hk) (hsub _ hini) hsa (zs_at F V O hg) hgood V.2.2.2.2.1 V.2.2.2.2.2.1 h1.2.2.2.2.2.2.2.1 (by rw [hml]; exact h2.1) d0 d3 d4 d6 d9 (hout _) (by rw [o9]; exact Nat.lt_of_lt_of_le (by decide) hf) (by rw [o10]; exact Nat.le_trans (show 0 + (13 * (2 + 1) + 43) ≤ 82 by decide) hw) (by rw [g1]; exact hr1) (by rw [g2]; exact hr2) o5 (fun t _ hz hq => zs_tX h1 t hz hq) h1.2.2.2.2.2.2.2.1.2.2 (by rw [g1]; exact hr1) (by rw [g2]; exact hr2)
end ZEXC
end
section
/-! calls, by kind -/
section ZCALLS
variable {X : zX} {pc : Nat} {ls : zLs} {σ : zS}
/-- what every call asks of the tables and of the room, but its link -/
def zCd (q0 q : zM) (n : Nat) : Prop := zcw q ∈ zTb ∧ Cond.initialized (zmN q).cls ∈ zTb ∧ ((zmN q).cls ≠ "java/lang/invoke/MethodHandle" ∧ (zmN q).cls ≠ "java/lang/invoke/VarHandle" ∧ (parseMethodDescriptor (zmN q).desc).map (fun d => d.parameters.length) = some n) ∧ zmF q + 1 ≤ zmF q0 ∧ 8 + (zmL q + 11) + zmW q ≤ zmW q0
theorem zs_sub (F : zFix X) {q0 : zM} (O : zOn q0 X) : ∀ w ∈ zTb, w.before (xa X) (xs X) = true := fun w hw => F.2.2.2.2.1 w (by rw [O.2.2.2.1]; exact List.mem_cons_of_mem _ hw)
theorem zs_cbA (F : zFix X) {q0 q : zM} (O : zOn q0 X) {n mc ms : Nat} (hc : zCd q0 q n) : ((zrm q mc ms).cells = mc ∧ (zrm q mc ms).slots = ms ∧ (zrm q mc ms).frames + 1 ≤ (xR X).frames ∧ 8 + (zmL q + 11) + (zrm q mc ms).locals ≤ (xR X).locals ∧ (∀ w ∈ zws q, ∀ (a' : Array Value) (U : State), (xs X).WarmedH U.vm → w.before a' U = true) ∧ zcw q ∈ zws q) ∧ (zcw q).before (xa X) (xs X) = true ∧ (Cond.initialized (zmN q).cls).before (xa X) (xs X) = true ∧ ((zmN q).cls ≠ "java/lang/invoke/MethodHandle" ∧ (zmN q).cls ≠ "java/lang/invoke/VarHandle") ∧ ∀ sig, parseMethodDescriptor (zmN q).desc = some sig → n = sig.parameters.length := by
  obtain ⟨hcw, hin, hd, hR1, hR2⟩ := hc
  have hsub := zs_sub F O
  have hG : GoodIn zTb (zws q) := fun w hw => by
    have hw2 : w ∈ zTb := by
      rcases List.mem_cons.mp hw with h | h
      · rw [h]; exact hcw
      · exact h
    exact ⟨hw2, good_of_word (List.mem_filter.mp hw2).2⟩
  refine ⟨⟨rfl, rfl, by rw [O.2.2.2.2.2.2.2.2.1]; exact hR1, by rw [O.2.2.2.2.2.2.2.2.2.1]; exact hR2, pay_in hsub hG, List.mem_cons_self⟩, hsub _ hcw, hsub _ hin, ⟨hd.1, hd.2.1⟩, fun sig h => ?_⟩
  have h2 := hd.2.2
  rw [h] at h2
  exact (Option.some.inj h2).symm
theorem zs_stk {L : List Nat} {vs rest : List Value} : (vs.reverse ++ rest).map (zt L) = (vs.map (zt L)).reverse ++ rest.map (zt L) := by rw [List.map_append, List.map_reverse]
theorem zs_low {L : List Nat} {rest : List Value} (h : (rest.map fun v => v.category).sum ≤ 8) : ((rest.map (zt L)).map fun v => v.category).sum ≤ 8 := by
  rw [List.map_map]
  have : ((fun v : Value => v.category) ∘ zt L) = fun v => v.category := funext fun v => zt_cat L v
  rw [this]
  exact h
theorem zso.rev {n : Nat} {vs rest : List Value} (h : zso n (vs.reverse ++ rest)) : zso n vs ∧ zso n rest := ⟨fun v hv => h v (List.mem_append_left _ (List.mem_reverse.mpr hv)), fun v hv => h v (List.mem_append_right _ hv)⟩
theorem zcw_no {q : zM} (h : zmH q = []) : zcw q = Cond.code (zmN q) (zmB q) (zmL q) (zmR q) := by unfold zcw; rw [if_pos h]
theorem zcw_hs {q : zM} (h : ¬ zmH q = []) : zcw q = Cond.codeWith (zmN q) (zmB q) (zmL q) (zmR q) (zmH q) := by unfold zcw; rw [if_neg h]
/-- invokestatic -/
theorem zs_S (F : zFix X) (V : zVx X) {q0 : zM} (O : zOn q0 X) {P : Nat → zM} {y idx : Nat} {vs rest : List Value} {o : zO} {σ1 : zS} (hM : zMet (xl X) (xY X) P y vs σ o σ1) (hc : zCd q0 (P y) vs.length) (hst : Cond.static (zmN (P y)) ∈ zTb) (hl : Cond.methodLink (xown X) idx (zmN (P y)) ∈ zTb ∨ ∃ host, Cond.methodLinkNest (xown X) idx (zmN (P y)) host ∈ zWs ∧ zmH (P y) = []) (hlow : (rest.map fun v => v.category).sum ≤ 8) (d : decode (xcc X) pc = .ok (.invokestatic idx, 3)) (hm : znc σ ≤ znc σ1 ∧ zns σ ≤ zns σ1) (hr1 : znc σ1 - xnc X ≤ (xR X).cells) (hr2 : zns σ1 - xns X ≤ (xR X).slots)
    (K1 : ∀ v, o = .inl v → zC X (pc + 3) ls (v.toList ++ rest) σ1) (K2 : ∀ E, o = .inr E → zHd X pc ls E σ1) : zC X pc ls (vs.reverse ++ rest) σ := by
  intro L rls H locs h1 h2 h3 h4
  obtain ⟨hx, hb, hml, hown, hts, hK, hA, -, hro⟩ := id F
  have hv := h4.rev
  have hsub := zs_sub F O
  have c1 := h1.2.2.2.2.2.2.2.2.2.1
  have c2 := h1.2.2.2.2.2.2.2.2.2.2
  obtain ⟨b1, b2, b3, b4, b5⟩ := zs_cbA F O (mc := znc σ1 - znc σ) (ms := zns σ1 - zns σ) hc
  refine zs_back F h1 h2 h3 hv.2 hm ?_ K1 K2 (a := (vs.map (zt L)).toArray)
  have hp : PreS (xs X) H (zPc (xY X) L σ H.size vs) (vs.map (zt L)) := ⟨zPc_blind _ _ _ _ _, fun U hU hW => zs_pre F V h1 hv.1 U hU hW⟩
  have hf : znc σ - xnc X + (znc σ1 - znc σ) ≤ (xR X).cells ∧ zns σ - xns X + (zns σ1 - zns σ) ≤ (xR X).slots := ⟨by omega, by omega⟩
  rcases hl with hl | ⟨host, hl, hH⟩
  · by_cases hH : zmH (P y) = []
    · have ez := zcw_no hH
      rw [ez] at b1 b2
      exact vx_runS ⟨hx, hb, hml, hown, hts⟩ (hM L H.size) ⟨⟨b1.1, b1.2.1, b1.2.2.1, b1.2.2.2.1, b1.2.2.2.2.1, b1.2.2.2.2.2, b2, b3, b4, b5, hsub _ hl⟩, hsub _ hst⟩ hp rfl (List.length_map _) h2.1 zs_stk (lv_room (zs_low hlow)) d hf
    · have ez := zcw_hs hH
      rw [ez] at b1 b2
      exact vx_runSX ⟨hx, hb, hml, hown, hts⟩ (hM L H.size) ⟨b1, b2, b3, b4, b5, hsub _ hl, hsub _ hst⟩ hp rfl (List.length_map _) h2.1 zs_stk (lv_room (zs_low hlow)) d hf
  · have ez := zcw_no hH
    rw [ez] at b1 b2
    exact vx_runSN ⟨hx, hb, hml, hown, hts⟩ (hM L H.size) ⟨⟨b1, b2, b3, b4, b5, va_Nw.use rfl (V.2.2.2.2.2.2.2.2.1 _ hl)⟩, hsub _ hst, trivial⟩ hp rfl (List.length_map _) h2.1 zs_stk (lv_room (zs_low hlow)) d hf
/-- invokevirtual -/
theorem zs_V (F : zFix X) (V : zVx X) {q0 : zM} (O : zOn q0 X) {P : Nat → zM} {y idx b k n N : Nat} {T : u_T} {vs rest : List Value} {o : zO} {σ1 : zS} (hM : zMet (xl X) (xY X) P y (.ref b :: vs) σ o σ1) (hc : zCd q0 (P y) vs.length) (hH : zmH (P y) = []) (hb0 : σ.1[b]? = some (k, n)) (hcl : (xcl X)[k]? = some ((zmN (P y)).cls, T, N)) (hin : Cond.instanceMethod (zmN (P y)) ∈ zTb) (hse : Cond.selects (zmN (P y)).cls (zmN (P y)) (zmN (P y)) ∈ zTb) (hl : Cond.methodLink (xown X) idx (zmN (P y)) ∈ zTb) (hlow : (rest.map fun v => v.category).sum ≤ 8) (d : decode (xcc X) pc = .ok (.invokevirtual idx, 3)) (hm : znc σ ≤ znc σ1 ∧ zns σ ≤ zns σ1) (hr1 : znc σ1 - xnc X ≤ (xR X).cells) (hr2 : zns σ1 - xns X ≤ (xR X).slots)
    (K1 : ∀ v, o = .inl v → zC X (pc + 3) ls (v.toList ++ rest) σ1) (K2 : ∀ E, o = .inr E → zHd X pc ls E σ1) : zC X pc ls (vs.reverse ++ .ref b :: rest) σ := by
  intro L rls H locs h1 h2 h3 h4
  obtain ⟨hx, hb, hml, hown, hts, hK, hA, hcls, hro⟩ := id F
  have hv := h4.rev
  have hsub := zs_sub F O
  have c1 := h1.2.2.2.2.2.2.2.2.2.1
  have c2 := h1.2.2.2.2.2.2.2.2.2.2
  obtain ⟨b1, b2, b3, b4, b5⟩ := zs_cbA F O (mc := znc σ1 - znc σ) (ms := zns σ1 - zns σ) hc
  refine zs_back F h1 h2 h3 hv.2.tl hm ?_ K1 K2 (a := (((.ref b :: vs : List Value)).map (zt L)).toArray)
  obtain ⟨q1, -⟩ := hcls k _ T N hcl
  have hp9 := h1.lt hb0 (by omega)
  have hz := zw_at (ft := xft X) (cA := xcA X) (L := L) hp9.1 hp9.2
  rw [ze_obj hb0 q1] at hz
  have hp : PreV (xs X) H (zmN (P y)).cls (L.getD b 0) (zPc (xY X) L σ H.size (.ref b :: vs)) (vs.map (zt L)) := ⟨zPc_blind _ _ _ _ _, va_recv hK h1.2.2.2.2.2.1 hcl hz, fun U hU hW => zs_pre F V h1 (hv.1.cons hv.2.hd) U hU hW⟩
  have hf : znc σ - xnc X + (znc σ1 - znc σ) ≤ (xR X).cells ∧ zns σ - xns X + (zns σ1 - zns σ) ≤ (xR X).slots := ⟨by omega, by omega⟩
  have ez := zcw_no hH
  rw [ez] at b1 b2
  exact vx_runV ⟨hx, hb, hml, hown, hts⟩ (hM L H.size) ⟨⟨b1.1, b1.2.1, b1.2.2.1, b1.2.2.2.1, b1.2.2.2.2.1, b1.2.2.2.2.2, b2, b3, b4, b5, hsub _ hl⟩, hsub _ hin, hsub _ hse⟩ hp rfl (List.length_map _) h2.1 zs_stk (lv_room (zs_low hlow)) d hf
/-- a constructor -/
theorem zs_I (F : zFix X) (V : zVx X) {q0 : zM} (O : zOn q0 X) {P : Nat → zM} {y idx b : Nat} {vs rest : List Value} {o : zO} {σ1 : zS} (hM : zMet (xl X) (xY X) P y (.ref b :: vs) σ o σ1) (hc : zCd q0 (P y) vs.length) (hH : zmH (P y) = []) (hr : zmR (P y) = none) (hnm : (zmN (P y)).name = "<init>") (hin : Cond.instanceMethod (zmN (P y)) ∈ zTb) (hl : Cond.methodLink (xown X) idx (zmN (P y)) ∈ zTb ∨ ∃ host, Cond.methodLinkNest (xown X) idx (zmN (P y)) host ∈ zWs) (hlow : (rest.map fun v => v.category).sum ≤ 8) (d : decode (xcc X) pc = .ok (.invokespecial idx, 3)) (hm : znc σ ≤ znc σ1 ∧ zns σ ≤ zns σ1) (hr1 : znc σ1 - xnc X ≤ (xR X).cells) (hr2 : zns σ1 - xns X ≤ (xR X).slots)
    (K1 : ∀ v, o = .inl v → zC X (pc + 3) ls (v.toList ++ rest) σ1) (K2 : ∀ E, o = .inr E → zHd X pc ls E σ1) : zC X pc ls (vs.reverse ++ .ref b :: rest) σ := by
  intro L rls H locs h1 h2 h3 h4
  obtain ⟨hx, hb, hml, hown, hts, hK, hA, hcls, hro⟩ := id F
  have hv := h4.rev
  have hsub := zs_sub F O
  have c1 := h1.2.2.2.2.2.2.2.2.2.1
  have c2 := h1.2.2.2.2.2.2.2.2.2.2
  obtain ⟨b1, b2, b3, b4, b5⟩ := zs_cbA F O (mc := znc σ1 - znc σ) (ms := zns σ1 - zns σ) hc
  refine zs_back F h1 h2 h3 hv.2.tl hm ?_ K1 K2 (a := (((.ref b :: vs : List Value)).map (zt L)).toArray)
  have hp : PreS (xs X) H (zPc (xY X) L σ H.size (.ref b :: vs)) (.ref (L.getD b 0) :: vs.map (zt L)) := ⟨zPc_blind _ _ _ _ _, fun U hU hW => zs_pre F V h1 (hv.1.cons hv.2.hd) U hU hW⟩
  have hf : znc σ - xnc X + (znc σ1 - znc σ) ≤ (xR X).cells ∧ zns σ - xns X + (zns σ1 - zns σ) ≤ (xR X).slots := ⟨by omega, by omega⟩
  have ez := zcw_no hH
  rw [ez, hr] at b1 b2
  rcases hl with hl | ⟨host, hl⟩
  · exact vx_runI ⟨hx, hb, hml, hown, hts⟩ (hM L H.size) ⟨⟨b1.1, b1.2.1, b1.2.2.1, b1.2.2.2.1, b1.2.2.2.2.1, b1.2.2.2.2.2, b2, b3, b4, b5, hsub _ hl⟩, hnm, hsub _ hin⟩ hp rfl (List.length_map _) h2.1 zs_stk (lv_room (zs_low hlow)) d hf
  · exact vx_runIN ⟨hx, hb, hml, hown, hts⟩ (hM L H.size) ⟨⟨b1, b2, b3, b4, b5, va_Nw.use rfl (V.2.2.2.2.2.2.2.2.1 _ hl)⟩, hnm, hsub _ hin⟩ hp rfl (List.length_map _) h2.1 zs_stk (lv_room (zs_low hlow)) d hf
/-- Object's own constructor -/
theorem zs_O (F : zFix X) {q0 : zM} (O : zOn q0 X) {idx b : Nat} {rest : List Value} (hl : Cond.methodLink (xown X) idx Lib.objectInit ∈ zTb) (hin : Cond.instanceMethod Lib.objectInit ∈ zTb) (hcd : Cond.code Lib.objectInit ⟨#[0xb1]⟩ 1 none ∈ zTb) (hf : 1 ≤ zmF q0) (hw : 20 ≤ zmW q0) (hlow : (rest.map fun v => v.category).sum ≤ 8) (d : decode (xcc X) pc = .ok (.invokespecial idx, 3)) (K : zC X (pc + 3) ls rest σ) : zC X pc ls (.ref b :: rest) σ := by
  intro L rls H locs h1 h2 h3 h4
  obtain ⟨hx, hb, hml, hown, hts, hK, hA, hcls, hro⟩ := id F
  have hsub := zs_sub F O
  have hlw := lv_room (m := xm X) (pc := pc) (ls := rls) (rest := (.ref b :: rest).map (zt L)) (zs_low (L := L) hlow)
  refine W.objInit hx hb hown (hsub _ hl) (hsub _ hin) (hsub _ hcd) rfl (by rw [h2.1, hml]) (rest := rest.map (zt L)) rfl d (by rw [O.2.2.2.2.2.2.2.2.1]; exact hf) ?_ (K L rls H locs h1 h2 h3 h4.tl)
  rw [O.2.2.2.2.2.2.2.2.2.1]
  omega
end ZCALLS
end
section
/-! what holds of every run of the interpreter: more is made, never less; more fuel, the same end -/
section ZMONO
variable {P : Nat → zM} {ft : Nat → List FieldType} {ro : Nat → Int32 → zS → Option (zO × zS)}
theorem zback_rel {Rel : zS → zS → Prop} (hrf : ∀ σ, Rel σ σ) (htr : ∀ a b c, Rel a b → Rel b c → Rel a c) {rec : zR} (hrec : ∀ y pc ls st σ o σ', rec y pc ls st σ = some (o, σ') → Rel σ σ') {y pc : Nat} {ls : zLs} {rest : List Value} {σ : zS} {r : Option (zO × zS)} (hr : ∀ o σ1, r = some (o, σ1) → Rel σ σ1) {o : zO} {σ' : zS} (h : zback P rec y pc ls rest r = some (o, σ')) : Rel σ σ' := by
  unfold zback at h
  split at h
  · cases h
  · exact htr _ _ _ (hr _ _ rfl) (hrec _ _ _ _ _ _ _ h)
  · split at h
    · cases h
      exact hr _ _ rfl
    · split at h
      · split at h
        · exact htr _ _ _ (hr _ _ rfl) (hrec _ _ _ _ _ _ _ h)
        · cases h
      · split at h
        · exact htr _ _ _ (hr _ _ rfl) (hrec _ _ _ _ _ _ _ h)
        · cases h
      · cases h
set_option maxHeartbeats 4000000 in
theorem zst_rel {Rel : zS → zS → Prop} (hrf : ∀ σ, Rel σ σ) (htr : ∀ a b c, Rel a b → Rel b c → Rel a c) (hfp : ∀ σ a f v σ1, zfp σ a f v = some σ1 → Rel σ σ1) (hia : ∀ (σ : zS) a i x, Rel σ (σ.1, zup σ.2.1 a i x, σ.2.2)) (haa : ∀ (σ : zS) a i x, Rel σ (σ.1, σ.2.1, zup σ.2.2.1 a i x, σ.2.2.2)) (hnw : ∀ σ k n, Rel σ (znw σ k n)) (hth : ∀ σ, Rel σ (zthr σ)) (hro : ∀ m r σ o σ', ro m r σ = some (o, σ') → Rel σ σ')
    {rec : zR} (hrec : ∀ y pc ls st σ o σ', rec y pc ls st σ = some (o, σ') → Rel σ σ') {y pc : Nat} {ls : zLs} {st : List Value} {σ : zS} {e : zI} {o : zO} {σ' : zS} (h : zst P ft ro rec y pc ls st σ e = some (o, σ')) : Rel σ σ' := by
  obtain ⟨i, r1, r2, r3, tg⟩ := e
  cases i <;> dsimp only [zst] at h
  all_goals first | (cases h; done) | exact hrec _ _ _ _ _ _ _ h | skip
  all_goals repeat' split at h
  all_goals first
    | (cases h; done)
    | exact hrec _ _ _ _ _ _ _ h
    | (cases h; exact hrf _)
    | (cases h; exact hth _)
    | exact htr _ _ _ (hnw _ _ _) (hrec _ _ _ _ _ _ _ h)
    | exact htr _ _ _ (hia _ _ _ _) (hrec _ _ _ _ _ _ _ h)
    | exact htr _ _ _ (haa _ _ _ _) (hrec _ _ _ _ _ _ _ h)
    | exact htr _ _ _ (hfp _ _ _ _ _ (by assumption)) (hrec _ _ _ _ _ _ _ h)
    | exact htr _ _ _ (hro _ _ _ _ _ (by assumption)) (hrec _ _ _ _ _ _ _ h)
    | exact zback_rel hrf htr hrec (fun o σ1 hq => hrec _ _ _ _ _ _ _ hq) h
    | exact zback_rel hrf htr hrec (fun o σ1 hq => by split at hq; exact hrec _ _ _ _ _ _ _ hq; cases hq) h
    | exact zback_rel hrf htr hrec (fun o σ1 hq => by cases hq; exact hro _ _ _ _ _ (by assumption)) h
    | skip
theorem zx_rel {Rel : zS → zS → Prop} (hrf : ∀ σ, Rel σ σ) (htr : ∀ a b c, Rel a b → Rel b c → Rel a c) (hfp : ∀ σ a f v σ1, zfp σ a f v = some σ1 → Rel σ σ1) (hia : ∀ (σ : zS) a i x, Rel σ (σ.1, zup σ.2.1 a i x, σ.2.2)) (haa : ∀ (σ : zS) a i x, Rel σ (σ.1, σ.2.1, zup σ.2.2.1 a i x, σ.2.2.2)) (hnw : ∀ σ k n, Rel σ (znw σ k n)) (hth : ∀ σ, Rel σ (zthr σ)) (hro : ∀ m r σ o σ', ro m r σ = some (o, σ') → Rel σ σ') : ∀ (n : Nat) (y pc : Nat) (ls : zLs) (st : List Value) (σ : zS) (o : zO) (σ' : zS), zx P ft ro n y pc ls st σ = some (o, σ') → Rel σ σ'
  | 0, _, _, _, _, _, _, _, h => by cases h
  | n + 1, y, pc, ls, st, σ, o, σ', h => by
    have ih := zx_rel hrf htr hfp hia haa hnw hth hro n
    unfold zx at h
    split at h
    · cases h
    · exact zst_rel hrf htr hfp hia haa hnw hth hro ih h
def zLe (σ σ' : zS) : Prop := znc σ ≤ znc σ' ∧ zns σ ≤ zns σ'
theorem zx_le (hro : ∀ m r σ o σ', ro m r σ = some (o, σ') → zLe σ σ') {n y pc : Nat} {ls : zLs} {st : List Value} {σ : zS} {o : zO} {σ' : zS} (h : zx P ft ro n y pc ls st σ = some (o, σ')) : zLe σ σ' :=
  zx_rel (Rel := zLe) (fun σ => ⟨Nat.le_refl _, Nat.le_refl _⟩) (fun a b c h1 h2 => ⟨Nat.le_trans h1.1 h2.1, Nat.le_trans h1.2 h2.2⟩) (fun σ a f v σ1 h => by have := zfp_K h; exact ⟨Nat.le_of_eq this.2.1.symm, Nat.le_of_eq this.2.2.symm⟩) (fun σ a i x => ⟨Nat.le_refl _, Nat.le_refl _⟩) (fun σ a i x => ⟨Nat.le_refl _, Nat.le_refl _⟩) (fun σ k n => ⟨Nat.le_succ _, Nat.le_add_right _ _⟩) (fun σ => ⟨Nat.le_succ _, Nat.le_add_right _ _⟩) hro n y pc ls st σ o σ' h
theorem zback_mono {rec rec2 : zR} (hrec : ∀ y pc ls st σ r, rec y pc ls st σ = some r → rec2 y pc ls st σ = some r) {y pc : Nat} {ls : zLs} {rest : List Value} {a b : Option (zO × zS)} (hab : ∀ r, a = some r → b = some r) {r : zO × zS} (h : zback P rec y pc ls rest a = some r) : zback P rec2 y pc ls rest b = some r := by
  cases a with
  | none => cases h
  | some q =>
    rw [hab q rfl]
    obtain ⟨o, σ⟩ := q
    cases o with
    | inl v => exact hrec _ _ _ _ _ _ h
    | inr E =>
      dsimp only [zback] at h ⊢
      repeat' split at h
      all_goals first
        | (cases h; done)
        | exact h
        | (rename_i h1; simp only [h1, if_true]; first | exact h | exact hrec _ _ _ _ _ _ h)
        | skip
      all_goals first
        | (simp_all; done)
        | (simp only [*, if_true]; exact hrec _ _ _ _ _ _ h)
        | skip
end ZMONO
end
section
/-! the interpreter and the machine: what the tables must say of an instruction, and that this is enough -/
def zmem (k : Nat) (w : Cond) : Bool := decide (lw_tbl[k]? = some w) && goodWord w
def zmeW (k : Nat) (w : Cond) : Bool := decide (lw_tbl[k]? = some w) && zWk w
theorem zmem_in {k : Nat} {w : Cond} (h : zmem k w = true) : w ∈ zTb := by
  unfold zmem at h
  rw [Bool.and_eq_true] at h
  exact List.mem_filter.mpr ⟨List.mem_of_getElem? (of_decide_eq_true h.1), h.2⟩
theorem zmeW_in {k : Nat} {w : Cond} (h : zmeW k w = true) : w ∈ zWs := by
  unfold zmeW at h
  rw [Bool.and_eq_true] at h
  exact List.mem_filter.mpr ⟨List.mem_of_getElem? (of_decide_eq_true h.1), h.2⟩
def zdec (b : ByteArray) (pc : Nat) (i : Instr) (n : Nat) : Bool := decide (decode b pc = .ok (i, n))
theorem zdec_is {b : ByteArray} {pc : Nat} {i : Instr} {n : Nat} (h : zdec b pc i n = true) : decode b pc = .ok (i, n) := of_decide_eq_true h
/-- what is so of a method that may be called -/
def zMk (q : zM) : Prop := zcw q ∈ zTb ∧ Cond.initialized (zmN q).cls ∈ zTb ∧ (zmN q).cls ≠ "java/lang/invoke/MethodHandle" ∧ (zmN q).cls ≠ "java/lang/invoke/VarHandle" ∧ plainFor (zmN q) = true
def zcdB (q0 q : zM) (n : Nat) : Bool := !(zmC q).isEmpty && decide (zmF q ≠ 12) && decide ((parseMethodDescriptor (zmN q).desc).map (fun d => d.parameters.length) = some n) && decide (zmF q + 1 ≤ zmF q0) && decide (8 + (zmL q + 11) + zmW q ≤ zmW q0)
theorem zcdB_is {q0 q : zM} {n : Nat} (h : zcdB q0 q n = true) (hm : zmC q ≠ [] → zmF q ≠ 12 → zMk q) : zCd q0 q n ∧ plainFor (zmN q) = true := by
  unfold zcdB at h
  simp only [Bool.and_eq_true, decide_eq_true_eq, Bool.not_eq_true', List.isEmpty_eq_false_iff] at h
  obtain ⟨⟨⟨⟨h0, h12⟩, h5⟩, h6⟩, h7⟩ := h
  obtain ⟨m1, m2, m3, m4, m5⟩ := hm h0 h12
  exact ⟨⟨m1, m2, ⟨m3, m4, h5⟩, h6, h7⟩, m5⟩
/-- the constructors of what is thrown, in the class's own numbers -/
def zik (E : Nat) : Nat := if E = 86 then 30 else if E = 43 then 56 else 19
def zstrB (own : String) (k is : Nat) : Bool := match lw_tbl[k]? with
  | some (.stringRef a i _) => decide (a = own) && decide (i = is)
  | _ => false
theorem zstrB_is {own : String} {k is : Nat} (h : zstrB own k is = true) : ∃ t, (own, is, t) ∈ zStr := by
  unfold zstrB at h
  split at h
  · rename_i a i t hq
    simp only [Bool.and_eq_true, decide_eq_true_eq] at h
    obtain ⟨rfl, rfl⟩ := h
    exact ⟨t, List.mem_filterMap.mpr ⟨_, List.mem_of_getElem? hq, rfl⟩⟩
  · cases h
/-- what is asked of an instruction -/
def zok (cl : List vw_C) (zic : Nat → Nat) (P : Nat → zM) (y pc : Nat) (e : zI) : Bool := match e with
  | (i, r1, r2, r3, tg) => match i with
  | .aload k => zdec (zmB (P y)) pc (.aload k) 2
  | .aload_n k => zdec (zmB (P y)) pc (.aload_n k) 1
  | .iload k => zdec (zmB (P y)) pc (.iload k) 2
  | .iload_n k => zdec (zmB (P y)) pc (.iload_n k) 1
  | .lload k => zdec (zmB (P y)) pc (.lload k) 2
  | .lload_n k => zdec (zmB (P y)) pc (.lload_n k) 1
  | .astore k => zdec (zmB (P y)) pc (.astore k) 2
  | .astore_n k => zdec (zmB (P y)) pc (.astore_n k) 1
  | .istore k => zdec (zmB (P y)) pc (.istore k) 2
  | .istore_n k => zdec (zmB (P y)) pc (.istore_n k) 1
  | .lstore k => zdec (zmB (P y)) pc (.lstore k) 2
  | .lstore_n k => zdec (zmB (P y)) pc (.lstore_n k) 1
  | .iinc k n => zdec (zmB (P y)) pc (.iinc k n) 3
  | .iconst n => zdec (zmB (P y)) pc (.iconst n) 1
  | .bipush n => zdec (zmB (P y)) pc (.bipush n) 2
  | .sipush n => zdec (zmB (P y)) pc (.sipush n) 3
  | .lconst n => zdec (zmB (P y)) pc (.lconst n) 1
  | .ldc x => zdec (zmB (P y)) pc (.ldc x) 2 && zmem (tg.getD 0 0) (.constant (zmN (P y)).cls x (Int32.ofNat r1))
  | .ldc2_w x => zdec (zmB (P y)) pc (.ldc2_w x) 3 && zmem (tg.getD 0 0) (.constantLong (zmN (P y)).cls x (Int64.ofNat r1))
  | .aconst_null => zdec (zmB (P y)) pc .aconst_null 1
  | .pop => zdec (zmB (P y)) pc .pop 1
  | .dup => zdec (zmB (P y)) pc .dup 1
  | .dup2 => zdec (zmB (P y)) pc .dup2 1
  | .iadd => zdec (zmB (P y)) pc .iadd 1
  | .isub => zdec (zmB (P y)) pc .isub 1
  | .imul => zdec (zmB (P y)) pc .imul 1
  | .idiv => zdec (zmB (P y)) pc .idiv 1
  | .irem => zdec (zmB (P y)) pc .irem 1
  | .iand => zdec (zmB (P y)) pc .iand 1
  | .ixor => zdec (zmB (P y)) pc .ixor 1
  | .ishr => zdec (zmB (P y)) pc .ishr 1
  | .ishl => zdec (zmB (P y)) pc .ishl 1
  | .ineg => zdec (zmB (P y)) pc .ineg 1
  | .i2l => zdec (zmB (P y)) pc .i2l 1
  | .i2b => zdec (zmB (P y)) pc .i2b 1
  | .ladd => zdec (zmB (P y)) pc .ladd 1
  | .lmul => zdec (zmB (P y)) pc .lmul 1
  | .lcmp => zdec (zmB (P y)) pc .lcmp 1
  | .goto o => zdec (zmB (P y)) pc (.goto o) 3 && decide ((pc : Int) + o = (r1 : Int))
  | .ifCond c o => zdec (zmB (P y)) pc (.ifCond c o) 3 && decide ((pc : Int) + o = (r1 : Int))
  | .if_icmp c o => zdec (zmB (P y)) pc (.if_icmp c o) 3 && decide ((pc : Int) + o = (r1 : Int))
  | .ifnull o => zdec (zmB (P y)) pc (.ifnull o) 3 && decide ((pc : Int) + o = (r1 : Int))
  | .ifnonnull o => zdec (zmB (P y)) pc (.ifnonnull o) 3 && decide ((pc : Int) + o = (r1 : Int))
  | .tableswitch df lo hi offs => zdec (zmB (P y)) pc (.tableswitch df lo hi offs) r3 && decide ((pc : Int) + df = (r2 : Int)) && decide (offs.toList.map (fun o => (pc : Int) + o) = tg.map (fun t : Nat => Int.ofNat t))
  | .getfield x => zdec (zmB (P y)) pc (.getfield x) 3 && (match cl[r1]? with
    | some (_, T, N) => decide (r2 < N) && zmem (tg.getD 0 0) (.fieldLink (zmN (P y)).cls x (T r2).1 (T r2).2.1 (T r2).2.2.1)
    | none => false)
  | .putfield x => zdec (zmB (P y)) pc (.putfield x) 3 && (match cl[r1]? with
    | some (_, T, N) => decide (r2 < N) && zmem (tg.getD 0 0) (.fieldLink (zmN (P y)).cls x (T r2).1 (T r2).2.1 (T r2).2.2.1) && (!(T r2).2.2.2 || (decide ((zmN (P y)).name = "<init>") && decide ((T r2).1 = (zmN (P y)).cls)))
    | none => false)
  | .getstatic x => zdec (zmB (P y)) pc (.getstatic x) 3 && decide (r1 < 5) && (zmem (tg.getD 0 0) (.fieldLink (zmN (P y)).cls x "Siegelines" (zSN r1) "[I") || zmeW (tg.getD 0 0) (.fieldLinkNest (zmN (P y)).cls x "Siegelines" (zSN r1) "[I" "Siegelines"))
  | .arraylength => zdec (zmB (P y)) pc .arraylength 1
  | .iaload => zdec (zmB (P y)) pc .iaload 1
  | .iastore => zdec (zmB (P y)) pc .iastore 1
  | .aaload => zdec (zmB (P y)) pc .aaload 1
  | .aastore => zdec (zmB (P y)) pc .aastore 1 && decide (r1 = 103 ∨ r1 = 104 ∨ r1 = 105) && (match cl[r2]? with
    | some (C, _, _) => decide (C = zAC r1)
    | none => false)
  | .newarray t => decide (t = .int) && zdec (zmB (P y)) pc (.newarray .int) 2 && decide (r1 = 100) && zmem (tg.getD 0 0) (.arrayClass .int)
  | .anewarray x => zdec (zmB (P y)) pc (.anewarray x) 3 && decide (r1 = 103 ∨ r1 = 104 ∨ r1 = 105) && zmem (tg.getD 0 0) (.classLink (zmN (P y)).cls x (zAC r1))
  | .new x => if r3 = 0 then zdec (zmB (P y)) pc (.new x) 3 && (match cl[r1]? with
      | some (C, _, _) => zmem (tg.getD 0 0) (.classLink (zmN (P y)).cls x C)
      | none => false)
    else zdec (zmB (P y)) pc (.new x) 3 && zdec (zmB (P y)) (pc + 3) .dup 1 && ((zdec (zmB (P y)) (pc + 4) (.ldc r2) 2 && zdec (zmB (P y)) (pc + 6) (.invokespecial (zic r1)) 3 && zdec (zmB (P y)) (pc + 9) .athrow 1) || (zdec (zmB (P y)) (pc + 4) (.ldc_w r2) 3 && zdec (zmB (P y)) (pc + 7) (.invokespecial (zic r1)) 3 && zdec (zmB (P y)) (pc + 10) .athrow 1)) && decide ((zmN (P y)).cls = "Siegelines") && decide (r1 = 86 ∨ r1 = 43 ∨ r1 = 0) && decide (x = zik r1) && zstrB "Siegelines" (tg.getD 0 0) r2 && decide (zmH (P y) = []) && decide (6 ≤ zmF (P y)) && decide (82 ≤ zmW (P y))
  | .ireturn => zdec (zmB (P y)) pc .ireturn 1
  | .lreturn => zdec (zmB (P y)) pc .lreturn 1 && decide (zmR (P y) = some .long)
  | .areturn => zdec (zmB (P y)) pc .areturn 1 && (match zmR (P y) with
    | some (.object _) => true
    | _ => false)
  | .return_ => zdec (zmB (P y)) pc .return_ 1 && decide (zmR (P y) = none)
  | .invokestatic x => zdec (zmB (P y)) pc (.invokestatic x) 3 && zcdB (P y) (P r1) r2 && zmem (tg.getD 1 0) (.static (zmN (P r1))) && (zmem (tg.getD 0 0) (.methodLink (zmN (P y)).cls x (zmN (P r1))) || (zmeW (tg.getD 0 0) (.methodLinkNest (zmN (P y)).cls x (zmN (P r1)) "Siegelines") && decide (zmH (P r1) = [])))
  | .invokevirtual x => if r3 = 2000 then true else zdec (zmB (P y)) pc (.invokevirtual x) 3 && zcdB (P y) (P r1) r2 && decide (zmH (P r1) = []) && zmem (tg.getD 1 0) (.instanceMethod (zmN (P r1))) && zmem (tg.getD 2 0) (.selects (zmN (P r1)).cls (zmN (P r1)) (zmN (P r1))) && zmem (tg.getD 0 0) (.methodLink (zmN (P y)).cls x (zmN (P r1))) && (match cl[r3]? with
    | some (C, _, _) => decide (C = (zmN (P r1)).cls)
    | none => false)
  | .invokespecial x => if r3 = 1000 then zdec (zmB (P y)) pc (.invokespecial x) 3 && zmem (tg.getD 0 0) (.methodLink (zmN (P y)).cls x Lib.objectInit) && decide (1 ≤ zmF (P y)) && decide (20 ≤ zmW (P y))
    else zdec (zmB (P y)) pc (.invokespecial x) 3 && zcdB (P y) (P r1) r2 && decide (zmH (P r1) = []) && decide (zmR (P r1) = none) && decide ((zmN (P r1)).name = "<init>") && zmem (tg.getD 1 0) (.instanceMethod (zmN (P r1))) && (zmem (tg.getD 0 0) (.methodLink (zmN (P y)).cls x (zmN (P r1))) || zmeW (tg.getD 0 0) (.methodLinkNest (zmN (P y)).cls x (zmN (P r1)) "Siegelines"))
  | _ => true
theorem zlk_in {l : List (Nat × zI)} {pc : Nat} {e : zI} (h : zlk l pc = some e) : (pc, e) ∈ l := by
  induction l with
  | nil => cases h
  | cons a r ih =>
    unfold zlk at h
    split at h
    · rename_i h1
      cases h
      rw [← h1]
      exact List.mem_cons_self
    · exact List.mem_cons_of_mem _ (ih h)
theorem zcat_no {pc E : Nat} : ∀ {hs : List (Nat × Nat × Nat × Nat)}, zcat hs pc E = none → ∀ x ∈ hs, ¬ (x.1 ≤ pc ∧ pc < x.2.1) ∨ x.2.2.2 ≠ E
  | [], _, _, h => nomatch h
  | a :: r, h, x, hx => by
    unfold zcat at h
    split at h
    · cases h
    · rename_i h1
      rcases List.mem_cons.mp hx with rfl | hx
      · by_cases hc : x.1 ≤ pc ∧ pc < x.2.1
        · exact Or.inr (fun q => h1 ⟨hc.1, hc.2, q⟩)
        · exact Or.inl hc
      · exact zcat_no h x hx
theorem zcat_yes {pc E h9 : Nat} : ∀ {hs : List (Nat × Nat × Nat × Nat)}, zcat hs pc E = some h9 → ∃ pre x suf, hs = pre ++ x :: suf ∧ (∀ z ∈ pre, ¬ (z.1 ≤ pc ∧ pc < z.2.1) ∨ z.2.2.2 ≠ E) ∧ (x.1 ≤ pc ∧ pc < x.2.1) ∧ x.2.2.2 = E ∧ x.2.2.1 = h9
  | [], h => by cases h
  | a :: r, h => by
    unfold zcat at h
    split at h
    · rename_i h1
      cases h
      exact ⟨[], a, r, rfl, (fun z hz => nomatch hz), ⟨h1.1, h1.2.1⟩, h1.2.2, rfl⟩
    · rename_i h1
      obtain ⟨pre, x, suf, h2, h3, h4⟩ := zcat_yes h
      refine ⟨a :: pre, x, suf, by rw [h2]; rfl, fun z hz => ?_, h4⟩
      rcases List.mem_cons.mp hz with rfl | hz
      · by_cases hc : z.1 ≤ pc ∧ pc < z.2.1
        · exact Or.inr (fun q => h1 ⟨hc.1, hc.2, q⟩)
        · exact Or.inl hc
      · exact h3 z hz
theorem zNc_in {E t : Nat} (ht : t = 86 ∨ t = 43) (h : t ≠ E) : (zEx E, zEx t) ∈ zNcs := by
  by_cases h1 : E = 86
  · subst h1
    rcases ht with rfl | rfl
    · exact absurd rfl h
    · decide +kernel
  · by_cases h2 : E = 43
    · subst h2
      rcases ht with rfl | rfl
      · decide +kernel
      · exact absurd rfl h
    · have e : zEx E = "java/lang/IllegalArgumentException" := by unfold zEx; rw [if_neg h1, if_neg h2]
      rw [e]
      rcases ht with rfl | rfl
      · decide +kernel
      · decide +kernel
end
section
/-! every instruction; every method -/
def zRow (l : Launch) (Y : zY) (P : Nat → zM) (ro : Nat → Int32 → zS → Option (zO × zS)) : Prop := ∀ (X : zX) (y pc x r1 r2 : Nat) (tg : List Nat) (ls : zLs) (m : Nat) (r : Int32) (rest : List Value) (σ : zS) (o : zO) (σ1 : zS), (pc, ((.invokevirtual x, r1, r2, 2000, tg) : zI)) ∈ zmC (P y) → zFix X → zOn (P y) X → xl X = l → xY X = Y → zVx X → ro m r σ = some (o, σ1) → znc σ1 - xnc X ≤ (xR X).cells → zns σ1 - xns X ≤ (xR X).slots → (∀ w, o = .inl (some (.int w)) → zC X (pc + 6) ls (.int w :: rest) σ1) → (∀ E, o = .inr E → zHd X pc ls E σ1) → zC X pc ls (.int r :: .ref m :: rest) σ
def zHyp (l : Launch) (Y : zY) (P : Nat → zM) (zic : Nat → Nat) (ro : Nat → Int32 → zS → Option (zO × zS)) : Prop :=
  l.stackTraces = false ∧ zCls Y.1.2.1 Y.1.2.2.1 zTb ∧ (∀ y, ∀ q ∈ zmC (P y), zok Y.1.2.1 zic P y q.1 q.2 = true) ∧
  (∀ y, ∀ x ∈ zmH (P y), (x.2.2.2 = 86 ∨ x.2.2.2 = 43) ∧ Cond.classLink (zmN (P y)).cls x.2.2.2 (zEx x.2.2.2) ∈ zTb) ∧
  (∀ E, E = 86 ∨ E = 43 → Cond.castable (zEx E) (zEx E) ∈ zWs) ∧
  (∀ E, E = 86 ∨ E = 43 ∨ E = 0 → Bundle.fit (zEx E) = true ∧ Cond.classLink "Siegelines" (zik E) (zEx E) ∈ zTb ∧ Cond.initialized (zEx E) ∈ zTb ∧ ∀ w ∈ vx_atS "Siegelines" (zic E) (zEx E) zNm, w ∈ zTb ∨ w ∈ zWs) ∧
  (Cond.instanceMethod Lib.objectInit ∈ zTb ∧ Cond.code Lib.objectInit ⟨#[0xb1]⟩ 1 none ∈ zTb) ∧
  (∀ m r σ o σ', ro m r σ = some (o, σ') → zLe σ σ') ∧ zRow l Y P ro ∧ ∀ y, zmC (P y) ≠ [] → zmF (P y) ≠ 12 → zMk (P y)
section ZALL
variable {l : Launch} {Y : zY} {P : Nat → zM} {zic : Nat → Nat} {ro : Nat → Int32 → zS → Option (zO × zS)}
theorem zLe.rf (σ : zS) : zLe σ σ := ⟨Nat.le_refl _, Nat.le_refl _⟩
theorem zLe.tr (a b c : zS) (h1 : zLe a b) (h2 : zLe b c) : zLe a c := ⟨Nat.le_trans h1.1 h2.1, Nat.le_trans h1.2 h2.2⟩
theorem zback_le {rec : zR} (hle : ∀ y pc ls st σ o σ', rec y pc ls st σ = some (o, σ') → zLe σ σ') {y pc : Nat} {ls : zLs} {rest : List Value} {o1 : zO} {σ1 : zS} {o : zO} {σ' : zS} (h : zback P rec y pc ls rest (some (o1, σ1)) = some (o, σ')) : zLe σ1 σ' :=
  zback_rel zLe.rf zLe.tr hle (fun o2 σ2 hq => by cases hq; exact zLe.rf _) h
theorem zback_hd (Hy : zHyp l Y P zic ro) {rec : zR} {X : zX} {y : Nat} (F : zFix X) (V : zVx X) (O : zOn (P y) X) {o : zO} {σ' : zS} (hQ : xQ X = zQ X o σ') (hr1 : znc σ' - xnc X ≤ (xR X).cells) (hr2 : zns σ' - xns X ≤ (xR X).slots) (hle : ∀ y pc ls st σ o σ', rec y pc ls st σ = some (o, σ') → zLe σ σ') (KB : ∀ pc ls st σ, rec y pc ls st σ = some (o, σ') → zC X pc ls st σ) (hYcl : Y.1.2.1 = xcl X) {pc E : Nat} {ls : zLs} {rest : List Value} {σ1 : zS} (h : zback P rec y pc ls rest (some (.inr E, σ1)) = some (o, σ')) : zHd X pc ls E σ1 := by
  obtain ⟨-, -, hok, hH, hca, -⟩ := Hy
  have hown : xown X = (zmN (P y)).cls := O.2.2.1
  have hnl : ∀ z ∈ zmH (P y), (¬ (z.1 ≤ pc ∧ pc < z.2.1) ∨ z.2.2.2 ≠ E) → ¬ (z.1 ≤ pc ∧ pc < z.2.1) ∨ (z.2.2.2 ≠ 0 ∧ Cond.classLink (xown X) z.2.2.2 (zEx z.2.2.2) ∈ zTb ∧ (zEx E, zEx z.2.2.2) ∈ zNcs) := by
    intro z hz hq
    rcases hq with hq | hq
    · exact Or.inl hq
    · obtain ⟨g1, g2⟩ := hH y z hz
      exact Or.inr ⟨by omega, by rw [hown]; exact g2, zNc_in g1 hq⟩
  dsimp only [zback] at h
  split at h
  · rename_i hc
    cases h
    exact zHd_out F V O (fun x hx => hnl x hx (zcat_no hc x hx)) hQ hr1 hr2
  · rename_i h9 hc
    obtain ⟨pre, x, suf, hs, hp, hx1, hxE, hxh⟩ := zcat_yes hc
    have hxm : x ∈ zmH (P y) := by rw [hs]; exact List.mem_append_right _ List.mem_cons_self
    have hpm : ∀ z ∈ pre, z ∈ zmH (P y) := fun z hz => by rw [hs]; exact List.mem_append_left _ hz
    obtain ⟨g1, g2⟩ := hH y x hxm
    rw [hxE] at g1 g2
    split at h
    · rename_i k q hlk
      split at h
      · rename_i hk
        have hd := hok y _ (zlk_in hlk)
        exact zHd_st F V O pre suf hs (fun z hz => hnl z (hpm z hz) (hp z hz)) hx1 (by omega) hxE hxh (by rw [hown]; exact g2) (hca E g1) (by rw [O.1]; exact zdec_is hd) hk (KB _ _ _ _ h)
      · cases h
    · rename_i k q hlk
      split at h
      · rename_i hk
        have hd := hok y _ (zlk_in hlk)
        exact zHd_stn F V O pre suf hs (fun z hz => hnl z (hpm z hz) (hp z hz)) hx1 (by omega) hxE hxh (by rw [hown]; exact g2) (hca E g1) (by rw [O.1]; exact zdec_is hd) hk (KB _ _ _ _ h)
      · cases h
    · cases h
theorem zlow_is {rest : List Value} (h : zlow rest = true) : (rest.map fun v => v.category).sum ≤ 8 := by
  unfold zlow at h
  exact of_decide_eq_true h
set_option maxHeartbeats 8000000 in
theorem zst_sim (Hy : zHyp l Y P zic ro) {rec : zR} {X : zX} {y : Nat} (F : zFix X) (V : zVx X) (O : zOn (P y) X) (hl : xl X = l) (hY : xY X = Y) {o : zO} {σ' : zS} (hQ : xQ X = zQ X o σ') (hr1 : znc σ' - xnc X ≤ (xR X).cells) (hr2 : zns σ' - xns X ≤ (xR X).slots) (hle : ∀ y pc ls st σ o σ', rec y pc ls st σ = some (o, σ') → zLe σ σ') (KB : ∀ pc ls st σ, rec y pc ls st σ = some (o, σ') → zC X pc ls st σ)
    (hM : ∀ y1 vs σ1 o1 σ2, rec y1 0 (zfst vs (zmL (P y1))) [] σ1 = some (o1, σ2) → (zent vs).length ≤ zmL (P y1) → plainFor (zmN (P y1)) = true → zMet l Y P y1 vs σ1 o1 σ2) {pc : Nat} {ls : zLs} {st : List Value} {σ : zS} {e : zI} (hin : (pc, e) ∈ zmC (P y)) (h : zst P Y.1.2.2.1 ro rec y pc ls st σ e = some (o, σ')) : zC X pc ls st σ := by
  subst hl hY
  obtain ⟨hstk, hcls, hok, hH, hca, hE, hO, hro, hrow, hmk⟩ := id Hy
  have hk := hok y _ hin
  have hcc : xcc X = zmB (P y) := O.1
  have hown : xown X = (zmN (P y)).cls := O.2.2.1
  have hTs : xTs X = zws (P y) := O.2.2.2.1
  have hsub : ∀ w, w ∈ zTb → w ∈ xTs X := fun w hw => by rw [hTs]; exact List.mem_cons_of_mem _ hw
  obtain ⟨i, r1, r2, r3, tg⟩ := e
  cases i <;> dsimp only [zst] at h <;> dsimp only [zok] at hk <;> (try rw [← hcc] at hk) <;> (try rw [← hown] at hk)
  all_goals first | (cases h; done) | skip
  case aload k =>
    split at h
    · rename_i a hg; exact zs_aload F (zdec_is hk) hg (KB _ _ _ _ h)
    · rename_i hg; exact zs_aloadN F (zdec_is hk) hg (KB _ _ _ _ h)
    · cases h
  case aload_n k =>
    split at h
    · rename_i a hg; exact zs_aload_n F (zdec_is hk) hg (KB _ _ _ _ h)
    · rename_i hg; exact zs_aload_nN F (zdec_is hk) hg (KB _ _ _ _ h)
    · cases h
  case iload k =>
    split at h
    · rename_i a hg; exact zs_iload F (zdec_is hk) hg (KB _ _ _ _ h)
    · cases h
  case iload_n k =>
    split at h
    · rename_i a hg; exact zs_iload_n F (zdec_is hk) hg (KB _ _ _ _ h)
    · cases h
  case lload k =>
    split at h
    · rename_i a hg; exact zs_lload F (zdec_is hk) hg (KB _ _ _ _ h)
    · cases h
  case lload_n k =>
    split at h
    · rename_i a hg; exact zs_lload_n F (zdec_is hk) hg (KB _ _ _ _ h)
    · cases h
  case astore k =>
    split at h
    · rename_i hl9
      split at h
      · exact zs_astore F (zdec_is hk) hl9 (KB _ _ _ _ h)
      · exact zs_astoreN F (zdec_is hk) hl9 (KB _ _ _ _ h)
      · cases h
    · cases h
  case astore_n k =>
    split at h
    · rename_i hl9
      split at h
      · exact zs_astore_n F (zdec_is hk) hl9 (KB _ _ _ _ h)
      · exact zs_astore_nN F (zdec_is hk) hl9 (KB _ _ _ _ h)
      · cases h
    · cases h
  case istore k =>
    split at h
    · rename_i hl9
      split at h
      · exact zs_istore F (zdec_is hk) hl9 (KB _ _ _ _ h)
      · cases h
    · cases h
  case istore_n k =>
    split at h
    · rename_i hl9
      split at h
      · exact zs_istore_n F (zdec_is hk) hl9 (KB _ _ _ _ h)
      · cases h
    · cases h
  case lstore k =>
    split at h
    · rename_i hl9
      split at h
      · exact zs_lstore F (zdec_is hk) hl9 (KB _ _ _ _ h)
      · cases h
    · cases h
  case lstore_n k =>
    split at h
    · rename_i hl9
      split at h
      · exact zs_lstore_n F (zdec_is hk) hl9 (KB _ _ _ _ h)
      · cases h
    · cases h
  case iinc k n =>
    split at h
    · rename_i hl9
      split at h
      · rename_i a hg; exact zs_iinc F (zdec_is hk) hl9 hg (KB _ _ _ _ h)
      · cases h
    · cases h
  case iconst n => exact zs_iconst F (zdec_is hk) (KB _ _ _ _ h)
  case bipush n => exact zs_bipush F (zdec_is hk) (KB _ _ _ _ h)
  case sipush n => exact zs_sipush F (zdec_is hk) (KB _ _ _ _ h)
  case lconst n => exact zs_lconst F (zdec_is hk) (KB _ _ _ _ h)
  case ldc x =>
    rw [Bool.and_eq_true] at hk
    exact zs_ldc F (hsub _ (zmem_in hk.2)) (zdec_is hk.1) (KB _ _ _ _ h)
  case ldc2_w x =>
    rw [Bool.and_eq_true] at hk
    exact zs_ldc2 F (hsub _ (zmem_in hk.2)) (zdec_is hk.1) (KB _ _ _ _ h)
  case aconst_null => exact zs_null F (zdec_is hk) (KB _ _ _ _ h)
  case pop =>
    split at h
    · split at h
      · rename_i hv; exact zs_pop F hv (zdec_is hk) (KB _ _ _ _ h)
      · cases h
    · cases h
  case dup =>
    split at h
    · split at h
      · rename_i hv; exact zs_dup F hv (zdec_is hk) (KB _ _ _ _ h)
      · cases h
    · cases h
  case dup2 =>
    split at h
    · split at h
      · rename_i hv; exact zs_dup2 F hv.1 hv.2 (zdec_is hk) (KB _ _ _ _ h)
      · cases h
    · cases h
  case iadd => split at h; exact zs_iadd F (zdec_is hk) (KB _ _ _ _ h); cases h
  case isub => split at h; exact zs_isub F (zdec_is hk) (KB _ _ _ _ h); cases h
  case imul => split at h; exact zs_imul F (zdec_is hk) (KB _ _ _ _ h); cases h
  case idiv =>
    split at h
    · split at h
      · cases h
      · rename_i h0; exact zs_idiv F h0 (zdec_is hk) (KB _ _ _ _ h)
    · cases h
  case irem =>
    split at h
    · split at h
      · cases h
      · rename_i h0; exact zs_irem F h0 (zdec_is hk) (KB _ _ _ _ h)
    · cases h
  case iand => split at h; exact zs_iand F (zdec_is hk) (KB _ _ _ _ h); cases h
  case ixor => split at h; exact zs_ixor F (zdec_is hk) (KB _ _ _ _ h); cases h
  case ishr => split at h; exact zs_ishr F (zdec_is hk) (KB _ _ _ _ h); cases h
  case ishl => split at h; exact zs_ishl F (zdec_is hk) (KB _ _ _ _ h); cases h
  case ineg => split at h; exact zs_ineg F (zdec_is hk) (KB _ _ _ _ h); cases h
  case i2l => split at h; exact zs_i2l F (zdec_is hk) (KB _ _ _ _ h); cases h
  case i2b => split at h; exact zs_i2b F (zdec_is hk) (KB _ _ _ _ h); cases h
  case ladd => split at h; exact zs_ladd F (zdec_is hk) (KB _ _ _ _ h); cases h
  case lmul => split at h; exact zs_lmul F (zdec_is hk) (KB _ _ _ _ h); cases h
  case lcmp => split at h; exact zs_lcmp F (zdec_is hk) (KB _ _ _ _ h); cases h
  case goto off =>
    rw [Bool.and_eq_true] at hk
    exact zs_goto F (of_decide_eq_true hk.2) (zdec_is hk.1) (KB _ _ _ _ h)
  case ifCond cc off =>
    rw [Bool.and_eq_true] at hk
    have ht := of_decide_eq_true hk.2
    have hd := zdec_is hk.1
    split at h
    · cases cc <;> dsimp only at h
      · exact zs_if_eq F ht hd (fun q => KB _ _ _ _ (by rw [if_pos q] at h; exact h)) (fun q => KB _ _ _ _ (by rw [if_neg q] at h; exact h))
      · exact zs_if_ne F ht hd (fun q => KB _ _ _ _ (by rw [if_neg q] at h; exact h)) (fun q => KB _ _ _ _ (by rw [if_pos q] at h; exact h))
      · exact zs_if_lt F ht hd (fun q => KB _ _ _ _ (by rw [if_pos q] at h; exact h)) (fun q => KB _ _ _ _ (by rw [if_neg q] at h; exact h))
      · exact zs_if_ge F ht hd (fun q => KB _ _ _ _ (by rw [if_pos q] at h; exact h)) (fun q => KB _ _ _ _ (by rw [if_neg q] at h; exact h))
      · exact zs_if_gt F ht hd (fun q => KB _ _ _ _ (by rw [if_pos q] at h; exact h)) (fun q => KB _ _ _ _ (by rw [if_neg q] at h; exact h))
      · exact zs_if_le F ht hd (fun q => KB _ _ _ _ (by rw [if_pos q] at h; exact h)) (fun q => KB _ _ _ _ (by rw [if_neg q] at h; exact h))
    · cases h
  case if_icmp cc off =>
    rw [Bool.and_eq_true] at hk
    have ht := of_decide_eq_true hk.2
    have hd := zdec_is hk.1
    split at h
    · cases cc <;> dsimp only at h
      · exact zs_icmp_eq F ht hd (fun q => KB _ _ _ _ (by rw [if_pos q] at h; exact h)) (fun q => KB _ _ _ _ (by rw [if_neg q] at h; exact h))
      · exact zs_icmp_ne F ht hd (fun q => KB _ _ _ _ (by rw [if_neg q] at h; exact h)) (fun q => KB _ _ _ _ (by rw [if_pos q] at h; exact h))
      · exact zs_icmp_lt F ht hd (fun q => KB _ _ _ _ (by rw [if_pos q] at h; exact h)) (fun q => KB _ _ _ _ (by rw [if_neg q] at h; exact h))
      · exact zs_icmp_ge F ht hd (fun q => KB _ _ _ _ (by rw [if_pos q] at h; exact h)) (fun q => KB _ _ _ _ (by rw [if_neg q] at h; exact h))
      · exact zs_icmp_gt F ht hd (fun q => KB _ _ _ _ (by rw [if_pos q] at h; exact h)) (fun q => KB _ _ _ _ (by rw [if_neg q] at h; exact h))
      · exact zs_icmp_le F ht hd (fun q => KB _ _ _ _ (by rw [if_pos q] at h; exact h)) (fun q => KB _ _ _ _ (by rw [if_neg q] at h; exact h))
    · cases h
  case ifnull off =>
    rw [Bool.and_eq_true] at hk
    split at h
    · exact zs_ifR F (zdec_is hk.1) (KB _ _ _ _ h)
    · exact zs_ifN F (of_decide_eq_true hk.2) (zdec_is hk.1) (KB _ _ _ _ h)
    · cases h
  case ifnonnull off =>
    rw [Bool.and_eq_true] at hk
    split at h
    · exact zs_ifnR F (of_decide_eq_true hk.2) (zdec_is hk.1) (KB _ _ _ _ h)
    · exact zs_ifnN F (zdec_is hk.1) (KB _ _ _ _ h)
    · cases h
  case tableswitch df lo hi offs =>
    simp only [Bool.and_eq_true, decide_eq_true_eq] at hk
    obtain ⟨⟨k1, k2⟩, k3⟩ := hk
    split at h
    · rename_i x r
      split at h
      · rename_i hx
        exact zs_tabO F hx k2 (zdec_is k1) (KB _ _ _ _ h)
      · rename_i hx
        split at h
        · rename_i t ht
          have h3 : (offs.toList.map (fun o => (pc : Int) + o))[(x.toInt - lo).toNat]? = some (Int.ofNat t) := by rw [k3, List.getElem?_map, ht]; rfl
          rw [List.getElem?_map] at h3
          cases ho : offs.toList[(x.toInt - lo).toNat]? with
          | none => rw [ho] at h3; cases h3
          | some off =>
            rw [ho] at h3
            rw [Array.getElem?_toList] at ho
            exact zs_tabI F (fun q => hx (Or.inl q)) (fun q => hx (Or.inr q)) ho (Option.some.inj h3) (zdec_is k1) (KB _ _ _ _ h)
        · cases h
    · cases h
  case getfield x =>
    rw [Bool.and_eq_true] at hk
    obtain ⟨k1, k2⟩ := hk
    split at k2
    · rename_i C T N hc
      simp only [Bool.and_eq_true, decide_eq_true_eq] at k2
      split at h
      · rename_i a r
        split at h
        · rename_i c n hkn
          split at h
          · rename_i hcr
            subst hcr
            exact zs_getf F hc k2.1 (hsub _ (zmem_in k2.2)) (zdec_is k1) hkn (KB _ _ _ _ h)
          · cases h
        · cases h
      · cases h
    · cases k2
  case putfield x =>
    rw [Bool.and_eq_true] at hk
    obtain ⟨k1, k2⟩ := hk
    split at k2
    · rename_i C T N hc
      simp only [Bool.and_eq_true, Bool.or_eq_true, Bool.not_eq_true', decide_eq_true_eq] at k2
      obtain ⟨⟨k2, k3⟩, k4⟩ := k2
      split at h
      · rename_i v a r
        split at h
        · rename_i c n hkn
          split at h
          · rename_i hcr
            obtain ⟨hcr, hna, hfi⟩ := hcr
            subst hcr
            split at h
            · rename_i σ1 hz1
              refine zs_putf F hc k2 (hsub _ (zmem_in k3)) ?_ (zdec_is k1) hkn hna hfi hz1 (KB _ _ _ _ h)
              rcases k4 with k4 | ⟨k4, k5⟩
              · exact Or.inl k4
              · cases hb : (T r2).2.2.2 with
                | false => exact Or.inl rfl
                | true => exact Or.inr ⟨rfl, O.2.2.2.2.2.2.1 k4, k5⟩
            · cases h
          · cases h
        · cases h
      · cases h
    · cases k2
  case getstatic x =>
    simp only [Bool.and_eq_true, Bool.or_eq_true, decide_eq_true_eq] at hk
    obtain ⟨⟨k1, k2⟩, k3⟩ := hk
    intro L rls H locs h1 h2 h3 h4
    obtain ⟨hx, hb, -, hown9, hts, hK, hA, hcl, hro⟩ := id F
    have hz := V.2.2.2.1 r1 k2
    have hm := h1.2.2.1
    have h6 := V.1
    have e : (xL0 X).getD r1 0 = L.getD r1 0 := (zget_pre h1.1 (by omega)).symm
    rw [e] at hz
    have k1' := KB _ _ _ _ h L rls H locs h1 h2 h3 (h4.cons (show r1 < L.length by have := h1.1.length_le; omega))
    rcases k3 with k3 | k3
    · exact va_gets hx hb hz h1.2.2.2.2.2.2.2.1 hown9 (hts _ (hsub _ (zmem_in k3))) (fun x h => h) (zdec_is k1) k1'
    · exact va_getsN hx hb hz h1.2.2.2.2.2.2.2.1 hown9 (va_Nw.use rfl (V.2.2.2.2.2.2.2.2.1 _ (zmeW_in k3))) (fun x h => h) (zdec_is k1) k1'
  case arraylength =>
    split at h
    · split at h
      · rename_i c n hkn
        split at h
        · rename_i hc
          exact zs_alen F hkn hc (zdec_is hk) (KB _ _ _ _ h)
        · cases h
      · cases h
    · cases h
  case iaload =>
    split at h
    · split at h
      · rename_i c n hkn
        split at h
        · rename_i hc
          exact zs_iald F hkn hc.1 hc.2 (zdec_is hk) (KB _ _ _ _ h)
        · cases h
      · cases h
    · cases h
  case iastore =>
    split at h
    · split at h
      · rename_i c n hkn
        split at h
        · rename_i hc
          obtain ⟨rfl, hi⟩ := hc
          exact zs_iast F hkn hi (zdec_is hk) (KB _ _ _ _ h)
        · cases h
      · cases h
    · cases h
  case aaload =>
    split at h
    · split at h
      · rename_i c n hkn
        split at h
        · rename_i hc
          exact zs_aald F hkn hc.1 hc.2 (zdec_is hk) (KB _ _ _ _ h)
        · cases h
      · cases h
    · cases h
  case aastore =>
    simp only [Bool.and_eq_true, decide_eq_true_eq] at hk
    obtain ⟨⟨k1, k2⟩, k3⟩ := hk
    split at k3
    · rename_i C T N hc
      have k3 := of_decide_eq_true k3
      subst k3
      split at h
      · split at h
        · rename_i c n cv nv hkn hkv
          split at h
          · rename_i hcc9
            obtain ⟨rfl, rfl, hi⟩ := hcc9
            exact zs_aast F hkn k2 hkv hc hi (zdec_is k1) (KB _ _ _ _ h)
          · cases h
        · cases h
      · cases h
    · cases k3
  case newarray ty =>
    simp only [Bool.and_eq_true, decide_eq_true_eq] at hk
    obtain ⟨⟨⟨rfl, k1⟩, rfl⟩, k3⟩ := hk
    split at h
    · rename_i n9 r9
      split at h
      · cases h
      · rename_i hn
        split at h
        · rename_i hm
          have h9 := hle _ _ _ _ _ _ _ h
          have g1 : znc σ + 1 ≤ znc σ' := h9.1
          have g2 : zns σ + n9.toNatClampNeg ≤ zns σ' := h9.2
          exact zs_newi F hn hm (hsub _ (zmem_in k3)) (zdec_is k1) (by omega) (by omega) (KB _ _ _ _ h)
        · cases h
    · cases h
  case anewarray x =>
    simp only [Bool.and_eq_true, decide_eq_true_eq] at hk
    obtain ⟨⟨k1, k2⟩, k3⟩ := hk
    split at h
    · rename_i n9 r9
      split at h
      · cases h
      · rename_i hn
        split at h
        · rename_i hm
          have h9 := hle _ _ _ _ _ _ _ h
          have g1 : znc σ + 1 ≤ znc σ' := h9.1
          have g2 : zns σ + n9.toNatClampNeg ≤ zns σ' := h9.2
          exact zs_newq F hn hm k2 (V.2.2.2.2.2.2.2.2.2.1 _ k2) (hsub _ (zmem_in k3)) (zdec_is k1) (by omega) (by omega) (KB _ _ _ _ h)
        · cases h
    · cases h
  case new x =>
    split at h
    · rename_i h0
      rw [if_pos h0, Bool.and_eq_true] at hk
      obtain ⟨k1, k2⟩ := hk
      split at k2
      · rename_i C T N hc
        have h9 := hle _ _ _ _ _ _ _ h
        have g1 : znc σ + 1 ≤ znc σ' := h9.1
        have g2 : zns σ + (xft X r1).length ≤ zns σ' := h9.2
        exact zs_new F hc (hsub _ (zmem_in k2)) (zdec_is k1) (by omega) (by omega) (KB _ _ _ _ h)
      · cases k2
    · rename_i h0
      rw [if_neg h0] at hk
      simp only [Bool.and_eq_true, Bool.or_eq_true, decide_eq_true_eq] at hk
      obtain ⟨⟨⟨⟨⟨⟨⟨⟨⟨k1, k2⟩, k3⟩, k4⟩, k5⟩, k6⟩, k7⟩, k8⟩, k9⟩, k10⟩ := hk
      obtain ⟨text, k7⟩ := zstrB_is k7
      subst k6
      obtain ⟨e1, e2, e3, e4⟩ := hE r1 k5
      split at h
      · cases h
        refine zs_throw F V O e1 (by rw [k4]; exact e2) e3 (by rw [k4]; exact k7) (by rw [k4]; exact e4) k8 (zdec_is k1) (zdec_is k2) ?_ k9 k10 hQ hr1 hr2
        rcases k3 with ⟨⟨d1, d2⟩, d3⟩ | ⟨⟨d1, d2⟩, d3⟩
        · exact Or.inl ⟨zdec_is d1, zdec_is d2, zdec_is d3⟩
        · exact Or.inr ⟨zdec_is d1, zdec_is d2, zdec_is d3⟩
      · cases h
  case ireturn =>
    split at h
    · rename_i x ty hty
      split at h
      · rename_i hn
        cases h
        exact zs_iret F hQ O.2.2.2.2.1 (O.2.2.2.2.2.1.trans hty) hn (zdec_is hk) hr1 hr2
      · cases h
    · cases h
  case lreturn =>
    simp only [Bool.and_eq_true, decide_eq_true_eq] at hk
    split at h
    · cases h
      exact zs_lret F hQ O.2.2.2.2.1 (O.2.2.2.2.2.1.trans hk.2) (zdec_is hk.1) hr1 hr2
    · cases h
  case areturn =>
    rw [Bool.and_eq_true] at hk
    obtain ⟨k1, k2⟩ := hk
    split at k2
    · rename_i C hC
      split at h
      · rename_i a
        cases h
        exact zs_aret F (Or.inr ⟨a, rfl⟩) hQ O.2.2.2.2.1 (O.2.2.2.2.2.1.trans hC) (zdec_is k1) hr1 hr2
      · cases h
        exact zs_aret F (Or.inl rfl) hQ O.2.2.2.2.1 (O.2.2.2.2.2.1.trans hC) (zdec_is k1) hr1 hr2
      · cases h
    · cases k2
  case return_ =>
    simp only [Bool.and_eq_true, decide_eq_true_eq] at hk
    split at h
    · cases h
      exact zs_vret F hQ O.2.2.2.2.1 (O.2.2.2.2.2.1.trans hk.2) (zdec_is hk.1) hr1 hr2
    · cases h
  case invokestatic x =>
    simp only [Bool.and_eq_true, Bool.or_eq_true, decide_eq_true_eq] at hk
    obtain ⟨⟨⟨k1, k2⟩, k3⟩, k4⟩ := hk
    obtain ⟨k2, k5⟩ := zcdB_is k2 (hmk r1)
    split at h
    · rename_i hlow
      split at h
      · rename_i hlen
        cases hq : rec r1 0 (zfst (st.take r2).reverse (zmL (P r1))) [] σ with
        | none => rw [hq] at h; cases h
        | some q =>
          obtain ⟨o1, σ1⟩ := q
          rw [hq] at h
          have g0 := zback_le hle h
          have g1 := hle _ _ _ _ _ _ _ hq
          have hst : st = (st.take r2).reverse.reverse ++ st.drop r2 := by rw [List.reverse_reverse, List.take_append_drop]
          rw [hst]
          have hlv : ((st.take r2).reverse).length = r2 := by rw [List.length_reverse]; exact hlen.1
          refine zs_S F V O (hM r1 _ σ o1 σ1 hq hlen.2 k5) (by rw [hlv]; exact k2) (zmem_in k3) ?_ (zlow_is hlow) (zdec_is k1) g1 (by have := g0.1; omega) (by have := g0.2; omega) (fun v hv => ?_) (fun E hE9 => ?_)
          · rcases k4 with k4 | ⟨k4, k6⟩
            · exact Or.inl (zmem_in k4)
            · exact Or.inr ⟨_, zmeW_in k4, k6⟩
          · subst hv
            exact KB _ _ _ _ h
          · subst hE9
            exact zback_hd Hy F V O hQ hr1 hr2 hle KB rfl h
      · cases h
    · cases h
  case invokevirtual x =>
    split at h
    · rename_i h0
      subst h0
      split at h
      · rename_i xr b rest
        split at h
        · rename_i w σ1 hro9
          have g0 := hle _ _ _ _ _ _ _ h
          exact hrow X y pc x r1 r2 tg ls b xr rest σ _ σ1 hin F O rfl rfl V hro9 (by have := g0.1; omega) (by have := g0.2; omega) (fun w9 hw => by cases hw; exact KB _ _ _ _ h) (fun E hE9 => by cases hE9)
        · rename_i E σ1 hro9
          have g0 := zback_le hle h
          exact hrow X y pc x r1 r2 tg ls b xr rest σ _ σ1 hin F O rfl rfl V hro9 (by have := g0.1; omega) (by have := g0.2; omega) (fun w9 hw => by cases hw) (fun E9 hE9 => by cases hE9; exact zback_hd Hy F V O hQ hr1 hr2 hle KB rfl h)
        · cases h
      · cases h
    · rename_i h0
      rw [if_neg h0] at hk
      simp only [Bool.and_eq_true, decide_eq_true_eq] at hk
      obtain ⟨⟨⟨⟨⟨⟨k1, k2⟩, k3⟩, k4⟩, k5⟩, k6⟩, k7⟩ := hk
      obtain ⟨k2, k8⟩ := zcdB_is k2 (hmk r1)
      split at k7
      · rename_i C T N hc
        have k7 := of_decide_eq_true k7
        subst k7
        split at h
        · rename_i b rest hdr
          split at h
          · rename_i hlow
            split at h
            · rename_i c n hkn
              split at h
              · rename_i hcr
                subst hcr
                split at h
                · rename_i hlen
                  cases hq : rec r1 0 (zfst (.ref b :: (st.take r2).reverse) (zmL (P r1))) [] σ with
                  | none => rw [hq] at h; cases h
                  | some q =>
                    obtain ⟨o1, σ1⟩ := q
                    rw [hq] at h
                    have g0 := zback_le hle h
                    have g1 := hle _ _ _ _ _ _ _ hq
                    have hst : st = (st.take r2).reverse.reverse ++ (.ref b :: rest) := by rw [List.reverse_reverse, ← hdr, List.take_append_drop]
                    rw [hst]
                    have hlv : ((st.take r2).reverse).length = r2 := by rw [List.length_reverse]; exact hlen.1
                    refine zs_V F V O (hM r1 _ σ o1 σ1 hq hlen.2 k8) (by rw [hlv]; exact k2) k3 hkn hc (zmem_in k4) (zmem_in k5) (zmem_in k6) (zlow_is hlow) (zdec_is k1) g1 (by have := g0.1; omega) (by have := g0.2; omega) (fun v hv => ?_) (fun E hE9 => ?_)
                    · subst hv
                      exact KB _ _ _ _ h
                    · subst hE9
                      exact zback_hd Hy F V O hQ hr1 hr2 hle KB rfl h
                · cases h
              · cases h
            · cases h
          · cases h
        · cases h
      · cases k7
  case invokespecial x =>
    split at h
    · rename_i b rest hdr
      split at h
      · rename_i h0
        rw [if_pos h0] at hk
        simp only [Bool.and_eq_true, decide_eq_true_eq] at hk
        obtain ⟨⟨⟨k1, k2⟩, k3⟩, k4⟩ := hk
        split at h
        · rename_i hr0
          obtain ⟨rfl, hlow⟩ := hr0
          have hst : st = .ref b :: rest := hdr
          rw [hst]
          exact zs_O F O (zmem_in k2) hO.1 hO.2 k3 k4 (zlow_is hlow) (zdec_is k1) (KB _ _ _ _ h)
        · cases h
      · rename_i h0
        rw [if_neg h0] at hk
        simp only [Bool.and_eq_true, Bool.or_eq_true, decide_eq_true_eq] at hk
        obtain ⟨⟨⟨⟨⟨⟨k1, k2⟩, k3⟩, k4⟩, k5⟩, k6⟩, k7⟩ := hk
        obtain ⟨k2, k8⟩ := zcdB_is k2 (hmk r1)
        split at h
        · rename_i hlow
          split at h
          · rename_i c n hkn
            split at h
            · split at h
              · rename_i hlen
                cases hq : rec r1 0 (zfst (.ref b :: (st.take r2).reverse) (zmL (P r1))) [] σ with
                | none => rw [hq] at h; cases h
                | some q =>
                  obtain ⟨o1, σ1⟩ := q
                  rw [hq] at h
                  have g0 := zback_le hle h
                  have g1 := hle _ _ _ _ _ _ _ hq
                  have hst : st = (st.take r2).reverse.reverse ++ (.ref b :: rest) := by rw [List.reverse_reverse, ← hdr, List.take_append_drop]
                  rw [hst]
                  have hlv : ((st.take r2).reverse).length = r2 := by rw [List.length_reverse]; exact hlen.1
                  refine zs_I F V O (hM r1 _ σ o1 σ1 hq hlen.2 k8) (by rw [hlv]; exact k2) k3 k4 k5 (zmem_in k6) ?_ (zlow_is hlow) (zdec_is k1) g1 (by have := g0.1; omega) (by have := g0.2; omega) (fun v hv => ?_) (fun E hE9 => ?_)
                  · rcases k7 with k7 | k7
                    · exact Or.inl (zmem_in k7)
                    · exact Or.inr ⟨_, zmeW_in k7⟩
                  · subst hv
                    exact KB _ _ _ _ h
                  · subst hE9
                    exact zback_hd Hy F V O hQ hr1 hr2 hle KB rfl h
              · cases h
            · cases h
          · cases h
        · cases h
    · cases h
theorem zx_sim (Hy : zHyp l Y P zic ro) : ∀ (n : Nat) (X : zX) (y pc : Nat) (ls : zLs) (st : List Value) (σ : zS) (o : zO) (σ' : zS), zFix X → zOn (P y) X → xl X = l → xY X = Y → zVx X → xQ X = zQ X o σ' → znc σ' - xnc X ≤ (xR X).cells → zns σ' - xns X ≤ (xR X).slots → zx P Y.1.2.2.1 ro n y pc ls st σ = some (o, σ') → zC X pc ls st σ
  | 0, _, _, _, _, _, _, _, _, _, _, _, _, _, _, _, _, h => by cases h
  | n + 1, X, y, pc, ls, st, σ, o, σ', F, O, hl, hY, V, hQ, hr1, hr2, h => by
    have ih := zx_sim Hy n
    unfold zx at h
    split at h
    · cases h
    · rename_i e hlk
      refine zst_sim Hy F V O hl hY hQ hr1 hr2 (fun y pc ls st σ o σ' hq => zx_le Hy.2.2.2.2.2.2.2.1 hq) (fun pc ls st σ hq => ih X y pc ls st σ o σ' F O hl hY V hQ hr1 hr2 hq) (fun y1 vs σ1 o1 σ2 hq hlen hpl => ?_) (zlk_in hlk) h
      refine zmet_of Hy.1 hlen hpl Hy.2.1 fun X1 F1 O1 hl1 hY1 V1 hn1 hn2 hc1 hc2 hQ1 => ?_
      exact ih X1 y1 0 _ [] σ1 o1 σ2 F1 O1 hl1 hY1 V1 hQ1 (by rw [hn1, hc1]; exact Nat.le_refl _) (by rw [hn2, hc2]; exact Nat.le_refl _) hq
end ZALL
end
section
/-! the classes, their fields in order (printed by program) -/
def F_Main : u_T := fun k => match k with
  | 0 => ("Siegelines", "live", "LSiegelines$Siege;", true)
  | _ => ("Siegelines", "trial", "LSiegelines$Siege;", true)
def F_Siege : u_T := fun k => match k with
  | 0 => ("Siegelines$Siege", "ground", "LSiegelines$Ground;", true)
  | 1 => ("Siegelines$Siege", "guns", "[LSiegelines$Gun;", true)
  | 2 => ("Siegelines$Siege", "companies", "[LSiegelines$Company;", true)
  | 3 => ("Siegelines$Siege", "mines", "[LSiegelines$Mine;", true)
  | 4 => ("Siegelines$Siege", "besiegers", "LSiegelines$Side;", true)
  | 5 => ("Siegelines$Siege", "garrison", "LSiegelines$Side;", true)
  | 6 => ("Siegelines$Siege", "post", "LSiegelines$Post;", true)
  | 7 => ("Siegelines$Siege", "gunCount", "I", false)
  | 8 => ("Siegelines$Siege", "companyCount", "I", false)
  | 9 => ("Siegelines$Siege", "mineCount", "I", false)
  | 10 => ("Siegelines$Siege", "clock", "I", false)
  | 11 => ("Siegelines$Siege", "phase", "I", false)
  | 12 => ("Siegelines$Siege", "honours", "I", false)
  | 13 => ("Siegelines$Siege", "falls", "I", false)
  | 14 => ("Siegelines$Siege", "people", "I", false)
  | 15 => ("Siegelines$Siege", "supply", "I", false)
  | _ => ("Siegelines$Siege", "fires", "I", false)
def F_Ground : u_T := fun k => match k with
  | 0 => ("Siegelines$Ground", "height", "[I", true)
  | 1 => ("Siegelines$Ground", "soil", "[I", true)
  | 2 => ("Siegelines$Ground", "work", "[I", true)
  | 3 => ("Siegelines$Ground", "firm", "[I", true)
  | 4 => ("Siegelines$Ground", "toil", "[I", true)
  | 5 => ("Siegelines$Ground", "column", "[I", true)
  | 6 => ("Siegelines$Ground", "line", "[I", true)
  | 7 => ("Siegelines$Ground", "steps", "[I", true)
  | 8 => ("Siegelines$Ground", "queue", "[I", true)
  | 9 => ("Siegelines$Ground", "wide", "I", false)
  | 10 => ("Siegelines$Ground", "high", "I", false)
  | 11 => ("Siegelines$Ground", "count", "I", false)
  | 12 => ("Siegelines$Ground", "camp", "I", false)
  | _ => ("Siegelines$Ground", "gate", "I", false)
def F_Gun : u_T := fun k => match k with
  | 0 => ("Siegelines$Gun", "side", "I", false)
  | 1 => ("Siegelines$Gun", "square", "I", false)
  | 2 => ("Siegelines$Gun", "calibre", "I", false)
  | 3 => ("Siegelines$Gun", "heat", "I", false)
  | 4 => ("Siegelines$Gun", "hits", "I", false)
  | 5 => ("Siegelines$Gun", "state", "I", false)
  | _ => ("Siegelines$Gun", "aim", "I", false)
def F_Company : u_T := fun k => match k with
  | 0 => ("Siegelines$Company", "side", "I", false)
  | 1 => ("Siegelines$Company", "square", "I", false)
  | 2 => ("Siegelines$Company", "men", "I", false)
  | 3 => ("Siegelines$Company", "tired", "I", false)
  | 4 => ("Siegelines$Company", "order", "I", false)
  | _ => ("Siegelines$Company", "goal", "I", false)
def F_Mine : u_T := fun k => match k with
  | 0 => ("Siegelines$Mine", "squares", "[I", true)
  | 1 => ("Siegelines$Mine", "side", "I", false)
  | 2 => ("Siegelines$Mine", "length", "I", false)
  | 3 => ("Siegelines$Mine", "direction", "I", false)
  | 4 => ("Siegelines$Mine", "charge", "I", false)
  | 5 => ("Siegelines$Mine", "toil", "I", false)
  | _ => ("Siegelines$Mine", "state", "I", false)
def F_Side : u_T := fun k => match k with
  | 0 => ("Siegelines$Side", "powder", "I", false)
  | 1 => ("Siegelines$Side", "food", "I", false)
  | 2 => ("Siegelines$Side", "gabions", "I", false)
  | 3 => ("Siegelines$Side", "morale", "I", false)
  | 4 => ("Siegelines$Side", "hunger", "I", false)
  | 5 => ("Siegelines$Side", "shots", "I", false)
  | 6 => ("Siegelines$Side", "spent", "I", false)
  | 7 => ("Siegelines$Side", "losses", "I", false)
  | 8 => ("Siegelines$Side", "won", "I", false)
  | 9 => ("Siegelines$Side", "sick", "I", false)
  | _ => ("Siegelines$Side", "brought", "I", false)
def F_Post : u_T := fun k => match k with
  | 0 => ("Siegelines$Post", "daysOut", "[I", true)
  | 1 => ("Siegelines$Post", "fate", "[I", true)
  | 2 => ("Siegelines$Post", "sent", "I", false)
  | 3 => ("Siegelines$Post", "through", "I", false)
  | 4 => ("Siegelines$Post", "days", "I", false)
  | 5 => ("Siegelines$Post", "isSetOut", "Z", false)
  | _ => ("Siegelines$Post", "isThere", "Z", false)
def zCl : List vw_C := [("Siegelines", F_Main, 2), ("Siegelines$Siege", F_Siege, 17), ("Siegelines$Ground", F_Ground, 14), ("Siegelines$Gun", F_Gun, 7), ("Siegelines$Company", F_Company, 6), ("Siegelines$Mine", F_Mine, 7), ("Siegelines$Side", F_Side, 11), ("Siegelines$Post", F_Post, 7)]
def zT_Main : List FieldType := [.object "Siegelines$Siege", .object "Siegelines$Siege"]
def zT_Siege : List FieldType := [.object "Siegelines$Ground", .array (.object "Siegelines$Gun"), .array (.object "Siegelines$Company"), .array (.object "Siegelines$Mine"), .object "Siegelines$Side", .object "Siegelines$Side", .object "Siegelines$Post", .int, .int, .int, .int, .int, .int, .int, .int, .int, .int]
def zT_Ground : List FieldType := [.array .int, .array .int, .array .int, .array .int, .array .int, .array .int, .array .int, .array .int, .array .int, .int, .int, .int, .int, .int]
def zT_Gun : List FieldType := [.int, .int, .int, .int, .int, .int, .int]
def zT_Company : List FieldType := [.int, .int, .int, .int, .int, .int]
def zT_Mine : List FieldType := [.array .int, .int, .int, .int, .int, .int, .int]
def zT_Side : List FieldType := [.int, .int, .int, .int, .int, .int, .int, .int, .int, .int, .int]
def zT_Post : List FieldType := [.array .int, .array .int, .int, .int, .int, .boolean, .boolean]
def zFt : Nat → List FieldType := fun k => match k with
  | 0 => zT_Main
  | 1 => zT_Siege
  | 2 => zT_Ground
  | 3 => zT_Gun
  | 4 => zT_Company
  | 5 => zT_Mine
  | 6 => zT_Side
  | 7 => zT_Post
  | _ => []
def zic (E : Nat) : Nat := if E = 86 then 34 else if E = 43 then 60 else 23
end
section
/-! the program: every method that the law comes to, but row and signOf (printed by program) -/
set_option maxRecDepth 20000 in
/-- 0: S_new -/
def zm_S_new : zM := (⟨"Siegelines", "<init>", "()V"⟩, prog_1_method_1_code, 1, none, [], [(0, .aload_n 0, 0, 0, 0, []), (1, .invokespecial 1, 0, 0, 1000, [600]), (4, .aload_n 0, 0, 0, 0, []), (5, .new 7, 1, 0, 0, [601]), (8, .dup, 0, 0, 0, []), (9, .invokespecial 9, 125, 0, 1, [602, 603]), (12, .putfield 10, 0, 0, 0, [1002]), (15, .aload_n 0, 0, 0, 0, []), (16, .new 7, 1, 0, 0, [601]), (19, .dup, 0, 0, 0, []), (20, .invokespecial 9, 125, 0, 1, [602, 603]), (23, .putfield 16, 0, 1, 0, [1003]), (26, .return_, 0, 0, 0, [])], 3, 61)
set_option maxRecDepth 20000 in
/-- 1: S_aim -/
def zm_S_aim : zM := (⟨"Siegelines", "aim", "(II)I"⟩, prog_1_method_12_code, 5, some (.int), [], [(0, .aload_n 0, 0, 0, 0, []), (1, .getfield 10, 0, 0, 0, [1002]), (4, .iload_n 1, 0, 0, 0, []), (5, .invokevirtual 197, 137, 1, 1, [1350, 1351, 1352]), (8, .astore_n 3, 0, 0, 0, []), (9, .aload_n 3, 0, 0, 0, []), (10, .ifnull 22, 32, 0, 0, []), (13, .iload_n 2, 0, 0, 0, []), (14, .iconst (-1), 0, 0, 0, []), (15, .if_icmp .eq 27, 42, 0, 0, []), (18, .aload_n 0, 0, 0, 0, []), (19, .getfield 10, 0, 0, 0, [1002]), (22, .getfield 38, 1, 0, 0, [917]), (25, .iload_n 2, 0, 0, 0, []), (26, .invokevirtual 52, 67, 1, 2, [1342, 168, 169]), (29, .ifCond .ne 13, 42, 0, 0, []), (32, .new 56, 43, 201, 1, [1366]), (42, .aload_n 0, 0, 0, 0, []), (43, .getfield 10, 0, 0, 0, [1002]), (46, .getfield 26, 1, 11, 0, [953]), (49, .iconst 1, 0, 0, 0, []), (50, .if_icmp .eq 13, 63, 0, 0, []), (53, .new 30, 86, 203, 1, [1367]), (63, .aload_n 3, 0, 0, 0, []), (64, .getfield 205, 3, 6, 0, [810]), (67, .istore 4, 0, 0, 0, []), (69, .aload_n 3, 0, 0, 0, []), (70, .iload_n 2, 0, 0, 0, []), (71, .putfield 205, 3, 6, 0, [810]), (74, .iload 4, 0, 0, 0, []), (76, .ireturn, 0, 0, 0, [])], 6, 82)
set_option maxRecDepth 20000 in
/-- 2: S_begin -/
def zm_S_begin : zM := (⟨"Siegelines", "begin", "()I"⟩, prog_1_method_10_code, 1, some (.int), [], [(0, .aload_n 0, 0, 0, 0, []), (1, .getfield 10, 0, 0, 0, [1002]), (4, .getfield 26, 1, 11, 0, [953]), (7, .ifCond .ne 25, 32, 0, 0, []), (10, .aload_n 0, 0, 0, 0, []), (11, .getfield 10, 0, 0, 0, [1002]), (14, .iconst 0, 0, 0, 0, []), (15, .invokevirtual 155, 130, 1, 1, [455, 253, 254]), (18, .ifCond .eq 14, 32, 0, 0, []), (21, .aload_n 0, 0, 0, 0, []), (22, .getfield 10, 0, 0, 0, [1002]), (25, .iconst 1, 0, 0, 0, []), (26, .invokevirtual 155, 130, 1, 1, [455, 253, 254]), (29, .ifCond .ne 13, 42, 0, 0, []), (32, .new 30, 86, 158, 1, [1083]), (42, .aload_n 0, 0, 0, 0, []), (43, .getfield 10, 0, 0, 0, [1002]), (46, .iconst 1, 0, 0, 0, []), (47, .putfield 26, 1, 11, 0, [953]), (50, .aload_n 0, 0, 0, 0, []), (51, .getfield 10, 0, 0, 0, [1002]), (54, .getfield 160, 1, 4, 0, [938]), (57, .aload_n 0, 0, 0, 0, []), (58, .getfield 10, 0, 0, 0, [1002]), (61, .getfield 160, 1, 4, 0, [938]), (64, .getfield 164, 6, 0, 0, [695]), (67, .putfield 167, 6, 10, 0, [724]), (70, .aload_n 0, 0, 0, 0, []), (71, .getfield 10, 0, 0, 0, [1002]), (74, .getfield 170, 1, 5, 0, [941]), (77, .aload_n 0, 0, 0, 0, []), (78, .getfield 10, 0, 0, 0, [1002]), (81, .getfield 170, 1, 5, 0, [941]), (84, .getfield 164, 6, 0, 0, [695]), (87, .putfield 167, 6, 10, 0, [724]), (90, .aload_n 0, 0, 0, 0, []), (91, .getfield 10, 0, 0, 0, [1002]), (94, .getfield 93, 1, 8, 0, [948]), (97, .ireturn, 0, 0, 0, [])], 6, 82)
set_option maxRecDepth 20000 in
/-- 3: S_blow -/
def zm_S_blow : zM := (⟨"Siegelines", "blow", "(I)I"⟩, prog_1_method_17_code, 4, some (.int), [], [(0, .aload_n 0, 0, 0, 0, []), (1, .getfield 10, 0, 0, 0, [1002]), (4, .iload_n 1, 0, 0, 0, []), (5, .invokevirtual 258, 148, 1, 1, [1413, 1414, 1415]), (8, .astore_n 2, 0, 0, 0, []), (9, .aload_n 2, 0, 0, 0, []), (10, .ifnonnull 14, 24, 0, 0, []), (13, .new 56, 43, 262, 1, [1417]), (24, .aload_n 0, 0, 0, 0, []), (25, .getfield 10, 0, 0, 0, [1002]), (28, .getfield 26, 1, 11, 0, [953]), (31, .iconst 1, 0, 0, 0, []), (32, .if_icmp .ne 17, 49, 0, 0, []), (35, .aload_n 2, 0, 0, 0, []), (36, .invokevirtual 266, 105, 0, 5, [1419, 564, 565]), (39, .ifCond .eq 10, 49, 0, 0, []), (42, .aload_n 2, 0, 0, 0, []), (43, .getfield 275, 5, 4, 0, [891]), (46, .ifCond .ne 14, 60, 0, 0, []), (49, .new 30, 86, 278, 1, [1425]), (60, .aload_n 0, 0, 0, 0, []), (61, .getfield 10, 0, 0, 0, [1002]), (64, .aload_n 2, 0, 0, 0, []), (65, .invokestatic 280, 109, 2, 0, [1426, 1427]), (68, .istore_n 3, 0, 0, 0, []), (69, .aload_n 0, 0, 0, 0, []), (70, .getfield 10, 0, 0, 0, [1002]), (73, .invokevirtual 284, 127, 0, 1, [1452, 239, 240]), (76, .pop, 0, 0, 0, []), (77, .iload_n 3, 0, 0, 0, []), (78, .ireturn, 0, 0, 0, [])], 6, 122)
set_option maxRecDepth 20000 in
/-- 4: S_charge -/
def zm_S_charge : zM := (⟨"Siegelines", "charge", "(II)I"⟩, prog_1_method_16_code, 4, some (.int), [], [(0, .aload_n 0, 0, 0, 0, []), (1, .getfield 10, 0, 0, 0, [1002]), (4, .iload_n 1, 0, 0, 0, []), (5, .invokevirtual 258, 148, 1, 1, [1413, 1414, 1415]), (8, .astore_n 3, 0, 0, 0, []), (9, .aload_n 3, 0, 0, 0, []), (10, .ifnonnull 14, 24, 0, 0, []), (13, .new 56, 43, 262, 1, [1417]), (24, .iload_n 2, 0, 0, 0, []), (25, .iconst 1, 0, 0, 0, []), (26, .if_icmp .lt 9, 35, 0, 0, []), (29, .iload_n 2, 0, 0, 0, []), (30, .bipush 60, 0, 0, 0, []), (32, .if_icmp .le 14, 46, 0, 0, []), (35, .new 19, 0, 264, 1, [1418]), (46, .aload_n 0, 0, 0, 0, []), (47, .getfield 10, 0, 0, 0, [1002]), (50, .getfield 26, 1, 11, 0, [953]), (53, .iconst 1, 0, 0, 0, []), (54, .if_icmp .ne 28, 82, 0, 0, []), (57, .aload_n 3, 0, 0, 0, []), (58, .invokevirtual 266, 105, 0, 5, [1419, 564, 565]), (61, .ifCond .eq 21, 82, 0, 0, []), (64, .aload_n 0, 0, 0, 0, []), (65, .getfield 10, 0, 0, 0, [1002]), (68, .aload_n 3, 0, 0, 0, []), (69, .getfield 272, 5, 1, 0, [882]), (72, .invokevirtual 105, 150, 1, 1, [453, 197, 198]), (75, .getfield 164, 6, 0, 0, [695]), (78, .iload_n 2, 0, 0, 0, []), (79, .if_icmp .ge 14, 93, 0, 0, []), (82, .new 30, 86, 273, 1, [1420]), (93, .aload_n 0, 0, 0, 0, []), (94, .getfield 10, 0, 0, 0, [1002]), (97, .aload_n 3, 0, 0, 0, []), (98, .getfield 272, 5, 1, 0, [882]), (101, .invokevirtual 105, 150, 1, 1, [453, 197, 198]), (104, .dup, 0, 0, 0, []), (105, .getfield 164, 6, 0, 0, [695]), (108, .iload_n 2, 0, 0, 0, []), (109, .isub, 0, 0, 0, []), (110, .putfield 164, 6, 0, 0, [695]), (113, .aload_n 3, 0, 0, 0, []), (114, .dup, 0, 0, 0, []), (115, .getfield 275, 5, 4, 0, [891]), (118, .iload_n 2, 0, 0, 0, []), (119, .iadd, 0, 0, 0, []), (120, .putfield 275, 5, 4, 0, [891]), (123, .aload_n 3, 0, 0, 0, []), (124, .getfield 275, 5, 4, 0, [891]), (127, .ireturn, 0, 0, 0, [])], 6, 82)
set_option maxRecDepth 20000 in
/-- 5: S_companyFact -/
def zm_S_companyFact : zM := (⟨"Siegelines", "companyFact", "(LSiegelines$Company;I)I"⟩, prog_1_method_41_code, 3, some (.int), [], [(0, .iload_n 2, 0, 0, 0, []), (1, .tableswitch 69 0 5 #[39, 44, 49, 54, 59, 64], 0, 70, 39, [40, 45, 50, 55, 60, 65]), (40, .aload_n 1, 0, 0, 0, []), (41, .getfield 179, 4, 0, 0, [835]), (44, .ireturn, 0, 0, 0, []), (45, .aload_n 1, 0, 0, 0, []), (46, .getfield 247, 4, 1, 0, [841]), (49, .ireturn, 0, 0, 0, []), (50, .aload_n 1, 0, 0, 0, []), (51, .getfield 186, 4, 2, 0, [847]), (54, .ireturn, 0, 0, 0, []), (55, .aload_n 1, 0, 0, 0, []), (56, .getfield 226, 4, 3, 0, [851]), (59, .ireturn, 0, 0, 0, []), (60, .aload_n 1, 0, 0, 0, []), (61, .getfield 191, 4, 4, 0, [856]), (64, .ireturn, 0, 0, 0, []), (65, .aload_n 1, 0, 0, 0, []), (66, .getfield 194, 4, 5, 0, [859]), (69, .ireturn, 0, 0, 0, []), (70, .aload_n 0, 0, 0, 0, []), (71, .getfield 10, 0, 0, 0, [1002]), (74, .aload_n 1, 0, 0, 0, []), (75, .invokevirtual 493, 135, 1, 1, [549, 322, 323]), (78, .bipush 100, 0, 0, 0, []), (80, .idiv, 0, 0, 0, []), (81, .ireturn, 0, 0, 0, [])], 2, 42)
set_option maxRecDepth 20000 in
/-- 6: S_digest -/
def zm_S_digest : zM := (⟨"Siegelines", "digest", "()J"⟩, prog_1_method_37_code, 11, some (.long), [], [(0, .ldc2_w 424, 58263, 0, 0, [499]), (3, .lstore_n 1, 0, 0, 0, []), (4, .iconst 0, 0, 0, 0, []), (5, .istore_n 3, 0, 0, 0, []), (6, .iload_n 3, 0, 0, 0, []), (7, .bipush 12, 0, 0, 0, []), (9, .if_icmp .gt 22, 31, 0, 0, []), (12, .lload_n 1, 0, 0, 0, []), (13, .ldc2_w 426, 31, 0, 0, [500]), (16, .lmul, 0, 0, 0, []), (17, .aload_n 0, 0, 0, 0, []), (18, .iload_n 3, 0, 0, 0, []), (19, .invokevirtual 361, 29, 1, 0, [466, 468, 5]), (22, .i2l, 0, 0, 0, []), (23, .ladd, 0, 0, 0, []), (24, .lstore_n 1, 0, 0, 0, []), (25, .iinc 3 1, 0, 0, 0, []), (28, .goto (-22), 6, 0, 0, []), (31, .iconst 0, 0, 0, 0, []), (32, .istore_n 3, 0, 0, 0, []), (33, .iload_n 3, 0, 0, 0, []), (34, .iconst 1, 0, 0, 0, []), (35, .if_icmp .gt 40, 75, 0, 0, []), (38, .iconst 0, 0, 0, 0, []), (39, .istore 4, 0, 0, 0, []), (41, .iload 4, 0, 0, 0, []), (43, .bipush 12, 0, 0, 0, []), (45, .if_icmp .gt 24, 69, 0, 0, []), (48, .lload_n 1, 0, 0, 0, []), (49, .ldc2_w 426, 31, 0, 0, [500]), (52, .lmul, 0, 0, 0, []), (53, .aload_n 0, 0, 0, 0, []), (54, .iload_n 3, 0, 0, 0, []), (55, .iload 4, 0, 0, 0, []), (57, .invokevirtual 358, 28, 2, 0, [448, 450, 4]), (60, .i2l, 0, 0, 0, []), (61, .ladd, 0, 0, 0, []), (62, .lstore_n 1, 0, 0, 0, []), (63, .iinc 4 1, 0, 0, 0, []), (66, .goto (-25), 41, 0, 0, []), (69, .iinc 3 1, 0, 0, 0, []), (72, .goto (-39), 33, 0, 0, []), (75, .iconst 0, 0, 0, 0, []), (76, .istore_n 3, 0, 0, 0, []), (77, .iload_n 3, 0, 0, 0, []), (78, .aload_n 0, 0, 0, 0, []), (79, .getfield 10, 0, 0, 0, [1002]), (82, .getfield 38, 1, 0, 0, [917]), (85, .getfield 143, 2, 11, 0, [638]), (88, .if_icmp .ge 57, 145, 0, 0, []), (91, .getstatic 428, 1, 0, 0, [501]), (94, .astore 4, 0, 0, 0, []), (96, .aload 4, 0, 0, 0, []), (98, .arraylength, 0, 0, 0, []), (99, .istore 5, 0, 0, 0, []), (101, .iconst 0, 0, 0, 0, []), (102, .istore 6, 0, 0, 0, []), (104, .iload 6, 0, 0, 0, []), (106, .iload 5, 0, 0, 0, []), (108, .if_icmp .ge 31, 139, 0, 0, []), (111, .aload 4, 0, 0, 0, []), (113, .iload 6, 0, 0, 0, []), (115, .iaload, 0, 0, 0, []), (116, .istore 7, 0, 0, 0, []), (118, .lload_n 1, 0, 0, 0, []), (119, .ldc2_w 426, 31, 0, 0, [500]), (122, .lmul, 0, 0, 0, []), (123, .aload_n 0, 0, 0, 0, []), (124, .iload_n 3, 0, 0, 0, []), (125, .iload 7, 0, 0, 0, []), (127, .invokevirtual 324, 30, 2, 0, [503, 505, 8]), (130, .i2l, 0, 0, 0, []), (131, .ladd, 0, 0, 0, []), (132, .lstore_n 1, 0, 0, 0, []), (133, .iinc 6 1, 0, 0, 0, []), (136, .goto (-32), 104, 0, 0, []), (139, .iinc 3 1, 0, 0, 0, []), (142, .goto (-65), 77, 0, 0, []), (145, .aload_n 0, 0, 0, 0, []), (146, .getfield 10, 0, 0, 0, [1002]), (149, .getfield 432, 1, 1, 0, [924]), (152, .astore_n 3, 0, 0, 0, []), (153, .aload_n 3, 0, 0, 0, []), (154, .arraylength, 0, 0, 0, []), (155, .istore 4, 0, 0, 0, []), (157, .iconst 0, 0, 0, 0, []), (158, .istore 5, 0, 0, 0, []), (160, .iload 5, 0, 0, 0, []), (162, .iload 4, 0, 0, 0, []), (164, .if_icmp .ge 76, 240, 0, 0, []), (167, .aload_n 3, 0, 0, 0, []), (168, .iload 5, 0, 0, 0, []), (170, .aaload, 0, 0, 0, []), (171, .astore 6, 0, 0, 0, []), (173, .getstatic 436, 2, 0, 0, [531]), (176, .astore 7, 0, 0, 0, []), (178, .aload 7, 0, 0, 0, []), (180, .arraylength, 0, 0, 0, []), (181, .istore 8, 0, 0, 0, []), (183, .iconst 0, 0, 0, 0, []), (184, .istore 9, 0, 0, 0, []), (186, .iload 9, 0, 0, 0, []), (188, .iload 8, 0, 0, 0, []), (190, .if_icmp .ge 44, 234, 0, 0, []), (193, .aload 7, 0, 0, 0, []), (195, .iload 9, 0, 0, 0, []), (197, .iaload, 0, 0, 0, []), (198, .istore 10, 0, 0, 0, []), (200, .aload 6, 0, 0, 0, []), (202, .invokevirtual 439, 83, 0, 3, [533, 149, 150]), (205, .ifCond .eq 21, 226, 0, 0, []), (208, .lload_n 1, 0, 0, 0, []), (209, .ldc2_w 426, 31, 0, 0, [500]), (212, .lmul, 0, 0, 0, []), (213, .aload_n 0, 0, 0, 0, []), (214, .aload 6, 0, 0, 0, []), (216, .iload 10, 0, 0, 0, []), (218, .invokevirtual 346, 7, 2, 0, [534, 536, 9]), (221, .i2l, 0, 0, 0, []), (222, .ladd, 0, 0, 0, []), (223, .goto 4, 227, 0, 0, []), (226, .lload_n 1, 0, 0, 0, []), (227, .lstore_n 1, 0, 0, 0, []), (228, .iinc 9 1, 0, 0, 0, []), (231, .goto (-45), 186, 0, 0, []), (234, .iinc 5 1, 0, 0, 0, []), (237, .goto (-77), 160, 0, 0, []), (240, .aload_n 0, 0, 0, 0, []), (241, .getfield 10, 0, 0, 0, [1002]), (244, .getfield 442, 1, 2, 0, [930]), (247, .astore_n 3, 0, 0, 0, []), (248, .aload_n 3, 0, 0, 0, []), (249, .arraylength, 0, 0, 0, []), (250, .istore 4, 0, 0, 0, []), (252, .iconst 0, 0, 0, 0, []), (253, .istore 5, 0, 0, 0, []), (255, .iload 5, 0, 0, 0, []), (257, .iload 4, 0, 0, 0, []), (259, .if_icmp .ge 76, 335, 0, 0, []), (262, .aload_n 3, 0, 0, 0, []), (263, .iload 5, 0, 0, 0, []), (265, .aaload, 0, 0, 0, []), (266, .astore 6, 0, 0, 0, []), (268, .getstatic 446, 3, 0, 0, [539]), (271, .astore 7, 0, 0, 0, []), (273, .aload 7, 0, 0, 0, []), (275, .arraylength, 0, 0, 0, []), (276, .istore 8, 0, 0, 0, []), (278, .iconst 0, 0, 0, 0, []), (279, .istore 9, 0, 0, 0, []), (281, .iload 9, 0, 0, 0, []), (283, .iload 8, 0, 0, 0, []), (285, .if_icmp .ge 44, 329, 0, 0, []), (288, .aload 7, 0, 0, 0, []), (290, .iload 9, 0, 0, 0, []), (292, .iaload, 0, 0, 0, []), (293, .istore 10, 0, 0, 0, []), (295, .aload 6, 0, 0, 0, []), (297, .invokevirtual 449, 35, 0, 4, [541, 542, 543]), (300, .ifCond .eq 21, 321, 0, 0, []), (303, .lload_n 1, 0, 0, 0, []), (304, .ldc2_w 426, 31, 0, 0, [500]), (307, .lmul, 0, 0, 0, []), (308, .aload_n 0, 0, 0, 0, []), (309, .aload 6, 0, 0, 0, []), (311, .iload 10, 0, 0, 0, []), (313, .invokevirtual 350, 5, 2, 0, [545, 547, 10]), (316, .i2l, 0, 0, 0, []), (317, .ladd, 0, 0, 0, []), (318, .goto 4, 322, 0, 0, []), (321, .lload_n 1, 0, 0, 0, []), (322, .lstore_n 1, 0, 0, 0, []), (323, .iinc 9 1, 0, 0, 0, []), (326, .goto (-45), 281, 0, 0, []), (329, .iinc 5 1, 0, 0, 0, []), (332, .goto (-77), 255, 0, 0, []), (335, .aload_n 0, 0, 0, 0, []), (336, .getfield 10, 0, 0, 0, [1002]), (339, .getfield 450, 1, 3, 0, [933]), (342, .astore_n 3, 0, 0, 0, []), (343, .aload_n 3, 0, 0, 0, []), (344, .arraylength, 0, 0, 0, []), (345, .istore 4, 0, 0, 0, []), (347, .iconst 0, 0, 0, 0, []), (348, .istore 5, 0, 0, 0, []), (350, .iload 5, 0, 0, 0, []), (352, .iload 4, 0, 0, 0, []), (354, .if_icmp .ge 76, 430, 0, 0, []), (357, .aload_n 3, 0, 0, 0, []), (358, .iload 5, 0, 0, 0, []), (360, .aaload, 0, 0, 0, []), (361, .astore 6, 0, 0, 0, []), (363, .getstatic 454, 4, 0, 0, [550]), (366, .astore 7, 0, 0, 0, []), (368, .aload 7, 0, 0, 0, []), (370, .arraylength, 0, 0, 0, []), (371, .istore 8, 0, 0, 0, []), (373, .iconst 0, 0, 0, 0, []), (374, .istore 9, 0, 0, 0, []), (376, .iload 9, 0, 0, 0, []), (378, .iload 8, 0, 0, 0, []), (380, .if_icmp .ge 44, 424, 0, 0, []), (383, .aload 7, 0, 0, 0, []), (385, .iload 9, 0, 0, 0, []), (387, .iaload, 0, 0, 0, []), (388, .istore 10, 0, 0, 0, []), (390, .aload 6, 0, 0, 0, []), (392, .invokevirtual 457, 104, 0, 5, [552, 367, 368]), (395, .ifCond .eq 21, 416, 0, 0, []), (398, .lload_n 1, 0, 0, 0, []), (399, .ldc2_w 426, 31, 0, 0, [500]), (402, .lmul, 0, 0, 0, []), (403, .aload_n 0, 0, 0, 0, []), (404, .aload 6, 0, 0, 0, []), (406, .iload 10, 0, 0, 0, []), (408, .invokevirtual 354, 15, 2, 0, [553, 555, 11]), (411, .i2l, 0, 0, 0, []), (412, .ladd, 0, 0, 0, []), (413, .goto 4, 417, 0, 0, []), (416, .lload_n 1, 0, 0, 0, []), (417, .lstore_n 1, 0, 0, 0, []), (418, .iinc 9 1, 0, 0, 0, []), (421, .goto (-45), 376, 0, 0, []), (424, .iinc 5 1, 0, 0, 0, []), (427, .goto (-77), 350, 0, 0, []), (430, .lload_n 1, 0, 0, 0, []), (431, .ldc2_w 426, 31, 0, 0, [500]), (434, .lmul, 0, 0, 0, []), (435, .aload_n 0, 0, 0, 0, []), (436, .getfield 10, 0, 0, 0, [1002]), (439, .invokevirtual 421, 140, 0, 1, [567, 568, 569]), (442, .ifCond .eq 7, 449, 0, 0, []), (445, .iconst 1, 0, 0, 0, []), (446, .goto 4, 450, 0, 0, []), (449, .iconst 0, 0, 0, 0, []), (450, .i2l, 0, 0, 0, []), (451, .ladd, 0, 0, 0, []), (452, .lreturn, 0, 0, 0, [])], 6, 142)
set_option maxRecDepth 20000 in
/-- 7: S_gunFact -/
def zm_S_gunFact : zM := (⟨"Siegelines", "gunFact", "(LSiegelines$Gun;I)I"⟩, prog_1_method_40_code, 3, some (.int), [], [(0, .iload_n 2, 0, 0, 0, []), (1, .tableswitch 78 0 6 #[43, 48, 53, 58, 63, 68, 73], 0, 79, 43, [44, 49, 54, 59, 64, 69, 74]), (44, .aload_n 1, 0, 0, 0, []), (45, .getfield 219, 3, 0, 0, [790]), (48, .ireturn, 0, 0, 0, []), (49, .aload_n 1, 0, 0, 0, []), (50, .getfield 210, 3, 1, 0, [794]), (53, .ireturn, 0, 0, 0, []), (54, .aload_n 1, 0, 0, 0, []), (55, .getfield 487, 3, 2, 0, [798]), (58, .ireturn, 0, 0, 0, []), (59, .aload_n 1, 0, 0, 0, []), (60, .getfield 239, 3, 3, 0, [800]), (63, .ireturn, 0, 0, 0, []), (64, .aload_n 1, 0, 0, 0, []), (65, .getfield 236, 3, 4, 0, [802]), (68, .ireturn, 0, 0, 0, []), (69, .aload_n 1, 0, 0, 0, []), (70, .getfield 229, 3, 5, 0, [806]), (73, .ireturn, 0, 0, 0, []), (74, .aload_n 1, 0, 0, 0, []), (75, .getfield 205, 3, 6, 0, [810]), (78, .ireturn, 0, 0, 0, []), (79, .aload_n 0, 0, 0, 0, []), (80, .getfield 10, 0, 0, 0, [1002]), (83, .aload_n 1, 0, 0, 0, []), (84, .invokestatic 490, 92, 2, 0, [538, 146]), (87, .ireturn, 0, 0, 0, [])], 5, 120)
set_option maxRecDepth 20000 in
/-- 8: S_haul -/
def zm_S_haul : zM := (⟨"Siegelines", "haul", "(II)I"⟩, prog_1_method_13_code, 5, some (.int), [], [(0, .aload_n 0, 0, 0, 0, []), (1, .getfield 10, 0, 0, 0, [1002]), (4, .iload_n 1, 0, 0, 0, []), (5, .invokevirtual 197, 137, 1, 1, [1350, 1351, 1352]), (8, .astore_n 3, 0, 0, 0, []), (9, .aload_n 3, 0, 0, 0, []), (10, .ifnull 17, 27, 0, 0, []), (13, .aload_n 0, 0, 0, 0, []), (14, .getfield 10, 0, 0, 0, [1002]), (17, .getfield 38, 1, 0, 0, [917]), (20, .iload_n 2, 0, 0, 0, []), (21, .invokevirtual 52, 67, 1, 2, [1342, 168, 169]), (24, .ifCond .ne 13, 37, 0, 0, []), (27, .new 56, 43, 201, 1, [1366]), (37, .aload_n 0, 0, 0, 0, []), (38, .getfield 10, 0, 0, 0, [1002]), (41, .getfield 26, 1, 11, 0, [953]), (44, .iconst 1, 0, 0, 0, []), (45, .if_icmp .ne 38, 83, 0, 0, []), (48, .aload_n 0, 0, 0, 0, []), (49, .getfield 10, 0, 0, 0, [1002]), (52, .getfield 38, 1, 0, 0, [917]), (55, .aload_n 3, 0, 0, 0, []), (56, .getfield 210, 3, 1, 0, [794]), (59, .iload_n 2, 0, 0, 0, []), (60, .invokevirtual 213, 79, 2, 2, [1376, 268, 269]), (63, .ifCond .eq 20, 83, 0, 0, []), (66, .aload_n 0, 0, 0, 0, []), (67, .getfield 10, 0, 0, 0, [1002]), (70, .getfield 38, 1, 0, 0, [917]), (73, .iload_n 2, 0, 0, 0, []), (74, .invokevirtual 85, 81, 1, 2, [512, 220, 221]), (77, .invokestatic 123, 9, 1, 0, [1377, 1378]), (80, .ifCond .eq 13, 93, 0, 0, []), (83, .new 30, 86, 217, 1, [1380]), (93, .aload_n 0, 0, 0, 0, []), (94, .getfield 10, 0, 0, 0, [1002]), (97, .aload_n 3, 0, 0, 0, []), (98, .getfield 219, 3, 0, 0, [790]), (101, .iload_n 2, 0, 0, 0, []), (102, .invokevirtual 220, 136, 2, 1, [1381, 1382, 1383]), (105, .astore 4, 0, 0, 0, []), (107, .aload 4, 0, 0, 0, []), (109, .ifnonnull 13, 122, 0, 0, []), (112, .new 30, 86, 224, 1, [1385]), (122, .aload 4, 0, 0, 0, []), (124, .dup, 0, 0, 0, []), (125, .getfield 226, 4, 3, 0, [851]), (128, .iconst 2, 0, 0, 0, []), (129, .iadd, 0, 0, 0, []), (130, .putfield 226, 4, 3, 0, [851]), (133, .aload_n 3, 0, 0, 0, []), (134, .iload_n 2, 0, 0, 0, []), (135, .putfield 210, 3, 1, 0, [794]), (138, .aload_n 3, 0, 0, 0, []), (139, .iconst (-1), 0, 0, 0, []), (140, .putfield 205, 3, 6, 0, [810]), (143, .aload 4, 0, 0, 0, []), (145, .getfield 226, 4, 3, 0, [851]), (148, .ireturn, 0, 0, 0, [])], 6, 82)
set_option maxRecDepth 20000 in
/-- 9: S_isNoGunWork -/
def zm_S_isNoGunWork : zM := (⟨"Siegelines", "isNoGunWork", "(I)Z"⟩, prog_1_method_48_code, 1, some (.boolean), [], [(0, .iload_n 0, 0, 0, 0, []), (1, .iconst 2, 0, 0, 0, []), (2, .if_icmp .eq 15, 17, 0, 0, []), (5, .iload_n 0, 0, 0, 0, []), (6, .bipush 6, 0, 0, 0, []), (8, .if_icmp .eq 9, 17, 0, 0, []), (11, .iload_n 0, 0, 0, 0, []), (12, .bipush 7, 0, 0, 0, []), (14, .if_icmp .ne 7, 21, 0, 0, []), (17, .iconst 1, 0, 0, 0, []), (18, .goto 4, 22, 0, 0, []), (21, .iconst 0, 0, 0, 0, []), (22, .ireturn, 0, 0, 0, [])], 0, 0)
set_option maxRecDepth 20000 in
/-- 10: S_isSide -/
def zm_S_isSide : zM := (⟨"Siegelines", "isSide", "(I)Z"⟩, prog_1_method_46_code, 1, some (.boolean), [], [(0, .iload_n 0, 0, 0, 0, []), (1, .ifCond .eq 8, 9, 0, 0, []), (4, .iload_n 0, 0, 0, 0, []), (5, .iconst 1, 0, 0, 0, []), (6, .if_icmp .ne 7, 13, 0, 0, []), (9, .iconst 1, 0, 0, 0, []), (10, .goto 4, 14, 0, 0, []), (13, .iconst 0, 0, 0, 0, []), (14, .ireturn, 0, 0, 0, [])], 0, 0)
set_option maxRecDepth 20000 in
/-- 11: S_isSound -/
def zm_S_isSound : zM := (⟨"Siegelines", "isSound", "()Z"⟩, prog_1_method_36_code, 1, some (.boolean), [], [(0, .aload_n 0, 0, 0, 0, []), (1, .getfield 10, 0, 0, 0, [1002]), (4, .invokevirtual 421, 140, 0, 1, [567, 568, 569]), (7, .ireturn, 0, 0, 0, [])], 4, 85)
set_option maxRecDepth 20000 in
/-- 12: S_lay -/
def zm_S_lay : zM := (⟨"Siegelines", "lay", "(III)I"⟩, prog_1_method_2_code, 4, some (.int), [], [(0, .iload_n 1, 0, 0, 0, []), (1, .iconst 5, 0, 0, 0, []), (2, .if_icmp .lt 30, 32, 0, 0, []), (5, .iload_n 1, 0, 0, 0, []), (6, .bipush 12, 0, 0, 0, []), (8, .if_icmp .gt 24, 32, 0, 0, []), (11, .iload_n 2, 0, 0, 0, []), (12, .iconst 5, 0, 0, 0, []), (13, .if_icmp .lt 19, 32, 0, 0, []), (16, .iload_n 2, 0, 0, 0, []), (17, .bipush 12, 0, 0, 0, []), (19, .if_icmp .gt 13, 32, 0, 0, []), (22, .iload_n 3, 0, 0, 0, []), (23, .ifCond .lt 9, 32, 0, 0, []), (26, .iload_n 3, 0, 0, 0, []), (27, .bipush 100, 0, 0, 0, []), (29, .if_icmp .le 13, 42, 0, 0, []), (32, .new 19, 0, 21, 1, [1013]), (42, .aload_n 0, 0, 0, 0, []), (43, .getfield 10, 0, 0, 0, [1002]), (46, .getfield 26, 1, 11, 0, [953]), (49, .ifCond .eq 13, 62, 0, 0, []), (52, .new 30, 86, 32, 1, [1014]), (62, .aload_n 0, 0, 0, 0, []), (63, .getfield 10, 0, 0, 0, [1002]), (66, .invokevirtual 35, 157, 0, 1, [1015, 1016, 1017]), (69, .aload_n 0, 0, 0, 0, []), (70, .getfield 10, 0, 0, 0, [1002]), (73, .getfield 38, 1, 0, 0, [917]), (76, .iload_n 1, 0, 0, 0, []), (77, .iload_n 2, 0, 0, 0, []), (78, .iload_n 3, 0, 0, 0, []), (79, .invokevirtual 42, 70, 3, 2, [1035, 1036, 1037]), (82, .aload_n 0, 0, 0, 0, []), (83, .getfield 10, 0, 0, 0, [1002]), (86, .getfield 38, 1, 0, 0, [917]), (89, .iconst 1, 0, 0, 0, []), (90, .invokevirtual 48, 61, 1, 2, [494, 416, 417]), (93, .ireturn, 0, 0, 0, [])], 6, 114)
set_option maxRecDepth 20000 in
/-- 13: S_letter -/
def zm_S_letter : zM := (⟨"Siegelines", "letter", "()I"⟩, prog_1_method_18_code, 1, some (.int), [], [(0, .aload_n 0, 0, 0, 0, []), (1, .getfield 10, 0, 0, 0, [1002]), (4, .getfield 26, 1, 11, 0, [953]), (7, .iconst 1, 0, 0, 0, []), (8, .if_icmp .ne 28, 36, 0, 0, []), (11, .aload_n 0, 0, 0, 0, []), (12, .getfield 10, 0, 0, 0, [1002]), (15, .invokevirtual 287, 143, 0, 1, [1457, 160, 161]), (18, .ifCond .eq 18, 36, 0, 0, []), (21, .aload_n 0, 0, 0, 0, []), (22, .getfield 10, 0, 0, 0, [1002]), (25, .getfield 290, 1, 6, 0, [944]), (28, .getfield 294, 7, 2, 0, [757]), (31, .bipush 6, 0, 0, 0, []), (33, .if_icmp .lt 14, 47, 0, 0, []), (36, .new 30, 86, 299, 1, [1458]), (47, .aload_n 0, 0, 0, 0, []), (48, .getfield 10, 0, 0, 0, [1002]), (51, .getfield 290, 1, 6, 0, [944]), (54, .dup, 0, 0, 0, []), (55, .getfield 294, 7, 2, 0, [757]), (58, .iconst 1, 0, 0, 0, []), (59, .iadd, 0, 0, 0, []), (60, .putfield 294, 7, 2, 0, [757]), (63, .aload_n 0, 0, 0, 0, []), (64, .getfield 10, 0, 0, 0, [1002]), (67, .getfield 290, 1, 6, 0, [944]), (70, .getfield 294, 7, 2, 0, [757]), (73, .ireturn, 0, 0, 0, [])], 6, 82)
set_option maxRecDepth 20000 in
/-- 14: S_mine -/
def zm_S_mine : zM := (⟨"Siegelines", "mine", "(II)I"⟩, prog_1_method_15_code, 4, some (.int), [], [(0, .aload_n 0, 0, 0, 0, []), (1, .getfield 10, 0, 0, 0, [1002]), (4, .iload_n 1, 0, 0, 0, []), (5, .invokevirtual 173, 131, 1, 1, [1331, 1332, 1333]), (8, .astore_n 3, 0, 0, 0, []), (9, .aload_n 3, 0, 0, 0, []), (10, .ifnonnull 13, 23, 0, 0, []), (13, .new 56, 43, 134, 1, [1335]), (23, .iload_n 2, 0, 0, 0, []), (24, .ifCond .lt 8, 32, 0, 0, []), (27, .iload_n 2, 0, 0, 0, []), (28, .iconst 3, 0, 0, 0, []), (29, .if_icmp .le 13, 42, 0, 0, []), (32, .new 19, 0, 242, 1, [1396]), (42, .aload_n 0, 0, 0, 0, []), (43, .getfield 10, 0, 0, 0, [1002]), (46, .getfield 26, 1, 11, 0, [953]), (49, .iconst 1, 0, 0, 0, []), (50, .if_icmp .ne 46, 96, 0, 0, []), (53, .aload_n 3, 0, 0, 0, []), (54, .getfield 186, 4, 2, 0, [847]), (57, .ifCond .eq 39, 96, 0, 0, []), (60, .aload_n 0, 0, 0, 0, []), (61, .getfield 10, 0, 0, 0, [1002]), (64, .getfield 244, 1, 9, 0, [950]), (67, .bipush 6, 0, 0, 0, []), (69, .if_icmp .ge 27, 96, 0, 0, []), (72, .aload_n 3, 0, 0, 0, []), (73, .getfield 179, 4, 0, 0, [835]), (76, .aload_n 0, 0, 0, 0, []), (77, .getfield 10, 0, 0, 0, [1002]), (80, .getfield 38, 1, 0, 0, [917]), (83, .aload_n 3, 0, 0, 0, []), (84, .getfield 247, 4, 1, 0, [841]), (87, .invokevirtual 85, 81, 1, 2, [512, 220, 221]), (90, .invokestatic 248, 113, 2, 0, [1397, 1398]), (93, .ifCond .ne 13, 106, 0, 0, []), (96, .new 30, 86, 253, 1, [1400]), (106, .aload_n 0, 0, 0, 0, []), (107, .getfield 10, 0, 0, 0, [1002]), (110, .aload_n 3, 0, 0, 0, []), (111, .getfield 179, 4, 0, 0, [835]), (114, .aload_n 3, 0, 0, 0, []), (115, .getfield 247, 4, 1, 0, [841]), (118, .iload_n 2, 0, 0, 0, []), (119, .invokevirtual 255, 129, 3, 1, [1401, 1402, 1403]), (122, .ireturn, 0, 0, 0, [])], 6, 82)
set_option maxRecDepth 20000 in
/-- 15: S_mineFact -/
def zm_S_mineFact : zM := (⟨"Siegelines", "mineFact", "(LSiegelines$Mine;I)I"⟩, prog_1_method_42_code, 3, some (.int), [], [(0, .iload_n 2, 0, 0, 0, []), (1, .tableswitch 87 0 7 #[47, 52, 57, 62, 67, 72, 77, 82], 0, 88, 47, [48, 53, 58, 63, 68, 73, 78, 83]), (48, .aload_n 1, 0, 0, 0, []), (49, .getfield 272, 5, 1, 0, [882]), (52, .ireturn, 0, 0, 0, []), (53, .aload_n 1, 0, 0, 0, []), (54, .invokevirtual 497, 106, 0, 5, [557, 371, 372]), (57, .ireturn, 0, 0, 0, []), (58, .aload_n 1, 0, 0, 0, []), (59, .invokevirtual 500, 103, 0, 5, [558, 376, 377]), (62, .ireturn, 0, 0, 0, []), (63, .aload_n 1, 0, 0, 0, []), (64, .getfield 503, 5, 3, 0, [889]), (67, .ireturn, 0, 0, 0, []), (68, .aload_n 1, 0, 0, 0, []), (69, .getfield 275, 5, 4, 0, [891]), (72, .ireturn, 0, 0, 0, []), (73, .aload_n 1, 0, 0, 0, []), (74, .getfield 506, 5, 5, 0, [895]), (77, .ireturn, 0, 0, 0, []), (78, .aload_n 1, 0, 0, 0, []), (79, .getfield 509, 5, 6, 0, [898]), (82, .ireturn, 0, 0, 0, []), (83, .aload_n 1, 0, 0, 0, []), (84, .getfield 510, 5, 2, 0, [886]), (87, .ireturn, 0, 0, 0, []), (88, .aload_n 0, 0, 0, 0, []), (89, .getfield 10, 0, 0, 0, [1002]), (92, .aload_n 1, 0, 0, 0, []), (93, .invokestatic 513, 112, 2, 0, [559, 560]), (96, .ifCond .eq 7, 103, 0, 0, []), (99, .iconst 1, 0, 0, 0, []), (100, .goto 4, 104, 0, 0, []), (103, .iconst 0, 0, 0, 0, []), (104, .ireturn, 0, 0, 0, [])], 3, 72)
set_option maxRecDepth 20000 in
/-- 16: S_muster -/
def zm_S_muster : zM := (⟨"Siegelines", "muster", "(I)I"⟩, prog_1_method_9_code, 2, some (.int), [], [(0, .iload_n 1, 0, 0, 0, []), (1, .ifCond .lt 9, 10, 0, 0, []), (4, .iload_n 1, 0, 0, 0, []), (5, .bipush 99, 0, 0, 0, []), (7, .if_icmp .le 13, 20, 0, 0, []), (10, .new 19, 0, 141, 1, [1063]), (20, .aload_n 0, 0, 0, 0, []), (21, .getfield 10, 0, 0, 0, [1002]), (24, .getfield 26, 1, 11, 0, [953]), (27, .ifCond .ne 36, 63, 0, 0, []), (30, .aload_n 0, 0, 0, 0, []), (31, .getfield 10, 0, 0, 0, [1002]), (34, .getfield 38, 1, 0, 0, [917]), (37, .getfield 143, 2, 11, 0, [638]), (40, .ifCond .eq 23, 63, 0, 0, []), (43, .aload_n 0, 0, 0, 0, []), (44, .getfield 10, 0, 0, 0, [1002]), (47, .getfield 93, 1, 8, 0, [948]), (50, .ifCond .gt 13, 63, 0, 0, []), (53, .aload_n 0, 0, 0, 0, []), (54, .getfield 10, 0, 0, 0, [1002]), (57, .getfield 90, 1, 7, 0, [946]), (60, .ifCond .le 13, 73, 0, 0, []), (63, .new 30, 86, 146, 1, [1064]), (73, .aload_n 0, 0, 0, 0, []), (74, .getfield 10, 0, 0, 0, [1002]), (77, .iload_n 1, 0, 0, 0, []), (78, .invokevirtual 148, 149, 1, 1, [1065, 1066, 1067]), (81, .aload_n 0, 0, 0, 0, []), (82, .getfield 10, 0, 0, 0, [1002]), (85, .iconst 0, 0, 0, 0, []), (86, .invokevirtual 152, 147, 1, 1, [454, 400, 401]), (89, .aload_n 0, 0, 0, 0, []), (90, .getfield 10, 0, 0, 0, [1002]), (93, .iconst 1, 0, 0, 0, []), (94, .invokevirtual 152, 147, 1, 1, [454, 400, 401]), (97, .isub, 0, 0, 0, []), (98, .ireturn, 0, 0, 0, [])], 6, 82)
set_option maxRecDepth 20000 in
/-- 17: S_nextDrawn -/
def zm_S_nextDrawn : zM := (⟨"Siegelines", "nextDrawn", "(I)I"⟩, prog_1_method_49_code, 1, some (.int), [], [(0, .bipush 31, 0, 0, 0, []), (2, .iload_n 0, 0, 0, 0, []), (3, .imul, 0, 0, 0, []), (4, .bipush 17, 0, 0, 0, []), (6, .iadd, 0, 0, 0, []), (7, .bipush 97, 0, 0, 0, []), (9, .irem, 0, 0, 0, []), (10, .ireturn, 0, 0, 0, [])], 0, 0)
set_option maxRecDepth 20000 in
/-- 18: S_ofCompany -/
def zm_S_ofCompany : zM := (⟨"Siegelines", "ofCompany", "(II)I"⟩, prog_1_method_26_code, 4, some (.int), [], [(0, .aload_n 0, 0, 0, 0, []), (1, .getfield 10, 0, 0, 0, [1002]), (4, .iload_n 1, 0, 0, 0, []), (5, .invokevirtual 173, 131, 1, 1, [1331, 1332, 1333]), (8, .astore_n 3, 0, 0, 0, []), (9, .aload_n 3, 0, 0, 0, []), (10, .ifnonnull 13, 23, 0, 0, []), (13, .new 56, 43, 134, 1, [1335]), (23, .iload_n 2, 0, 0, 0, []), (24, .ifCond .lt 9, 33, 0, 0, []), (27, .iload_n 2, 0, 0, 0, []), (28, .bipush 6, 0, 0, 0, []), (30, .if_icmp .le 14, 44, 0, 0, []), (33, .new 19, 0, 322, 1, [465]), (44, .aload_n 0, 0, 0, 0, []), (45, .aload_n 3, 0, 0, 0, []), (46, .iload_n 2, 0, 0, 0, []), (47, .invokevirtual 350, 5, 2, 0, [545, 547, 10]), (50, .ireturn, 0, 0, 0, [])], 6, 82)
set_option maxRecDepth 20000 in
/-- 19: S_ofGun -/
def zm_S_ofGun : zM := (⟨"Siegelines", "ofGun", "(II)I"⟩, prog_1_method_25_code, 4, some (.int), [], [(0, .aload_n 0, 0, 0, 0, []), (1, .getfield 10, 0, 0, 0, [1002]), (4, .iload_n 1, 0, 0, 0, []), (5, .invokevirtual 197, 137, 1, 1, [1350, 1351, 1352]), (8, .astore_n 3, 0, 0, 0, []), (9, .aload_n 3, 0, 0, 0, []), (10, .ifnonnull 13, 23, 0, 0, []), (13, .new 56, 43, 126, 1, [1354]), (23, .iload_n 2, 0, 0, 0, []), (24, .ifCond .lt 9, 33, 0, 0, []), (27, .iload_n 2, 0, 0, 0, []), (28, .bipush 7, 0, 0, 0, []), (30, .if_icmp .le 14, 44, 0, 0, []), (33, .new 19, 0, 322, 1, [465]), (44, .aload_n 0, 0, 0, 0, []), (45, .aload_n 3, 0, 0, 0, []), (46, .iload_n 2, 0, 0, 0, []), (47, .invokevirtual 346, 7, 2, 0, [534, 536, 9]), (50, .ireturn, 0, 0, 0, [])], 6, 142)
set_option maxRecDepth 20000 in
/-- 20: S_ofMine -/
def zm_S_ofMine : zM := (⟨"Siegelines", "ofMine", "(II)I"⟩, prog_1_method_27_code, 4, some (.int), [], [(0, .aload_n 0, 0, 0, 0, []), (1, .getfield 10, 0, 0, 0, [1002]), (4, .iload_n 1, 0, 0, 0, []), (5, .invokevirtual 258, 148, 1, 1, [1413, 1414, 1415]), (8, .astore_n 3, 0, 0, 0, []), (9, .aload_n 3, 0, 0, 0, []), (10, .ifnonnull 14, 24, 0, 0, []), (13, .new 56, 43, 262, 1, [1417]), (24, .iload_n 2, 0, 0, 0, []), (25, .ifCond .lt 9, 34, 0, 0, []), (28, .iload_n 2, 0, 0, 0, []), (29, .bipush 8, 0, 0, 0, []), (31, .if_icmp .le 14, 45, 0, 0, []), (34, .new 19, 0, 322, 1, [465]), (45, .aload_n 0, 0, 0, 0, []), (46, .aload_n 3, 0, 0, 0, []), (47, .iload_n 2, 0, 0, 0, []), (48, .invokevirtual 354, 15, 2, 0, [553, 555, 11]), (51, .ireturn, 0, 0, 0, [])], 6, 94)
set_option maxRecDepth 20000 in
/-- 21: S_ofSide -/
def zm_S_ofSide : zM := (⟨"Siegelines", "ofSide", "(II)I"⟩, prog_1_method_28_code, 3, some (.int), [], [(0, .iload_n 1, 0, 0, 0, []), (1, .invokestatic 100, 10, 1, 0, [444, 445]), (4, .ifCond .eq 13, 17, 0, 0, []), (7, .iload_n 2, 0, 0, 0, []), (8, .ifCond .lt 9, 17, 0, 0, []), (11, .iload_n 2, 0, 0, 0, []), (12, .bipush 12, 0, 0, 0, []), (14, .if_icmp .le 14, 28, 0, 0, []), (17, .new 19, 0, 335, 1, [447]), (28, .aload_n 0, 0, 0, 0, []), (29, .iload_n 1, 0, 0, 0, []), (30, .iload_n 2, 0, 0, 0, []), (31, .invokevirtual 358, 28, 2, 0, [448, 450, 4]), (34, .ireturn, 0, 0, 0, [])], 6, 82)
set_option maxRecDepth 20000 in
/-- 22: S_ofSiege -/
def zm_S_ofSiege : zM := (⟨"Siegelines", "ofSiege", "(I)I"⟩, prog_1_method_29_code, 2, some (.int), [], [(0, .iload_n 1, 0, 0, 0, []), (1, .ifCond .lt 9, 10, 0, 0, []), (4, .iload_n 1, 0, 0, 0, []), (5, .bipush 12, 0, 0, 0, []), (7, .if_icmp .le 14, 21, 0, 0, []), (10, .new 19, 0, 322, 1, [465]), (21, .aload_n 0, 0, 0, 0, []), (22, .iload_n 1, 0, 0, 0, []), (23, .invokevirtual 361, 29, 1, 0, [466, 468, 5]), (26, .ireturn, 0, 0, 0, [])], 6, 134)
set_option maxRecDepth 20000 in
/-- 23: S_ofSquare -/
def zm_S_ofSquare : zM := (⟨"Siegelines", "ofSquare", "(II)I"⟩, prog_1_method_22_code, 3, some (.int), [], [(0, .aload_n 0, 0, 0, 0, []), (1, .getfield 10, 0, 0, 0, [1002]), (4, .getfield 38, 1, 0, 0, [917]), (7, .iload_n 1, 0, 0, 0, []), (8, .invokevirtual 52, 67, 1, 2, [1342, 168, 169]), (11, .ifCond .ne 13, 24, 0, 0, []), (14, .new 56, 43, 58, 1, [1466]), (24, .iload_n 2, 0, 0, 0, []), (25, .ifCond .lt 9, 34, 0, 0, []), (28, .iload_n 2, 0, 0, 0, []), (29, .bipush 9, 0, 0, 0, []), (31, .if_icmp .le 14, 45, 0, 0, []), (34, .new 19, 0, 322, 1, [465]), (45, .aload_n 0, 0, 0, 0, []), (46, .iload_n 1, 0, 0, 0, []), (47, .iload_n 2, 0, 0, 0, []), (48, .invokevirtual 324, 30, 2, 0, [503, 505, 8]), (51, .ireturn, 0, 0, 0, [])], 6, 82)
set_option maxRecDepth 20000 in
/-- 24: S_order -/
def zm_S_order : zM := (⟨"Siegelines", "order", "(III)I"⟩, prog_1_method_11_code, 7, some (.int), [], [(0, .aload_n 0, 0, 0, 0, []), (1, .getfield 10, 0, 0, 0, [1002]), (4, .iload_n 1, 0, 0, 0, []), (5, .invokevirtual 173, 131, 1, 1, [1331, 1332, 1333]), (8, .astore 4, 0, 0, 0, []), (10, .iload_n 2, 0, 0, 0, []), (11, .iconst 1, 0, 0, 0, []), (12, .if_icmp .eq 19, 31, 0, 0, []), (15, .iload_n 2, 0, 0, 0, []), (16, .iconst 4, 0, 0, 0, []), (17, .if_icmp .eq 14, 31, 0, 0, []), (20, .iload_n 2, 0, 0, 0, []), (21, .iconst 5, 0, 0, 0, []), (22, .if_icmp .eq 9, 31, 0, 0, []), (25, .iload_n 2, 0, 0, 0, []), (26, .bipush 6, 0, 0, 0, []), (28, .if_icmp .ne 7, 35, 0, 0, []), (31, .iconst 1, 0, 0, 0, []), (32, .goto 4, 36, 0, 0, []), (35, .iconst 0, 0, 0, 0, []), (36, .istore 5, 0, 0, 0, []), (38, .aload 4, 0, 0, 0, []), (40, .ifnull 22, 62, 0, 0, []), (43, .iload 5, 0, 0, 0, []), (45, .ifCond .eq 27, 72, 0, 0, []), (48, .aload_n 0, 0, 0, 0, []), (49, .getfield 10, 0, 0, 0, [1002]), (52, .getfield 38, 1, 0, 0, [917]), (55, .iload_n 3, 0, 0, 0, []), (56, .invokevirtual 52, 67, 1, 2, [1342, 168, 169]), (59, .ifCond .ne 13, 72, 0, 0, []), (62, .new 56, 43, 177, 1, [1343]), (72, .iload_n 2, 0, 0, 0, []), (73, .ifCond .lt 37, 110, 0, 0, []), (76, .iload_n 2, 0, 0, 0, []), (77, .bipush 6, 0, 0, 0, []), (79, .if_icmp .gt 31, 110, 0, 0, []), (82, .iload_n 2, 0, 0, 0, []), (83, .iconst 1, 0, 0, 0, []), (84, .if_icmp .ne 12, 96, 0, 0, []), (87, .aload 4, 0, 0, 0, []), (89, .getfield 179, 4, 0, 0, [835]), (92, .iconst 1, 0, 0, 0, []), (93, .if_icmp .eq 17, 110, 0, 0, []), (96, .iload_n 2, 0, 0, 0, []), (97, .bipush 6, 0, 0, 0, []), (99, .if_icmp .ne 21, 120, 0, 0, []), (102, .aload 4, 0, 0, 0, []), (104, .getfield 179, 4, 0, 0, [835]), (107, .ifCond .ne 13, 120, 0, 0, []), (110, .new 19, 0, 184, 1, [1344]), (120, .aload_n 0, 0, 0, 0, []), (121, .getfield 10, 0, 0, 0, [1002]), (124, .getfield 26, 1, 11, 0, [953]), (127, .iconst 1, 0, 0, 0, []), (128, .if_icmp .ne 11, 139, 0, 0, []), (131, .aload 4, 0, 0, 0, []), (133, .getfield 186, 4, 2, 0, [847]), (136, .ifCond .ne 13, 149, 0, 0, []), (139, .new 30, 86, 189, 1, [1345]), (149, .aload 4, 0, 0, 0, []), (151, .getfield 191, 4, 4, 0, [856]), (154, .istore 6, 0, 0, 0, []), (156, .aload 4, 0, 0, 0, []), (158, .iload_n 2, 0, 0, 0, []), (159, .putfield 191, 4, 4, 0, [856]), (162, .aload 4, 0, 0, 0, []), (164, .iload 5, 0, 0, 0, []), (166, .ifCond .eq 7, 173, 0, 0, []), (169, .iload_n 3, 0, 0, 0, []), (170, .goto 4, 174, 0, 0, []), (173, .iconst (-1), 0, 0, 0, []), (174, .putfield 194, 4, 5, 0, [859]), (177, .iload 6, 0, 0, 0, []), (179, .ireturn, 0, 0, 0, [])], 6, 82)
set_option maxRecDepth 20000 in
/-- 25: S_pass -/
def zm_S_pass : zM := (⟨"Siegelines", "pass", "(I)I"⟩, prog_1_method_21_code, 3, some (.int), [], [(0, .iload_n 1, 0, 0, 0, []), (1, .iconst 1, 0, 0, 0, []), (2, .if_icmp .lt 9, 11, 0, 0, []), (5, .iload_n 1, 0, 0, 0, []), (6, .bipush 48, 0, 0, 0, []), (8, .if_icmp .le 14, 22, 0, 0, []), (11, .new 19, 0, 312, 1, [95]), (22, .aload_n 0, 0, 0, 0, []), (23, .getfield 10, 0, 0, 0, [1002]), (26, .getfield 26, 1, 11, 0, [953]), (29, .iconst 1, 0, 0, 0, []), (30, .if_icmp .ne 18, 48, 0, 0, []), (33, .aload_n 0, 0, 0, 0, []), (34, .getfield 10, 0, 0, 0, [1002]), (37, .getfield 314, 1, 10, 0, [952]), (40, .iload_n 1, 0, 0, 0, []), (41, .iadd, 0, 0, 0, []), (42, .sipush 2400, 0, 0, 0, []), (45, .if_icmp .le 14, 59, 0, 0, []), (48, .new 30, 86, 317, 1, [131]), (59, .iconst 0, 0, 0, 0, []), (60, .istore_n 2, 0, 0, 0, []), (61, .iload_n 2, 0, 0, 0, []), (62, .iload_n 1, 0, 0, 0, []), (63, .if_icmp .ge 27, 90, 0, 0, []), (66, .aload_n 0, 0, 0, 0, []), (67, .getfield 10, 0, 0, 0, [1002]), (70, .getfield 26, 1, 11, 0, [953]), (73, .iconst 1, 0, 0, 0, []), (74, .if_icmp .ne 16, 90, 0, 0, []), (77, .aload_n 0, 0, 0, 0, []), (78, .getfield 10, 0, 0, 0, [1002]), (81, .invokevirtual 319, 145, 0, 1, [138, 139, 140]), (84, .iinc 2 1, 0, 0, 0, []), (87, .goto (-26), 61, 0, 0, []), (90, .aload_n 0, 0, 0, 0, []), (91, .getfield 10, 0, 0, 0, [1002]), (94, .getfield 314, 1, 10, 0, [952]), (97, .ireturn, 0, 0, 0, [])], 7, 178)
set_option maxRecDepth 20000 in
/-- 26: S_right -/
def zm_S_right : zM := (⟨"Siegelines", "right", "(I)I"⟩, prog_1_method_14_code, 4, some (.int), [], [(0, .aload_n 0, 0, 0, 0, []), (1, .getfield 10, 0, 0, 0, [1002]), (4, .iload_n 1, 0, 0, 0, []), (5, .invokevirtual 197, 137, 1, 1, [1350, 1351, 1352]), (8, .astore_n 2, 0, 0, 0, []), (9, .aload_n 2, 0, 0, 0, []), (10, .ifnonnull 13, 23, 0, 0, []), (13, .new 56, 43, 126, 1, [1354]), (23, .aload_n 0, 0, 0, 0, []), (24, .getfield 10, 0, 0, 0, [1002]), (27, .getfield 26, 1, 11, 0, [953]), (30, .iconst 1, 0, 0, 0, []), (31, .if_icmp .ne 10, 41, 0, 0, []), (34, .aload_n 2, 0, 0, 0, []), (35, .getfield 229, 3, 5, 0, [806]), (38, .ifCond .ne 13, 51, 0, 0, []), (41, .new 30, 86, 232, 1, [1390]), (51, .aload_n 0, 0, 0, 0, []), (52, .getfield 10, 0, 0, 0, [1002]), (55, .aload_n 2, 0, 0, 0, []), (56, .getfield 219, 3, 0, 0, [790]), (59, .aload_n 2, 0, 0, 0, []), (60, .getfield 210, 3, 1, 0, [794]), (63, .invokevirtual 220, 136, 2, 1, [1381, 1382, 1383]), (66, .astore_n 3, 0, 0, 0, []), (67, .aload_n 3, 0, 0, 0, []), (68, .ifnonnull 13, 81, 0, 0, []), (71, .new 30, 86, 234, 1, [1391]), (81, .aload_n 3, 0, 0, 0, []), (82, .dup, 0, 0, 0, []), (83, .getfield 226, 4, 3, 0, [851]), (86, .iconst 4, 0, 0, 0, []), (87, .iadd, 0, 0, 0, []), (88, .putfield 226, 4, 3, 0, [851]), (91, .aload_n 2, 0, 0, 0, []), (92, .iconst 0, 0, 0, 0, []), (93, .putfield 229, 3, 5, 0, [806]), (96, .aload_n 2, 0, 0, 0, []), (97, .iconst 0, 0, 0, 0, []), (98, .putfield 236, 3, 4, 0, [802]), (101, .aload_n 2, 0, 0, 0, []), (102, .iconst 0, 0, 0, 0, []), (103, .putfield 239, 3, 3, 0, [800]), (106, .aload_n 3, 0, 0, 0, []), (107, .getfield 226, 4, 3, 0, [851]), (110, .ireturn, 0, 0, 0, [])], 6, 82)
set_option maxRecDepth 20000 in
/-- 27: S_sees -/
def zm_S_sees : zM := (⟨"Siegelines", "sees", "(II)Z"⟩, prog_1_method_23_code, 3, some (.boolean), [], [(0, .aload_n 0, 0, 0, 0, []), (1, .getfield 10, 0, 0, 0, [1002]), (4, .getfield 38, 1, 0, 0, [917]), (7, .iload_n 1, 0, 0, 0, []), (8, .invokevirtual 52, 67, 1, 2, [1342, 168, 169]), (11, .ifCond .eq 17, 28, 0, 0, []), (14, .aload_n 0, 0, 0, 0, []), (15, .getfield 10, 0, 0, 0, [1002]), (18, .getfield 38, 1, 0, 0, [917]), (21, .iload_n 2, 0, 0, 0, []), (22, .invokevirtual 52, 67, 1, 2, [1342, 168, 169]), (25, .ifCond .ne 13, 38, 0, 0, []), (28, .new 56, 43, 58, 1, [1466]), (38, .aload_n 0, 0, 0, 0, []), (39, .getfield 10, 0, 0, 0, [1002]), (42, .getfield 38, 1, 0, 0, [917]), (45, .iload_n 1, 0, 0, 0, []), (46, .iload_n 2, 0, 0, 0, []), (47, .aload_n 0, 0, 0, 0, []), (48, .getfield 10, 0, 0, 0, [1002]), (51, .invokevirtual 327, 154, 0, 1, [1477, 156, 157]), (54, .invokevirtual 331, 69, 3, 2, [1478, 164, 165]), (57, .ireturn, 0, 0, 0, [])], 6, 82)
set_option maxRecDepth 20000 in
/-- 28: S_sideFact -/
def zm_S_sideFact : zM := (⟨"Siegelines", "sideFact", "(II)I"⟩, prog_1_method_43_code, 4, some (.int), [], [(0, .aload_n 0, 0, 0, 0, []), (1, .getfield 10, 0, 0, 0, [1002]), (4, .iload_n 1, 0, 0, 0, []), (5, .invokevirtual 105, 150, 1, 1, [453, 197, 198]), (8, .astore_n 3, 0, 0, 0, []), (9, .iload_n 2, 0, 0, 0, []), (10, .tableswitch 130 0 11 #[62, 67, 72, 77, 82, 87, 96, 105, 110, 115, 120, 125], 0, 140, 62, [72, 77, 82, 87, 92, 97, 106, 115, 120, 125, 130, 135]), (72, .aload_n 3, 0, 0, 0, []), (73, .getfield 164, 6, 0, 0, [695]), (76, .ireturn, 0, 0, 0, []), (77, .aload_n 3, 0, 0, 0, []), (78, .getfield 517, 6, 1, 0, [700]), (81, .ireturn, 0, 0, 0, []), (82, .aload_n 3, 0, 0, 0, []), (83, .getfield 520, 6, 2, 0, [704]), (86, .ireturn, 0, 0, 0, []), (87, .aload_n 3, 0, 0, 0, []), (88, .getfield 523, 6, 3, 0, [708]), (91, .ireturn, 0, 0, 0, []), (92, .aload_n 3, 0, 0, 0, []), (93, .getfield 526, 6, 4, 0, [710]), (96, .ireturn, 0, 0, 0, []), (97, .aload_n 0, 0, 0, 0, []), (98, .getfield 10, 0, 0, 0, [1002]), (101, .iload_n 1, 0, 0, 0, []), (102, .invokevirtual 152, 147, 1, 1, [454, 400, 401]), (105, .ireturn, 0, 0, 0, []), (106, .aload_n 0, 0, 0, 0, []), (107, .getfield 10, 0, 0, 0, [1002]), (110, .iload_n 1, 0, 0, 0, []), (111, .invokevirtual 155, 130, 1, 1, [455, 253, 254]), (114, .ireturn, 0, 0, 0, []), (115, .aload_n 3, 0, 0, 0, []), (116, .getfield 529, 6, 5, 0, [712]), (119, .ireturn, 0, 0, 0, []), (120, .aload_n 3, 0, 0, 0, []), (121, .getfield 532, 6, 6, 0, [716]), (124, .ireturn, 0, 0, 0, []), (125, .aload_n 3, 0, 0, 0, []), (126, .getfield 535, 6, 7, 0, [718]), (129, .ireturn, 0, 0, 0, []), (130, .aload_n 3, 0, 0, 0, []), (131, .getfield 538, 6, 8, 0, [720]), (134, .ireturn, 0, 0, 0, []), (135, .aload_n 3, 0, 0, 0, []), (136, .getfield 541, 6, 9, 0, [722]), (139, .ireturn, 0, 0, 0, []), (140, .aload_n 0, 0, 0, 0, []), (141, .getfield 10, 0, 0, 0, [1002]), (144, .iload_n 1, 0, 0, 0, []), (145, .invokevirtual 544, 153, 1, 1, [456, 457, 458]), (148, .ireturn, 0, 0, 0, [])], 2, 47)
set_option maxRecDepth 20000 in
/-- 29: S_siegeFact -/
def zm_S_siegeFact : zM := (⟨"Siegelines", "siegeFact", "(I)I"⟩, prog_1_method_44_code, 2, some (.int), [], [(0, .iload_n 1, 0, 0, 0, []), (1, .tableswitch 185 0 11 #[63, 71, 79, 87, 95, 103, 111, 119, 130, 141, 160, 173], 0, 186, 63, [64, 72, 80, 88, 96, 104, 112, 120, 131, 142, 161, 174]), (64, .aload_n 0, 0, 0, 0, []), (65, .getfield 10, 0, 0, 0, [1002]), (68, .getfield 314, 1, 10, 0, [952]), (71, .ireturn, 0, 0, 0, []), (72, .aload_n 0, 0, 0, 0, []), (73, .getfield 10, 0, 0, 0, [1002]), (76, .getfield 26, 1, 11, 0, [953]), (79, .ireturn, 0, 0, 0, []), (80, .aload_n 0, 0, 0, 0, []), (81, .getfield 10, 0, 0, 0, [1002]), (84, .getfield 460, 1, 12, 0, [956]), (87, .ireturn, 0, 0, 0, []), (88, .aload_n 0, 0, 0, 0, []), (89, .getfield 10, 0, 0, 0, [1002]), (92, .invokevirtual 547, 133, 0, 1, [470, 471, 472]), (95, .ireturn, 0, 0, 0, []), (96, .aload_n 0, 0, 0, 0, []), (97, .getfield 10, 0, 0, 0, [1002]), (100, .getfield 463, 1, 13, 0, [958]), (103, .ireturn, 0, 0, 0, []), (104, .aload_n 0, 0, 0, 0, []), (105, .getfield 10, 0, 0, 0, [1002]), (108, .getfield 301, 1, 14, 0, [961]), (111, .ireturn, 0, 0, 0, []), (112, .aload_n 0, 0, 0, 0, []), (113, .getfield 10, 0, 0, 0, [1002]), (116, .getfield 550, 1, 16, 0, [966]), (119, .ireturn, 0, 0, 0, []), (120, .aload_n 0, 0, 0, 0, []), (121, .getfield 10, 0, 0, 0, [1002]), (124, .getfield 290, 1, 6, 0, [944]), (127, .getfield 553, 7, 3, 0, [759]), (130, .ireturn, 0, 0, 0, []), (131, .aload_n 0, 0, 0, 0, []), (132, .getfield 10, 0, 0, 0, [1002]), (135, .getfield 290, 1, 6, 0, [944]), (138, .getfield 556, 7, 4, 0, [763]), (141, .ireturn, 0, 0, 0, []), (142, .aload_n 0, 0, 0, 0, []), (143, .getfield 10, 0, 0, 0, [1002]), (146, .getfield 290, 1, 6, 0, [944]), (149, .getfield 559, 7, 6, 0, [767]), (152, .ifCond .eq 7, 159, 0, 0, []), (155, .iconst 1, 0, 0, 0, []), (156, .goto 4, 160, 0, 0, []), (159, .iconst 0, 0, 0, 0, []), (160, .ireturn, 0, 0, 0, []), (161, .aload_n 0, 0, 0, 0, []), (162, .getfield 10, 0, 0, 0, [1002]), (165, .getfield 38, 1, 0, 0, [917]), (168, .bipush 6, 0, 0, 0, []), (170, .invokevirtual 48, 61, 1, 2, [494, 416, 417]), (173, .ireturn, 0, 0, 0, []), (174, .aload_n 0, 0, 0, 0, []), (175, .getfield 10, 0, 0, 0, [1002]), (178, .getfield 38, 1, 0, 0, [917]), (181, .iconst 5, 0, 0, 0, []), (182, .invokevirtual 48, 61, 1, 2, [494, 416, 417]), (185, .ireturn, 0, 0, 0, []), (186, .aload_n 0, 0, 0, 0, []), (187, .getfield 10, 0, 0, 0, [1002]), (190, .getfield 244, 1, 9, 0, [950]), (193, .ireturn, 0, 0, 0, [])], 5, 113)
set_option maxRecDepth 20000 in
/-- 30: S_squareFact -/
def zm_S_squareFact : zM := (⟨"Siegelines", "squareFact", "(II)I"⟩, prog_1_method_39_code, 4, some (.int), [], [(0, .aload_n 0, 0, 0, 0, []), (1, .getfield 10, 0, 0, 0, [1002]), (4, .getfield 38, 1, 0, 0, [917]), (7, .astore_n 3, 0, 0, 0, []), (8, .iload_n 2, 0, 0, 0, []), (9, .tableswitch 109 0 8 #[51, 57, 63, 69, 75, 81, 87, 93, 99], 0, 118, 51, [60, 66, 72, 78, 84, 90, 96, 102, 108]), (60, .aload_n 3, 0, 0, 0, []), (61, .iload_n 1, 0, 0, 0, []), (62, .invokevirtual 466, 65, 1, 2, [507, 508, 509]), (65, .ireturn, 0, 0, 0, []), (66, .aload_n 3, 0, 0, 0, []), (67, .iload_n 1, 0, 0, 0, []), (68, .invokevirtual 469, 76, 1, 2, [511, 381, 382]), (71, .ireturn, 0, 0, 0, []), (72, .aload_n 3, 0, 0, 0, []), (73, .iload_n 1, 0, 0, 0, []), (74, .invokevirtual 85, 81, 1, 2, [512, 220, 221]), (77, .ireturn, 0, 0, 0, []), (78, .aload_n 3, 0, 0, 0, []), (79, .iload_n 1, 0, 0, 0, []), (80, .invokevirtual 472, 64, 1, 2, [513, 514, 515]), (83, .ireturn, 0, 0, 0, []), (84, .aload_n 3, 0, 0, 0, []), (85, .iload_n 1, 0, 0, 0, []), (86, .invokevirtual 475, 77, 1, 2, [517, 518, 519]), (89, .ireturn, 0, 0, 0, []), (90, .aload_n 3, 0, 0, 0, []), (91, .iload_n 1, 0, 0, 0, []), (92, .invokevirtual 478, 78, 1, 2, [521, 178, 179]), (95, .ireturn, 0, 0, 0, []), (96, .aload_n 3, 0, 0, 0, []), (97, .iload_n 1, 0, 0, 0, []), (98, .invokevirtual 481, 59, 1, 2, [522, 523, 524]), (101, .ireturn, 0, 0, 0, []), (102, .aload_n 3, 0, 0, 0, []), (103, .iload_n 1, 0, 0, 0, []), (104, .invokevirtual 120, 58, 1, 2, [526, 300, 301]), (107, .ireturn, 0, 0, 0, []), (108, .aload_n 0, 0, 0, 0, []), (109, .getfield 10, 0, 0, 0, [1002]), (112, .iconst 0, 0, 0, 0, []), (113, .iload_n 1, 0, 0, 0, []), (114, .invokevirtual 484, 146, 2, 1, [527, 528, 529]), (117, .ireturn, 0, 0, 0, []), (118, .aload_n 0, 0, 0, 0, []), (119, .getfield 10, 0, 0, 0, [1002]), (122, .iconst 1, 0, 0, 0, []), (123, .iload_n 1, 0, 0, 0, []), (124, .invokevirtual 484, 146, 2, 1, [527, 528, 529]), (127, .ireturn, 0, 0, 0, [])], 2, 49)
set_option maxRecDepth 20000 in
/-- 31: S_target -/
def zm_S_target : zM := (⟨"Siegelines", "target", "(I)I"⟩, prog_1_method_34_code, 3, some (.int), [], [(0, .aload_n 0, 0, 0, 0, []), (1, .getfield 10, 0, 0, 0, [1002]), (4, .iload_n 1, 0, 0, 0, []), (5, .invokevirtual 197, 137, 1, 1, [1350, 1351, 1352]), (8, .astore_n 2, 0, 0, 0, []), (9, .aload_n 2, 0, 0, 0, []), (10, .ifnonnull 13, 23, 0, 0, []), (13, .new 56, 43, 126, 1, [1354]), (23, .aload_n 2, 0, 0, 0, []), (24, .getfield 229, 3, 5, 0, [806]), (27, .ifCond .ne 14, 41, 0, 0, []), (30, .aload_n 0, 0, 0, 0, []), (31, .getfield 10, 0, 0, 0, [1002]), (34, .aload_n 2, 0, 0, 0, []), (35, .invokestatic 408, 86, 2, 0, [1355, 1356]), (38, .goto 4, 42, 0, 0, []), (41, .iconst (-1), 0, 0, 0, []), (42, .ireturn, 0, 0, 0, [])], 6, 122)
set_option maxRecDepth 20000 in
/-- 32: Company_new -/
def zm_Company_new : zM := (⟨"Siegelines$Company", "<init>", "()V"⟩, prog_2_method_1_code, 1, none, [], [(0, .aload_n 0, 0, 0, 0, []), (1, .invokespecial 3, 0, 0, 1000, [830]), (4, .aload_n 0, 0, 0, 0, []), (5, .iconst (-1), 0, 0, 0, []), (6, .putfield 9, 4, 0, 0, [831]), (9, .aload_n 0, 0, 0, 0, []), (10, .iconst (-1), 0, 0, 0, []), (11, .putfield 15, 4, 1, 0, [837]), (14, .aload_n 0, 0, 0, 0, []), (15, .iconst 0, 0, 0, 0, []), (16, .putfield 18, 4, 4, 0, [853]), (19, .aload_n 0, 0, 0, 0, []), (20, .iconst (-1), 0, 0, 0, []), (21, .putfield 21, 4, 5, 0, [857]), (24, .return_, 0, 0, 0, [])], 1, 20)
set_option maxRecDepth 20000 in
/-- 33: Company_isAt -/
def zm_Company_isAt : zM := (⟨"Siegelines$Company", "isAt", "(II)Z"⟩, prog_2_method_5_code, 3, some (.boolean), [], [(0, .aload_n 0, 0, 0, 0, []), (1, .getfield 24, 4, 2, 0, [843]), (4, .ifCond .le 23, 27, 0, 0, []), (7, .aload_n 0, 0, 0, 0, []), (8, .getfield 9, 4, 0, 0, [831]), (11, .iload_n 1, 0, 0, 0, []), (12, .if_icmp .ne 15, 27, 0, 0, []), (15, .aload_n 0, 0, 0, 0, []), (16, .getfield 15, 4, 1, 0, [837]), (19, .iload_n 2, 0, 0, 0, []), (20, .if_icmp .ne 7, 27, 0, 0, []), (23, .iconst 1, 0, 0, 0, []), (24, .goto 4, 28, 0, 0, []), (27, .iconst 0, 0, 0, 0, []), (28, .ireturn, 0, 0, 0, [])], 0, 0)
set_option maxRecDepth 20000 in
/-- 34: Company_isOnGuard -/
def zm_Company_isOnGuard : zM := (⟨"Siegelines$Company", "isOnGuard", "()Z"⟩, prog_2_method_6_code, 1, some (.boolean), [], [(0, .aload_n 0, 0, 0, 0, []), (1, .getfield 24, 4, 2, 0, [843]), (4, .ifCond .le 24, 28, 0, 0, []), (7, .aload_n 0, 0, 0, 0, []), (8, .getfield 18, 4, 4, 0, [853]), (11, .iconst 2, 0, 0, 0, []), (12, .if_icmp .ne 16, 28, 0, 0, []), (15, .aload_n 0, 0, 0, 0, []), (16, .getfield 27, 4, 3, 0, [850]), (19, .bipush 10, 0, 0, 0, []), (21, .if_icmp .ge 7, 28, 0, 0, []), (24, .iconst 1, 0, 0, 0, []), (25, .goto 4, 29, 0, 0, []), (28, .iconst 0, 0, 0, 0, []), (29, .ireturn, 0, 0, 0, [])], 0, 0)
set_option maxRecDepth 20000 in
/-- 35: Company_isPlaced -/
def zm_Company_isPlaced : zM := (⟨"Siegelines$Company", "isPlaced", "()Z"⟩, prog_2_method_4_code, 1, some (.boolean), [], [(0, .aload_n 0, 0, 0, 0, []), (1, .getfield 9, 4, 0, 0, [831]), (4, .iconst (-1), 0, 0, 0, []), (5, .if_icmp .eq 7, 12, 0, 0, []), (8, .iconst 1, 0, 0, 0, []), (9, .goto 4, 13, 0, 0, []), (12, .iconst 0, 0, 0, 0, []), (13, .ireturn, 0, 0, 0, [])], 0, 0)
set_option maxRecDepth 20000 in
/-- 36: Company_place -/
def zm_Company_place : zM := (⟨"Siegelines$Company", "place", "(III)V"⟩, prog_2_method_2_code, 4, none, [], [(0, .aload_n 0, 0, 0, 0, []), (1, .iload_n 1, 0, 0, 0, []), (2, .putfield 9, 4, 0, 0, [831]), (5, .aload_n 0, 0, 0, 0, []), (6, .iload_n 2, 0, 0, 0, []), (7, .putfield 15, 4, 1, 0, [837]), (10, .aload_n 0, 0, 0, 0, []), (11, .iload_n 3, 0, 0, 0, []), (12, .putfield 24, 4, 2, 0, [843]), (15, .return_, 0, 0, 0, [])], 0, 0)
set_option maxRecDepth 20000 in
/-- 37: Company_restNow -/
def zm_Company_restNow : zM := (⟨"Siegelines$Company", "restNow", "()V"⟩, prog_2_method_7_code, 1, none, [], [(0, .aload_n 0, 0, 0, 0, []), (1, .iconst 0, 0, 0, 0, []), (2, .putfield 18, 4, 4, 0, [853]), (5, .aload_n 0, 0, 0, 0, []), (6, .iconst (-1), 0, 0, 0, []), (7, .putfield 21, 4, 5, 0, [857]), (10, .return_, 0, 0, 0, [])], 0, 0)
set_option maxRecDepth 20000 in
/-- 38: Duties_act -/
def zm_Duties_act : zM := (⟨"Siegelines$Duties", "act", "(LSiegelines$Siege;LSiegelines$Company;)V"⟩, prog_3_method_2_code, 2, none, [], [(0, .aload_n 1, 0, 0, 0, []), (1, .getfield 9, 4, 3, 0, [849]), (4, .bipush 10, 0, 0, 0, []), (6, .if_icmp .ge 10, 16, 0, 0, []), (9, .aload_n 1, 0, 0, 0, []), (10, .getfield 15, 4, 4, 0, [854]), (13, .ifCond .ne 26, 39, 0, 0, []), (16, .aload_n 1, 0, 0, 0, []), (17, .aload_n 1, 0, 0, 0, []), (18, .getfield 9, 4, 3, 0, [849]), (21, .iconst 2, 0, 0, 0, []), (22, .if_icmp .le 12, 34, 0, 0, []), (25, .aload_n 1, 0, 0, 0, []), (26, .getfield 9, 4, 3, 0, [849]), (29, .iconst 2, 0, 0, 0, []), (30, .isub, 0, 0, 0, []), (31, .goto 4, 35, 0, 0, []), (34, .iconst 0, 0, 0, 0, []), (35, .putfield 9, 4, 3, 0, [849]), (38, .return_, 0, 0, 0, []), (39, .aload_n 1, 0, 0, 0, []), (40, .getfield 15, 4, 4, 0, [854]), (43, .iconst 2, 0, 0, 0, []), (44, .if_icmp .ne 26, 70, 0, 0, []), (47, .aload_n 1, 0, 0, 0, []), (48, .aload_n 1, 0, 0, 0, []), (49, .getfield 9, 4, 3, 0, [849]), (52, .iconst 1, 0, 0, 0, []), (53, .if_icmp .le 12, 65, 0, 0, []), (56, .aload_n 1, 0, 0, 0, []), (57, .getfield 9, 4, 3, 0, [849]), (60, .iconst 1, 0, 0, 0, []), (61, .isub, 0, 0, 0, []), (62, .goto 4, 66, 0, 0, []), (65, .iconst 0, 0, 0, 0, []), (66, .putfield 9, 4, 3, 0, [849]), (69, .return_, 0, 0, 0, []), (70, .aload_n 1, 0, 0, 0, []), (71, .aload_n 1, 0, 0, 0, []), (72, .getfield 9, 4, 3, 0, [849]), (75, .bipush 12, 0, 0, 0, []), (77, .if_icmp .ge 12, 89, 0, 0, []), (80, .aload_n 1, 0, 0, 0, []), (81, .getfield 9, 4, 3, 0, [849]), (84, .iconst 1, 0, 0, 0, []), (85, .iadd, 0, 0, 0, []), (86, .goto 5, 91, 0, 0, []), (89, .bipush 12, 0, 0, 0, []), (91, .putfield 9, 4, 3, 0, [849]), (94, .aload_n 1, 0, 0, 0, []), (95, .getfield 15, 4, 4, 0, [854]), (98, .tableswitch 78 1 6 #[38, 78, 46, 54, 62, 70], 0, 176, 38, [136, 176, 144, 152, 160, 168]), (136, .aload_n 0, 0, 0, 0, []), (137, .aload_n 1, 0, 0, 0, []), (138, .invokestatic 18, 45, 2, 0, [259, 260]), (141, .goto 35, 176, 0, 0, []), (144, .aload_n 0, 0, 0, 0, []), (145, .aload_n 1, 0, 0, 0, []), (146, .invokestatic 24, 47, 2, 0, [286, 287]), (149, .goto 27, 176, 0, 0, []), (152, .aload_n 0, 0, 0, 0, []), (153, .aload_n 1, 0, 0, 0, []), (154, .invokestatic 27, 46, 2, 0, [290, 291]), (157, .goto 19, 176, 0, 0, []), (160, .aload_n 0, 0, 0, 0, []), (161, .aload_n 1, 0, 0, 0, []), (162, .invokestatic 30, 39, 2, 0, [312, 313]), (165, .goto 11, 176, 0, 0, []), (168, .aload_n 0, 0, 0, 0, []), (169, .aload_n 1, 0, 0, 0, []), (170, .invokestatic 33, 49, 2, 0, [356, 357]), (173, .goto 3, 176, 0, 0, []), (176, .return_, 0, 0, 0, [])], 5, 130)
set_option maxRecDepth 20000 in
/-- 39: Duties_assault -/
def zm_Duties_assault : zM := (⟨"Siegelines$Duties", "assault", "(LSiegelines$Siege;LSiegelines$Company;)V"⟩, prog_3_method_17_code, 9, none, [], [(0, .aload_n 0, 0, 0, 0, []), (1, .getfield 36, 1, 0, 0, [918]), (4, .astore_n 2, 0, 0, 0, []), (5, .aload_n 1, 0, 0, 0, []), (6, .getfield 61, 4, 5, 0, [858]), (9, .istore_n 3, 0, 0, 0, []), (10, .iconst 1, 0, 0, 0, []), (11, .aload_n 1, 0, 0, 0, []), (12, .getfield 68, 4, 0, 0, [834]), (15, .isub, 0, 0, 0, []), (16, .istore 4, 0, 0, 0, []), (18, .aload_n 2, 0, 0, 0, []), (19, .iload_n 3, 0, 0, 0, []), (20, .invokevirtual 64, 67, 1, 2, [262, 168, 169]), (23, .ifCond .eq 15, 38, 0, 0, []), (26, .aload_n 2, 0, 0, 0, []), (27, .aload_n 1, 0, 0, 0, []), (28, .getfield 71, 4, 1, 0, [840]), (31, .iload_n 3, 0, 0, 0, []), (32, .invokestatic 178, 42, 3, 0, [315, 316]), (35, .ifCond .ne 4, 39, 0, 0, []), (38, .return_, 0, 0, 0, []), (39, .aload_n 0, 0, 0, 0, []), (40, .iload 4, 0, 0, 0, []), (42, .iload_n 3, 0, 0, 0, []), (43, .invokevirtual 58, 142, 2, 1, [271, 243, 244]), (46, .ifCond .eq 76, 122, 0, 0, []), (49, .aload_n 0, 0, 0, 0, []), (50, .aload_n 1, 0, 0, 0, []), (51, .invokestatic 182, 40, 2, 0, [318, 319]), (54, .aload_n 0, 0, 0, 0, []), (55, .iload 4, 0, 0, 0, []), (57, .iload_n 3, 0, 0, 0, []), (58, .invokestatic 186, 44, 3, 0, [326, 327]), (61, .if_icmp .le 7, 68, 0, 0, []), (64, .iconst 1, 0, 0, 0, []), (65, .goto 4, 69, 0, 0, []), (68, .iconst 0, 0, 0, 0, []), (69, .istore 5, 0, 0, 0, []), (71, .aload_n 0, 0, 0, 0, []), (72, .iload 5, 0, 0, 0, []), (74, .ifCond .eq 10, 84, 0, 0, []), (77, .aload_n 1, 0, 0, 0, []), (78, .getfield 68, 4, 0, 0, [834]), (81, .goto 5, 86, 0, 0, []), (84, .iload 4, 0, 0, 0, []), (86, .invokevirtual 189, 132, 1, 1, [334, 335, 336]), (89, .iload 5, 0, 0, 0, []), (91, .ifCond .ne 11, 102, 0, 0, []), (94, .aload_n 0, 0, 0, 0, []), (95, .aload_n 1, 0, 0, 0, []), (96, .iload 4, 0, 0, 0, []), (98, .invokestatic 193, 50, 3, 0, [338, 339]), (101, .return_, 0, 0, 0, []), (102, .aload_n 0, 0, 0, 0, []), (103, .aload_n 1, 0, 0, 0, []), (104, .aload_n 1, 0, 0, 0, []), (105, .getfield 82, 4, 2, 0, [846]), (108, .bipush 8, 0, 0, 0, []), (110, .idiv, 0, 0, 0, []), (111, .invokevirtual 197, 158, 2, 1, [341, 234, 235]), (114, .pop, 0, 0, 0, []), (115, .aload_n 0, 0, 0, 0, []), (116, .iload 4, 0, 0, 0, []), (118, .iload_n 3, 0, 0, 0, []), (119, .invokestatic 201, 51, 3, 0, [345, 346]), (122, .aload_n 1, 0, 0, 0, []), (123, .iload_n 3, 0, 0, 0, []), (124, .putfield 71, 4, 1, 0, [840]), (127, .aload_n 1, 0, 0, 0, []), (128, .invokevirtual 109, 37, 0, 4, [282, 283, 284]), (131, .aload_n 0, 0, 0, 0, []), (132, .getfield 204, 1, 1, 0, [923]), (135, .astore 5, 0, 0, 0, []), (137, .aload 5, 0, 0, 0, []), (139, .arraylength, 0, 0, 0, []), (140, .istore 6, 0, 0, 0, []), (142, .iconst 0, 0, 0, 0, []), (143, .istore 7, 0, 0, 0, []), (145, .iload 7, 0, 0, 0, []), (147, .iload 6, 0, 0, 0, []), (149, .if_icmp .ge 41, 190, 0, 0, []), (152, .aload 5, 0, 0, 0, []), (154, .iload 7, 0, 0, 0, []), (156, .aaload, 0, 0, 0, []), (157, .astore 8, 0, 0, 0, []), (159, .aload 8, 0, 0, 0, []), (161, .iload 4, 0, 0, 0, []), (163, .invokevirtual 208, 84, 1, 3, [355, 279, 280]), (166, .ifCond .eq 18, 184, 0, 0, []), (169, .aload 8, 0, 0, 0, []), (171, .getfield 213, 3, 1, 0, [795]), (174, .iload_n 3, 0, 0, 0, []), (175, .if_icmp .ne 9, 184, 0, 0, []), (178, .aload 8, 0, 0, 0, []), (180, .iconst 2, 0, 0, 0, []), (181, .putfield 214, 3, 5, 0, [807]), (184, .iinc 7 1, 0, 0, 0, []), (187, .goto (-42), 145, 0, 0, []), (190, .aload_n 1, 0, 0, 0, []), (191, .getfield 68, 4, 0, 0, [834]), (194, .iconst 1, 0, 0, 0, []), (195, .if_icmp .ne 41, 236, 0, 0, []), (198, .aload_n 2, 0, 0, 0, []), (199, .getfield 106, 2, 2, 0, [618]), (202, .iload_n 3, 0, 0, 0, []), (203, .iaload, 0, 0, 0, []), (204, .iconst 5, 0, 0, 0, []), (205, .if_icmp .ne 31, 236, 0, 0, []), (208, .aload_n 2, 0, 0, 0, []), (209, .getfield 106, 2, 2, 0, [618]), (212, .iload_n 3, 0, 0, 0, []), (213, .iconst 0, 0, 0, 0, []), (214, .iastore, 0, 0, 0, []), (215, .aload_n 0, 0, 0, 0, []), (216, .getfield 97, 1, 4, 0, [935]), (219, .dup, 0, 0, 0, []), (220, .getfield 101, 6, 2, 0, [702]), (223, .aload_n 0, 0, 0, 0, []), (224, .getfield 97, 1, 4, 0, [935]), (227, .getfield 101, 6, 2, 0, [702]), (230, .iconst 2, 0, 0, 0, []), (231, .idiv, 0, 0, 0, []), (232, .isub, 0, 0, 0, []), (233, .putfield 101, 6, 2, 0, [702]), (236, .return_, 0, 0, 0, [])], 4, 102)
set_option maxRecDepth 20000 in
/-- 40: Duties_attackOf -/
def zm_Duties_attackOf : zM := (⟨"Siegelines$Duties", "attackOf", "(LSiegelines$Siege;LSiegelines$Company;)I"⟩, prog_3_method_15_code, 3, some (.int), [], [(0, .aload_n 0, 0, 0, 0, []), (1, .aload_n 1, 0, 0, 0, []), (2, .invokevirtual 164, 135, 1, 1, [321, 322, 323]), (5, .istore_n 2, 0, 0, 0, []), (6, .aload_n 0, 0, 0, 0, []), (7, .invokevirtual 168, 143, 0, 1, [325, 160, 161]), (10, .ifCond .eq 11, 21, 0, 0, []), (13, .iload_n 2, 0, 0, 0, []), (14, .iconst 5, 0, 0, 0, []), (15, .imul, 0, 0, 0, []), (16, .iconst 4, 0, 0, 0, []), (17, .idiv, 0, 0, 0, []), (18, .goto 4, 22, 0, 0, []), (21, .iload_n 2, 0, 0, 0, []), (22, .ireturn, 0, 0, 0, [])], 2, 42)
set_option maxRecDepth 20000 in
/-- 41: Duties_barWays -/
def zm_Duties_barWays : zM := (⟨"Siegelines$Duties", "barWays", "(LSiegelines$Siege;II)V"⟩, prog_3_method_11_code, 8, none, [], [(0, .aload_n 0, 0, 0, 0, []), (1, .getfield 36, 1, 0, 0, [918]), (4, .astore_n 3, 0, 0, 0, []), (5, .iconst 0, 0, 0, 0, []), (6, .istore 4, 0, 0, 0, []), (8, .iload 4, 0, 0, 0, []), (10, .aload_n 3, 0, 0, 0, []), (11, .getfield 141, 2, 11, 0, [640]), (14, .if_icmp .ge 95, 109, 0, 0, []), (17, .iload 4, 0, 0, 0, []), (19, .sipush 144, 0, 0, 0, []), (22, .if_icmp .ge 87, 109, 0, 0, []), (25, .aload_n 3, 0, 0, 0, []), (26, .getfield 106, 2, 2, 0, [618]), (29, .iload 4, 0, 0, 0, []), (31, .iaload, 0, 0, 0, []), (32, .iconst 2, 0, 0, 0, []), (33, .if_icmp .eq 15, 48, 0, 0, []), (36, .aload_n 3, 0, 0, 0, []), (37, .getfield 106, 2, 2, 0, [618]), (40, .iload 4, 0, 0, 0, []), (42, .iaload, 0, 0, 0, []), (43, .bipush 7, 0, 0, 0, []), (45, .if_icmp .ne 7, 52, 0, 0, []), (48, .iconst 1, 0, 0, 0, []), (49, .goto 4, 53, 0, 0, []), (52, .iconst 0, 0, 0, 0, []), (53, .istore 5, 0, 0, 0, []), (55, .aload_n 3, 0, 0, 0, []), (56, .iload 4, 0, 0, 0, []), (58, .invokevirtual 144, 58, 1, 2, [299, 300, 301]), (61, .iconst 1, 0, 0, 0, []), (62, .iload_n 1, 0, 0, 0, []), (63, .isub, 0, 0, 0, []), (64, .if_icmp .eq 14, 78, 0, 0, []), (67, .iload 5, 0, 0, 0, []), (69, .ifCond .eq 13, 82, 0, 0, []), (72, .iload 4, 0, 0, 0, []), (74, .iload_n 2, 0, 0, 0, []), (75, .if_icmp .eq 7, 82, 0, 0, []), (78, .iconst 1, 0, 0, 0, []), (79, .goto 4, 83, 0, 0, []), (82, .iconst 0, 0, 0, 0, []), (83, .istore 6, 0, 0, 0, []), (85, .aload_n 3, 0, 0, 0, []), (86, .getfield 130, 2, 7, 0, [629]), (89, .iload 4, 0, 0, 0, []), (91, .iload 6, 0, 0, 0, []), (93, .ifCond .eq 8, 101, 0, 0, []), (96, .bipush (-2), 0, 0, 0, []), (98, .goto 4, 102, 0, 0, []), (101, .iconst (-1), 0, 0, 0, []), (102, .iastore, 0, 0, 0, []), (103, .iinc 4 1, 0, 0, 0, []), (106, .goto (-98), 8, 0, 0, []), (109, .aload_n 0, 0, 0, 0, []), (110, .getfield 147, 1, 2, 0, [929]), (113, .astore 4, 0, 0, 0, []), (115, .aload 4, 0, 0, 0, []), (117, .arraylength, 0, 0, 0, []), (118, .istore 5, 0, 0, 0, []), (120, .iconst 0, 0, 0, 0, []), (121, .istore 6, 0, 0, 0, []), (123, .iload 6, 0, 0, 0, []), (125, .iload 5, 0, 0, 0, []), (127, .if_icmp .ge 59, 186, 0, 0, []), (130, .aload 4, 0, 0, 0, []), (132, .iload 6, 0, 0, 0, []), (134, .aaload, 0, 0, 0, []), (135, .astore 7, 0, 0, 0, []), (137, .aload 7, 0, 0, 0, []), (139, .getfield 82, 4, 2, 0, [846]), (142, .ifCond .le 38, 180, 0, 0, []), (145, .aload 7, 0, 0, 0, []), (147, .getfield 68, 4, 0, 0, [834]), (150, .iconst 1, 0, 0, 0, []), (151, .iload_n 1, 0, 0, 0, []), (152, .isub, 0, 0, 0, []), (153, .if_icmp .ne 27, 180, 0, 0, []), (156, .aload_n 3, 0, 0, 0, []), (157, .aload 7, 0, 0, 0, []), (159, .getfield 71, 4, 1, 0, [840]), (162, .invokevirtual 64, 67, 1, 2, [262, 168, 169]), (165, .ifCond .eq 15, 180, 0, 0, []), (168, .aload_n 3, 0, 0, 0, []), (169, .getfield 130, 2, 7, 0, [629]), (172, .aload 7, 0, 0, 0, []), (174, .getfield 71, 4, 1, 0, [840]), (177, .bipush (-2), 0, 0, 0, []), (179, .iastore, 0, 0, 0, []), (180, .iinc 6 1, 0, 0, 0, []), (183, .goto (-60), 123, 0, 0, []), (186, .return_, 0, 0, 0, [])], 1, 22)
set_option maxRecDepth 20000 in
/-- 42: Duties_canAssault -/
def zm_Duties_canAssault : zM := (⟨"Siegelines$Duties", "canAssault", "(LSiegelines$Ground;II)Z"⟩, prog_3_method_14_code, 5, some (.boolean), [], [(0, .aload_n 0, 0, 0, 0, []), (1, .iload_n 2, 0, 0, 0, []), (2, .invokevirtual 42, 81, 1, 2, [266, 220, 221]), (5, .istore_n 3, 0, 0, 0, []), (6, .iload_n 3, 0, 0, 0, []), (7, .iconst 1, 0, 0, 0, []), (8, .if_icmp .eq 12, 20, 0, 0, []), (11, .aload_n 0, 0, 0, 0, []), (12, .iload_n 1, 0, 0, 0, []), (13, .iload_n 2, 0, 0, 0, []), (14, .invokevirtual 48, 79, 2, 2, [267, 268, 269]), (17, .ifCond .ne 5, 22, 0, 0, []), (20, .iconst 0, 0, 0, 0, []), (21, .ireturn, 0, 0, 0, []), (22, .aload_n 0, 0, 0, 0, []), (23, .iload_n 1, 0, 0, 0, []), (24, .invokevirtual 42, 81, 1, 2, [266, 220, 221]), (27, .istore 4, 0, 0, 0, []), (29, .iload_n 3, 0, 0, 0, []), (30, .iconst 2, 0, 0, 0, []), (31, .if_icmp .ne 22, 53, 0, 0, []), (34, .iload 4, 0, 0, 0, []), (36, .iconst 5, 0, 0, 0, []), (37, .if_icmp .eq 16, 53, 0, 0, []), (40, .iload 4, 0, 0, 0, []), (42, .bipush 7, 0, 0, 0, []), (44, .if_icmp .eq 9, 53, 0, 0, []), (47, .iload 4, 0, 0, 0, []), (49, .iconst 2, 0, 0, 0, []), (50, .if_icmp .ne 7, 57, 0, 0, []), (53, .iconst 1, 0, 0, 0, []), (54, .goto 4, 58, 0, 0, []), (57, .iconst 0, 0, 0, 0, []), (58, .ireturn, 0, 0, 0, [])], 2, 43)
set_option maxRecDepth 20000 in
/-- 43: Duties_canDig -/
def zm_Duties_canDig : zM := (⟨"Siegelines$Duties", "canDig", "(LSiegelines$Siege;II)Z"⟩, prog_3_method_3_code, 6, some (.boolean), [], [(0, .aload_n 0, 0, 0, 0, []), (1, .getfield 36, 1, 0, 0, [918]), (4, .astore_n 3, 0, 0, 0, []), (5, .aload_n 3, 0, 0, 0, []), (6, .iload_n 2, 0, 0, 0, []), (7, .invokevirtual 42, 81, 1, 2, [266, 220, 221]), (10, .istore 4, 0, 0, 0, []), (12, .iload 4, 0, 0, 0, []), (14, .ifCond .eq 23, 37, 0, 0, []), (17, .iload 4, 0, 0, 0, []), (19, .iconst 4, 0, 0, 0, []), (20, .if_icmp .eq 17, 37, 0, 0, []), (23, .iload 4, 0, 0, 0, []), (25, .bipush 6, 0, 0, 0, []), (27, .if_icmp .eq 10, 37, 0, 0, []), (30, .iload 4, 0, 0, 0, []), (32, .bipush 7, 0, 0, 0, []), (34, .if_icmp .ne 7, 41, 0, 0, []), (37, .iconst 1, 0, 0, 0, []), (38, .goto 4, 42, 0, 0, []), (41, .iconst 0, 0, 0, 0, []), (42, .istore 5, 0, 0, 0, []), (44, .iload 5, 0, 0, 0, []), (46, .ifCond .eq 41, 87, 0, 0, []), (49, .aload_n 3, 0, 0, 0, []), (50, .iload_n 1, 0, 0, 0, []), (51, .iload_n 2, 0, 0, 0, []), (52, .invokevirtual 48, 79, 2, 2, [267, 268, 269]), (55, .ifCond .eq 32, 87, 0, 0, []), (58, .iload_n 2, 0, 0, 0, []), (59, .aload_n 3, 0, 0, 0, []), (60, .getfield 52, 2, 13, 0, [647]), (63, .if_icmp .eq 24, 87, 0, 0, []), (66, .iload_n 2, 0, 0, 0, []), (67, .aload_n 3, 0, 0, 0, []), (68, .getfield 55, 2, 12, 0, [643]), (71, .if_icmp .eq 16, 87, 0, 0, []), (74, .aload_n 0, 0, 0, 0, []), (75, .iconst 1, 0, 0, 0, []), (76, .iload_n 2, 0, 0, 0, []), (77, .invokevirtual 58, 142, 2, 1, [271, 243, 244]), (80, .ifCond .ne 7, 87, 0, 0, []), (83, .iconst 1, 0, 0, 0, []), (84, .goto 4, 88, 0, 0, []), (87, .iconst 0, 0, 0, 0, []), (88, .ireturn, 0, 0, 0, [])], 2, 48)
set_option maxRecDepth 20000 in
/-- 44: Duties_defenceOf -/
def zm_Duties_defenceOf : zM := (⟨"Siegelines$Duties", "defenceOf", "(LSiegelines$Siege;II)I"⟩, prog_3_method_16_code, 9, some (.int), [], [(0, .iconst 0, 0, 0, 0, []), (1, .istore_n 3, 0, 0, 0, []), (2, .iconst 0, 0, 0, 0, []), (3, .istore 4, 0, 0, 0, []), (5, .aload_n 0, 0, 0, 0, []), (6, .getfield 147, 1, 2, 0, [929]), (9, .astore 5, 0, 0, 0, []), (11, .aload 5, 0, 0, 0, []), (13, .arraylength, 0, 0, 0, []), (14, .istore 6, 0, 0, 0, []), (16, .iconst 0, 0, 0, 0, []), (17, .istore 7, 0, 0, 0, []), (19, .iload 7, 0, 0, 0, []), (21, .iload 6, 0, 0, 0, []), (23, .if_icmp .ge 55, 78, 0, 0, []), (26, .aload 5, 0, 0, 0, []), (28, .iload 7, 0, 0, 0, []), (30, .aaload, 0, 0, 0, []), (31, .astore 8, 0, 0, 0, []), (33, .aload 8, 0, 0, 0, []), (35, .iload_n 1, 0, 0, 0, []), (36, .iload_n 2, 0, 0, 0, []), (37, .invokevirtual 172, 33, 2, 4, [329, 230, 231]), (40, .ifCond .eq 32, 72, 0, 0, []), (43, .iload_n 3, 0, 0, 0, []), (44, .aload_n 0, 0, 0, 0, []), (45, .aload 8, 0, 0, 0, []), (47, .invokevirtual 164, 135, 1, 1, [321, 322, 323]), (50, .iadd, 0, 0, 0, []), (51, .istore_n 3, 0, 0, 0, []), (52, .iload 4, 0, 0, 0, []), (54, .ifCond .ne 11, 65, 0, 0, []), (57, .aload 8, 0, 0, 0, []), (59, .invokevirtual 175, 34, 0, 4, [330, 331, 332]), (62, .ifCond .eq 7, 69, 0, 0, []), (65, .iconst 1, 0, 0, 0, []), (66, .goto 4, 70, 0, 0, []), (69, .iconst 0, 0, 0, 0, []), (70, .istore 4, 0, 0, 0, []), (72, .iinc 7 1, 0, 0, 0, []), (75, .goto (-56), 19, 0, 0, []), (78, .aload_n 0, 0, 0, 0, []), (79, .getfield 36, 1, 0, 0, [918]), (82, .iload_n 2, 0, 0, 0, []), (83, .invokevirtual 42, 81, 1, 2, [266, 220, 221]), (86, .istore 5, 0, 0, 0, []), (88, .iload 5, 0, 0, 0, []), (90, .iconst 3, 0, 0, 0, []), (91, .if_icmp .eq 9, 100, 0, 0, []), (94, .iload 5, 0, 0, 0, []), (96, .iconst 4, 0, 0, 0, []), (97, .if_icmp .ne 10, 107, 0, 0, []), (100, .iload_n 3, 0, 0, 0, []), (101, .iconst 3, 0, 0, 0, []), (102, .imul, 0, 0, 0, []), (103, .istore_n 3, 0, 0, 0, []), (104, .goto 20, 124, 0, 0, []), (107, .iload 5, 0, 0, 0, []), (109, .bipush 6, 0, 0, 0, []), (111, .if_icmp .eq 9, 120, 0, 0, []), (114, .iload 5, 0, 0, 0, []), (116, .iconst 5, 0, 0, 0, []), (117, .if_icmp .ne 7, 124, 0, 0, []), (120, .iload_n 3, 0, 0, 0, []), (121, .iconst 2, 0, 0, 0, []), (122, .imul, 0, 0, 0, []), (123, .istore_n 3, 0, 0, 0, []), (124, .iload 4, 0, 0, 0, []), (126, .ifCond .eq 11, 137, 0, 0, []), (129, .iload_n 3, 0, 0, 0, []), (130, .iconst 3, 0, 0, 0, []), (131, .imul, 0, 0, 0, []), (132, .iconst 2, 0, 0, 0, []), (133, .idiv, 0, 0, 0, []), (134, .goto 4, 138, 0, 0, []), (137, .iload_n 3, 0, 0, 0, []), (138, .ireturn, 0, 0, 0, [])], 2, 42)
set_option maxRecDepth 20000 in
/-- 45: Duties_dig -/
def zm_Duties_dig : zM := (⟨"Siegelines$Duties", "dig", "(LSiegelines$Siege;LSiegelines$Company;)V"⟩, prog_3_method_5_code, 5, none, [], [(0, .aload_n 0, 0, 0, 0, []), (1, .getfield 36, 1, 0, 0, [918]), (4, .astore_n 2, 0, 0, 0, []), (5, .aload_n 1, 0, 0, 0, []), (6, .getfield 61, 4, 5, 0, [858]), (9, .istore_n 3, 0, 0, 0, []), (10, .aload_n 2, 0, 0, 0, []), (11, .iload_n 3, 0, 0, 0, []), (12, .invokevirtual 64, 67, 1, 2, [262, 168, 169]), (15, .ifCond .eq 22, 37, 0, 0, []), (18, .aload_n 1, 0, 0, 0, []), (19, .getfield 68, 4, 0, 0, [834]), (22, .ifCond .ne 15, 37, 0, 0, []), (25, .aload_n 0, 0, 0, 0, []), (26, .aload_n 1, 0, 0, 0, []), (27, .getfield 71, 4, 1, 0, [840]), (30, .iload_n 3, 0, 0, 0, []), (31, .invokestatic 74, 43, 3, 0, [263, 264]), (34, .ifCond .ne 4, 38, 0, 0, []), (37, .return_, 0, 0, 0, []), (38, .aload_n 2, 0, 0, 0, []), (39, .getfield 78, 2, 4, 0, [625]), (42, .iload_n 3, 0, 0, 0, []), (43, .dup2, 0, 0, 0, []), (44, .iaload, 0, 0, 0, []), (45, .aload_n 1, 0, 0, 0, []), (46, .getfield 82, 4, 2, 0, [846]), (49, .bipush 10, 0, 0, 0, []), (51, .idiv, 0, 0, 0, []), (52, .iadd, 0, 0, 0, []), (53, .iastore, 0, 0, 0, []), (54, .aload_n 2, 0, 0, 0, []), (55, .getfield 78, 2, 4, 0, [625]), (58, .iload_n 3, 0, 0, 0, []), (59, .iaload, 0, 0, 0, []), (60, .aload_n 2, 0, 0, 0, []), (61, .getfield 85, 2, 1, 0, [616]), (64, .iload_n 3, 0, 0, 0, []), (65, .iaload, 0, 0, 0, []), (66, .invokestatic 88, 55, 1, 0, [272, 273]), (69, .if_icmp .ge 4, 73, 0, 0, []), (72, .return_, 0, 0, 0, []), (73, .iconst 0, 0, 0, 0, []), (74, .istore 4, 0, 0, 0, []), (76, .aload_n 2, 0, 0, 0, []), (77, .getfield 85, 2, 1, 0, [616]), (80, .iload_n 3, 0, 0, 0, []), (81, .iaload, 0, 0, 0, []), (82, .iconst 2, 0, 0, 0, []), (83, .if_icmp .ne 9, 92, 0, 0, []), (86, .iconst 2, 0, 0, 0, []), (87, .istore 4, 0, 0, 0, []), (89, .goto 15, 104, 0, 0, []), (92, .aload_n 0, 0, 0, 0, []), (93, .iconst 1, 0, 0, 0, []), (94, .iload_n 3, 0, 0, 0, []), (95, .invokestatic 91, 89, 3, 0, [275, 276]), (98, .ifCond .le 6, 104, 0, 0, []), (101, .iconst 1, 0, 0, 0, []), (102, .istore 4, 0, 0, 0, []), (104, .aload_n 0, 0, 0, 0, []), (105, .getfield 97, 1, 4, 0, [935]), (108, .getfield 101, 6, 2, 0, [702]), (111, .iload 4, 0, 0, 0, []), (113, .if_icmp .ge 4, 117, 0, 0, []), (116, .return_, 0, 0, 0, []), (117, .aload_n 0, 0, 0, 0, []), (118, .getfield 97, 1, 4, 0, [935]), (121, .dup, 0, 0, 0, []), (122, .getfield 101, 6, 2, 0, [702]), (125, .iload 4, 0, 0, 0, []), (127, .isub, 0, 0, 0, []), (128, .putfield 101, 6, 2, 0, [702]), (131, .aload_n 2, 0, 0, 0, []), (132, .getfield 106, 2, 2, 0, [618]), (135, .iload_n 3, 0, 0, 0, []), (136, .iconst 5, 0, 0, 0, []), (137, .iastore, 0, 0, 0, []), (138, .aload_n 2, 0, 0, 0, []), (139, .getfield 78, 2, 4, 0, [625]), (142, .iload_n 3, 0, 0, 0, []), (143, .iconst 0, 0, 0, 0, []), (144, .iastore, 0, 0, 0, []), (145, .aload_n 1, 0, 0, 0, []), (146, .iload_n 3, 0, 0, 0, []), (147, .putfield 71, 4, 1, 0, [840]), (150, .aload_n 1, 0, 0, 0, []), (151, .invokevirtual 109, 37, 0, 4, [282, 283, 284]), (154, .return_, 0, 0, 0, [])], 4, 101)
set_option maxRecDepth 20000 in
/-- 46: Duties_goOn -/
def zm_Duties_goOn : zM := (⟨"Siegelines$Duties", "goOn", "(LSiegelines$Siege;LSiegelines$Company;)V"⟩, prog_3_method_8_code, 3, none, [], [(0, .aload_n 1, 0, 0, 0, []), (1, .getfield 71, 4, 1, 0, [840]), (4, .aload_n 1, 0, 0, 0, []), (5, .getfield 61, 4, 5, 0, [858]), (8, .if_icmp .eq 24, 32, 0, 0, []), (11, .aload_n 0, 0, 0, 0, []), (12, .aload_n 1, 0, 0, 0, []), (13, .aload_n 1, 0, 0, 0, []), (14, .getfield 61, 4, 5, 0, [858]), (17, .invokestatic 126, 54, 3, 0, [293, 294]), (20, .istore_n 2, 0, 0, 0, []), (21, .iload_n 2, 0, 0, 0, []), (22, .iconst (-1), 0, 0, 0, []), (23, .if_icmp .ne 4, 27, 0, 0, []), (26, .return_, 0, 0, 0, []), (27, .aload_n 1, 0, 0, 0, []), (28, .iload_n 2, 0, 0, 0, []), (29, .putfield 71, 4, 1, 0, [840]), (32, .aload_n 1, 0, 0, 0, []), (33, .getfield 71, 4, 1, 0, [840]), (36, .aload_n 1, 0, 0, 0, []), (37, .getfield 61, 4, 5, 0, [858]), (40, .if_icmp .ne 7, 47, 0, 0, []), (43, .aload_n 1, 0, 0, 0, []), (44, .invokevirtual 109, 37, 0, 4, [282, 283, 284]), (47, .return_, 0, 0, 0, [])], 3, 79)
set_option maxRecDepth 20000 in
/-- 47: Duties_makeGabions -/
def zm_Duties_makeGabions : zM := (⟨"Siegelines$Duties", "makeGabions", "(LSiegelines$Siege;LSiegelines$Company;)V"⟩, prog_3_method_7_code, 2, none, [], [(0, .aload_n 1, 0, 0, 0, []), (1, .getfield 71, 4, 1, 0, [840]), (4, .aload_n 0, 0, 0, 0, []), (5, .getfield 36, 1, 0, 0, [918]), (8, .getfield 55, 2, 12, 0, [643]), (11, .if_icmp .eq 18, 29, 0, 0, []), (14, .aload_n 0, 0, 0, 0, []), (15, .getfield 36, 1, 0, 0, [918]), (18, .aload_n 1, 0, 0, 0, []), (19, .getfield 71, 4, 1, 0, [840]), (22, .invokevirtual 42, 81, 1, 2, [266, 220, 221]), (25, .iconst 3, 0, 0, 0, []), (26, .if_icmp .ne 26, 52, 0, 0, []), (29, .aload_n 0, 0, 0, 0, []), (30, .aload_n 1, 0, 0, 0, []), (31, .getfield 68, 4, 0, 0, [834]), (34, .invokevirtual 122, 150, 1, 1, [289, 197, 198]), (37, .dup, 0, 0, 0, []), (38, .getfield 101, 6, 2, 0, [702]), (41, .aload_n 1, 0, 0, 0, []), (42, .getfield 82, 4, 2, 0, [846]), (45, .bipush 20, 0, 0, 0, []), (47, .idiv, 0, 0, 0, []), (48, .iadd, 0, 0, 0, []), (49, .putfield 101, 6, 2, 0, [702]), (52, .return_, 0, 0, 0, [])], 2, 42)
set_option maxRecDepth 20000 in
/-- 48: Duties_measureWays -/
def zm_Duties_measureWays : zM := (⟨"Siegelines$Duties", "measureWays", "(LSiegelines$Ground;I)V"⟩, prog_3_method_12_code, 7, none, [], [(0, .aload_n 0, 0, 0, 0, []), (1, .iload_n 1, 0, 0, 0, []), (2, .invokevirtual 64, 67, 1, 2, [262, 168, 169]), (5, .ifCond .ne 4, 9, 0, 0, []), (8, .return_, 0, 0, 0, []), (9, .aload_n 0, 0, 0, 0, []), (10, .getfield 130, 2, 7, 0, [629]), (13, .iload_n 1, 0, 0, 0, []), (14, .iconst 0, 0, 0, 0, []), (15, .iastore, 0, 0, 0, []), (16, .aload_n 0, 0, 0, 0, []), (17, .getfield 151, 2, 8, 0, [631]), (20, .iconst 0, 0, 0, 0, []), (21, .iload_n 1, 0, 0, 0, []), (22, .iastore, 0, 0, 0, []), (23, .iconst 1, 0, 0, 0, []), (24, .istore_n 2, 0, 0, 0, []), (25, .iconst 0, 0, 0, 0, []), (26, .istore_n 3, 0, 0, 0, []), (27, .iload_n 3, 0, 0, 0, []), (28, .iload_n 2, 0, 0, 0, []), (29, .if_icmp .ge 112, 141, 0, 0, []), (32, .iload_n 3, 0, 0, 0, []), (33, .sipush 144, 0, 0, 0, []), (36, .if_icmp .ge 105, 141, 0, 0, []), (39, .aload_n 0, 0, 0, 0, []), (40, .getfield 151, 2, 8, 0, [631]), (43, .iload_n 3, 0, 0, 0, []), (44, .iaload, 0, 0, 0, []), (45, .istore 4, 0, 0, 0, []), (47, .iconst 0, 0, 0, 0, []), (48, .istore 5, 0, 0, 0, []), (50, .iload 5, 0, 0, 0, []), (52, .iconst 4, 0, 0, 0, []), (53, .if_icmp .ge 82, 135, 0, 0, []), (56, .aload_n 0, 0, 0, 0, []), (57, .iload 4, 0, 0, 0, []), (59, .iload 5, 0, 0, 0, []), (61, .invokevirtual 115, 71, 2, 2, [306, 307, 308]), (64, .istore 6, 0, 0, 0, []), (66, .aload_n 0, 0, 0, 0, []), (67, .iload 6, 0, 0, 0, []), (69, .invokevirtual 64, 67, 1, 2, [262, 168, 169]), (72, .ifCond .eq 57, 129, 0, 0, []), (75, .aload_n 0, 0, 0, 0, []), (76, .iload 4, 0, 0, 0, []), (78, .invokevirtual 64, 67, 1, 2, [262, 168, 169]), (81, .ifCond .eq 48, 129, 0, 0, []), (84, .aload_n 0, 0, 0, 0, []), (85, .getfield 130, 2, 7, 0, [629]), (88, .iload 6, 0, 0, 0, []), (90, .iaload, 0, 0, 0, []), (91, .iconst (-1), 0, 0, 0, []), (92, .if_icmp .ne 37, 129, 0, 0, []), (95, .iload_n 2, 0, 0, 0, []), (96, .sipush 144, 0, 0, 0, []), (99, .if_icmp .ge 30, 129, 0, 0, []), (102, .aload_n 0, 0, 0, 0, []), (103, .getfield 130, 2, 7, 0, [629]), (106, .iload 6, 0, 0, 0, []), (108, .aload_n 0, 0, 0, 0, []), (109, .getfield 130, 2, 7, 0, [629]), (112, .iload 4, 0, 0, 0, []), (114, .iaload, 0, 0, 0, []), (115, .iconst 1, 0, 0, 0, []), (116, .iadd, 0, 0, 0, []), (117, .iastore, 0, 0, 0, []), (118, .aload_n 0, 0, 0, 0, []), (119, .getfield 151, 2, 8, 0, [631]), (122, .iload_n 2, 0, 0, 0, []), (123, .iload 6, 0, 0, 0, []), (125, .iastore, 0, 0, 0, []), (126, .iinc 2 1, 0, 0, 0, []), (129, .iinc 5 1, 0, 0, 0, []), (132, .goto (-82), 50, 0, 0, []), (135, .iinc 3 1, 0, 0, 0, []), (138, .goto (-111), 27, 0, 0, []), (141, .return_, 0, 0, 0, [])], 1, 22)
set_option maxRecDepth 20000 in
/-- 49: Duties_mend -/
def zm_Duties_mend : zM := (⟨"Siegelines$Duties", "mend", "(LSiegelines$Siege;LSiegelines$Company;)V"⟩, prog_3_method_13_code, 5, none, [], [(0, .aload_n 0, 0, 0, 0, []), (1, .getfield 36, 1, 0, 0, [918]), (4, .astore_n 2, 0, 0, 0, []), (5, .aload_n 1, 0, 0, 0, []), (6, .getfield 61, 4, 5, 0, [858]), (9, .istore_n 3, 0, 0, 0, []), (10, .aload_n 2, 0, 0, 0, []), (11, .iload_n 3, 0, 0, 0, []), (12, .invokevirtual 64, 67, 1, 2, [262, 168, 169]), (15, .ifCond .eq 31, 46, 0, 0, []), (18, .aload_n 1, 0, 0, 0, []), (19, .getfield 68, 4, 0, 0, [834]), (22, .iconst 1, 0, 0, 0, []), (23, .if_icmp .ne 23, 46, 0, 0, []), (26, .iload_n 3, 0, 0, 0, []), (27, .aload_n 1, 0, 0, 0, []), (28, .getfield 71, 4, 1, 0, [840]), (31, .if_icmp .eq 16, 47, 0, 0, []), (34, .aload_n 2, 0, 0, 0, []), (35, .aload_n 1, 0, 0, 0, []), (36, .getfield 71, 4, 1, 0, [840]), (39, .iload_n 3, 0, 0, 0, []), (40, .invokevirtual 48, 79, 2, 2, [267, 268, 269]), (43, .ifCond .ne 4, 47, 0, 0, []), (46, .return_, 0, 0, 0, []), (47, .aload_n 2, 0, 0, 0, []), (48, .getfield 106, 2, 2, 0, [618]), (51, .iload_n 3, 0, 0, 0, []), (52, .iaload, 0, 0, 0, []), (53, .iconst 1, 0, 0, 0, []), (54, .if_icmp .ne 50, 104, 0, 0, []), (57, .aload_n 2, 0, 0, 0, []), (58, .getfield 154, 2, 3, 0, [622]), (61, .iload_n 3, 0, 0, 0, []), (62, .iaload, 0, 0, 0, []), (63, .bipush 60, 0, 0, 0, []), (65, .if_icmp .ge 39, 104, 0, 0, []), (68, .aload_n 2, 0, 0, 0, []), (69, .getfield 154, 2, 3, 0, [622]), (72, .iload_n 3, 0, 0, 0, []), (73, .iaload, 0, 0, 0, []), (74, .aload_n 1, 0, 0, 0, []), (75, .getfield 82, 4, 2, 0, [846]), (78, .bipush 20, 0, 0, 0, []), (80, .idiv, 0, 0, 0, []), (81, .iadd, 0, 0, 0, []), (82, .istore 4, 0, 0, 0, []), (84, .aload_n 2, 0, 0, 0, []), (85, .getfield 154, 2, 3, 0, [622]), (88, .iload_n 3, 0, 0, 0, []), (89, .iload 4, 0, 0, 0, []), (91, .bipush 60, 0, 0, 0, []), (93, .if_icmp .le 8, 101, 0, 0, []), (96, .bipush 60, 0, 0, 0, []), (98, .goto 5, 103, 0, 0, []), (101, .iload 4, 0, 0, 0, []), (103, .iastore, 0, 0, 0, []), (104, .aload_n 2, 0, 0, 0, []), (105, .getfield 106, 2, 2, 0, [618]), (108, .iload_n 3, 0, 0, 0, []), (109, .iaload, 0, 0, 0, []), (110, .bipush 6, 0, 0, 0, []), (112, .if_icmp .ne 12, 124, 0, 0, []), (115, .aload_n 0, 0, 0, 0, []), (116, .iconst 0, 0, 0, 0, []), (117, .iload_n 3, 0, 0, 0, []), (118, .invokevirtual 58, 142, 2, 1, [271, 243, 244]), (121, .ifCond .eq 4, 125, 0, 0, []), (124, .return_, 0, 0, 0, []), (125, .aload_n 2, 0, 0, 0, []), (126, .getfield 78, 2, 4, 0, [625]), (129, .iload_n 3, 0, 0, 0, []), (130, .dup2, 0, 0, 0, []), (131, .iaload, 0, 0, 0, []), (132, .aload_n 1, 0, 0, 0, []), (133, .getfield 82, 4, 2, 0, [846]), (136, .bipush 10, 0, 0, 0, []), (138, .idiv, 0, 0, 0, []), (139, .iadd, 0, 0, 0, []), (140, .iastore, 0, 0, 0, []), (141, .aload_n 2, 0, 0, 0, []), (142, .getfield 78, 2, 4, 0, [625]), (145, .iload_n 3, 0, 0, 0, []), (146, .iaload, 0, 0, 0, []), (147, .bipush 80, 0, 0, 0, []), (149, .if_icmp .lt 45, 194, 0, 0, []), (152, .aload_n 2, 0, 0, 0, []), (153, .getfield 157, 2, 0, 0, [613]), (156, .iload_n 3, 0, 0, 0, []), (157, .iaload, 0, 0, 0, []), (158, .bipush 9, 0, 0, 0, []), (160, .if_icmp .ge 14, 174, 0, 0, []), (163, .aload_n 2, 0, 0, 0, []), (164, .getfield 157, 2, 0, 0, [613]), (167, .iload_n 3, 0, 0, 0, []), (168, .iaload, 0, 0, 0, []), (169, .iconst 1, 0, 0, 0, []), (170, .iadd, 0, 0, 0, []), (171, .goto 5, 176, 0, 0, []), (174, .bipush 9, 0, 0, 0, []), (176, .istore 4, 0, 0, 0, []), (178, .aload_n 2, 0, 0, 0, []), (179, .iload_n 3, 0, 0, 0, []), (180, .iload 4, 0, 0, 0, []), (182, .aload_n 2, 0, 0, 0, []), (183, .getfield 85, 2, 1, 0, [616]), (186, .iload_n 3, 0, 0, 0, []), (187, .iaload, 0, 0, 0, []), (188, .iconst 1, 0, 0, 0, []), (189, .bipush 10, 0, 0, 0, []), (191, .invokevirtual 160, 74, 5, 2, [359, 360, 361]), (194, .return_, 0, 0, 0, [])], 2, 48)
set_option maxRecDepth 20000 in
/-- 50: Duties_payForDefeat -/
def zm_Duties_payForDefeat : zM := (⟨"Siegelines$Duties", "payForDefeat", "(LSiegelines$Siege;LSiegelines$Company;I)V"⟩, prog_3_method_18_code, 7, none, [], [(0, .aload_n 0, 0, 0, 0, []), (1, .getfield 147, 1, 2, 0, [929]), (4, .astore_n 3, 0, 0, 0, []), (5, .aload_n 3, 0, 0, 0, []), (6, .arraylength, 0, 0, 0, []), (7, .istore 4, 0, 0, 0, []), (9, .iconst 0, 0, 0, 0, []), (10, .istore 5, 0, 0, 0, []), (12, .iload 5, 0, 0, 0, []), (14, .iload 4, 0, 0, 0, []), (16, .if_icmp .ge 43, 59, 0, 0, []), (19, .aload_n 3, 0, 0, 0, []), (20, .iload 5, 0, 0, 0, []), (22, .aaload, 0, 0, 0, []), (23, .astore 6, 0, 0, 0, []), (25, .aload 6, 0, 0, 0, []), (27, .iload_n 2, 0, 0, 0, []), (28, .aload_n 1, 0, 0, 0, []), (29, .getfield 61, 4, 5, 0, [858]), (32, .invokevirtual 172, 33, 2, 4, [329, 230, 231]), (35, .ifCond .eq 18, 53, 0, 0, []), (38, .aload_n 0, 0, 0, 0, []), (39, .aload 6, 0, 0, 0, []), (41, .aload 6, 0, 0, 0, []), (43, .getfield 82, 4, 2, 0, [846]), (46, .bipush 8, 0, 0, 0, []), (48, .idiv, 0, 0, 0, []), (49, .invokevirtual 197, 158, 2, 1, [341, 234, 235]), (52, .pop, 0, 0, 0, []), (53, .iinc 5 1, 0, 0, 0, []), (56, .goto (-44), 12, 0, 0, []), (59, .aload_n 0, 0, 0, 0, []), (60, .aload_n 1, 0, 0, 0, []), (61, .aload_n 1, 0, 0, 0, []), (62, .getfield 82, 4, 2, 0, [846]), (65, .invokestatic 217, 52, 1, 0, [342, 343]), (68, .invokevirtual 197, 158, 2, 1, [341, 234, 235]), (71, .pop, 0, 0, 0, []), (72, .aload_n 1, 0, 0, 0, []), (73, .invokevirtual 109, 37, 0, 4, [282, 283, 284]), (76, .return_, 0, 0, 0, [])], 2, 44)
set_option maxRecDepth 20000 in
/-- 51: Duties_putToFlight -/
def zm_Duties_putToFlight : zM := (⟨"Siegelines$Duties", "putToFlight", "(LSiegelines$Siege;II)V"⟩, prog_3_method_20_code, 8, none, [], [(0, .aload_n 0, 0, 0, 0, []), (1, .iload_n 1, 0, 0, 0, []), (2, .iload_n 2, 0, 0, 0, []), (3, .invokestatic 220, 53, 3, 0, [348, 349]), (6, .istore_n 3, 0, 0, 0, []), (7, .aload_n 0, 0, 0, 0, []), (8, .getfield 147, 1, 2, 0, [929]), (11, .astore 4, 0, 0, 0, []), (13, .aload 4, 0, 0, 0, []), (15, .arraylength, 0, 0, 0, []), (16, .istore 5, 0, 0, 0, []), (18, .iconst 0, 0, 0, 0, []), (19, .istore 6, 0, 0, 0, []), (21, .iload 6, 0, 0, 0, []), (23, .iload 5, 0, 0, 0, []), (25, .if_icmp .ge 98, 123, 0, 0, []), (28, .aload 4, 0, 0, 0, []), (30, .iload 6, 0, 0, 0, []), (32, .aaload, 0, 0, 0, []), (33, .astore 7, 0, 0, 0, []), (35, .aload 7, 0, 0, 0, []), (37, .iload_n 1, 0, 0, 0, []), (38, .iload_n 2, 0, 0, 0, []), (39, .invokevirtual 172, 33, 2, 4, [329, 230, 231]), (42, .ifCond .ne 6, 48, 0, 0, []), (45, .goto 72, 117, 0, 0, []), (48, .aload_n 0, 0, 0, 0, []), (49, .aload 7, 0, 0, 0, []), (51, .aload 7, 0, 0, 0, []), (53, .getfield 82, 4, 2, 0, [846]), (56, .invokestatic 217, 52, 1, 0, [342, 343]), (59, .invokevirtual 197, 158, 2, 1, [341, 234, 235]), (62, .pop, 0, 0, 0, []), (63, .aload 7, 0, 0, 0, []), (65, .getfield 82, 4, 2, 0, [846]), (68, .ifCond .ne 6, 74, 0, 0, []), (71, .goto 46, 117, 0, 0, []), (74, .iload_n 3, 0, 0, 0, []), (75, .iconst (-1), 0, 0, 0, []), (76, .if_icmp .ne 17, 93, 0, 0, []), (79, .aload_n 0, 0, 0, 0, []), (80, .aload 7, 0, 0, 0, []), (82, .aload 7, 0, 0, 0, []), (84, .getfield 82, 4, 2, 0, [846]), (87, .iconst 2, 0, 0, 0, []), (88, .idiv, 0, 0, 0, []), (89, .invokevirtual 197, 158, 2, 1, [341, 234, 235]), (92, .pop, 0, 0, 0, []), (93, .aload 7, 0, 0, 0, []), (95, .iload_n 3, 0, 0, 0, []), (96, .iconst (-1), 0, 0, 0, []), (97, .if_icmp .ne 11, 108, 0, 0, []), (100, .aload_n 0, 0, 0, 0, []), (101, .iload_n 1, 0, 0, 0, []), (102, .invokevirtual 223, 138, 1, 1, [351, 352, 353]), (105, .goto 4, 109, 0, 0, []), (108, .iload_n 3, 0, 0, 0, []), (109, .putfield 71, 4, 1, 0, [840]), (112, .aload 7, 0, 0, 0, []), (114, .invokevirtual 109, 37, 0, 4, [282, 283, 284]), (117, .iinc 6 1, 0, 0, 0, []), (120, .goto (-99), 21, 0, 0, []), (123, .return_, 0, 0, 0, [])], 3, 75)
set_option maxRecDepth 20000 in
/-- 52: Duties_quarterOf -/
def zm_Duties_quarterOf : zM := (⟨"Siegelines$Duties", "quarterOf", "(I)I"⟩, prog_3_method_19_code, 1, some (.int), [], [(0, .iload_n 0, 0, 0, 0, []), (1, .bipush 8, 0, 0, 0, []), (3, .if_icmp .ge 7, 10, 0, 0, []), (6, .iconst 1, 0, 0, 0, []), (7, .goto 6, 13, 0, 0, []), (10, .iload_n 0, 0, 0, 0, []), (11, .iconst 4, 0, 0, 0, []), (12, .idiv, 0, 0, 0, []), (13, .ireturn, 0, 0, 0, [])], 0, 0)
set_option maxRecDepth 20000 in
/-- 53: Duties_refugeFrom -/
def zm_Duties_refugeFrom : zM := (⟨"Siegelines$Duties", "refugeFrom", "(LSiegelines$Siege;II)I"⟩, prog_3_method_21_code, 8, some (.int), [], [(0, .getstatic 112, 0, 0, 0, [310]), (3, .astore_n 3, 0, 0, 0, []), (4, .aload_n 3, 0, 0, 0, []), (5, .arraylength, 0, 0, 0, []), (6, .istore 4, 0, 0, 0, []), (8, .iconst 0, 0, 0, 0, []), (9, .istore 5, 0, 0, 0, []), (11, .iload 5, 0, 0, 0, []), (13, .iload 4, 0, 0, 0, []), (15, .if_icmp .ge 61, 76, 0, 0, []), (18, .aload_n 3, 0, 0, 0, []), (19, .iload 5, 0, 0, 0, []), (21, .iaload, 0, 0, 0, []), (22, .istore 6, 0, 0, 0, []), (24, .aload_n 0, 0, 0, 0, []), (25, .getfield 36, 1, 0, 0, [918]), (28, .iload_n 2, 0, 0, 0, []), (29, .iload 6, 0, 0, 0, []), (31, .invokevirtual 115, 71, 2, 2, [306, 307, 308]), (34, .istore 7, 0, 0, 0, []), (36, .iload 7, 0, 0, 0, []), (38, .iconst (-1), 0, 0, 0, []), (39, .if_icmp .eq 31, 70, 0, 0, []), (42, .aload_n 0, 0, 0, 0, []), (43, .getfield 36, 1, 0, 0, [918]), (46, .iload 7, 0, 0, 0, []), (48, .invokevirtual 144, 58, 1, 2, [299, 300, 301]), (51, .iload_n 1, 0, 0, 0, []), (52, .if_icmp .ne 18, 70, 0, 0, []), (55, .aload_n 0, 0, 0, 0, []), (56, .iconst 1, 0, 0, 0, []), (57, .iload_n 1, 0, 0, 0, []), (58, .isub, 0, 0, 0, []), (59, .iload 7, 0, 0, 0, []), (61, .invokevirtual 58, 142, 2, 1, [271, 243, 244]), (64, .ifCond .ne 6, 70, 0, 0, []), (67, .iload 7, 0, 0, 0, []), (69, .ireturn, 0, 0, 0, []), (70, .iinc 5 1, 0, 0, 0, []), (73, .goto (-62), 11, 0, 0, []), (76, .iconst (-1), 0, 0, 0, []), (77, .ireturn, 0, 0, 0, [])], 2, 48)
set_option maxRecDepth 20000 in
/-- 54: Duties_stepTo -/
def zm_Duties_stepTo : zM := (⟨"Siegelines$Duties", "stepTo", "(LSiegelines$Siege;LSiegelines$Company;I)I"⟩, prog_3_method_10_code, 11, some (.int), [], [(0, .aload_n 0, 0, 0, 0, []), (1, .getfield 36, 1, 0, 0, [918]), (4, .astore_n 3, 0, 0, 0, []), (5, .aload_n 3, 0, 0, 0, []), (6, .iload_n 2, 0, 0, 0, []), (7, .invokevirtual 64, 67, 1, 2, [262, 168, 169]), (10, .ifCond .ne 5, 15, 0, 0, []), (13, .iconst (-1), 0, 0, 0, []), (14, .ireturn, 0, 0, 0, []), (15, .aload_n 0, 0, 0, 0, []), (16, .aload_n 1, 0, 0, 0, []), (17, .getfield 68, 4, 0, 0, [834]), (20, .iload_n 2, 0, 0, 0, []), (21, .invokestatic 133, 41, 3, 0, [296, 297]), (24, .aload_n 3, 0, 0, 0, []), (25, .getfield 130, 2, 7, 0, [629]), (28, .iload_n 2, 0, 0, 0, []), (29, .iaload, 0, 0, 0, []), (30, .bipush (-2), 0, 0, 0, []), (32, .if_icmp .ne 5, 37, 0, 0, []), (35, .iconst (-1), 0, 0, 0, []), (36, .ireturn, 0, 0, 0, []), (37, .aload_n 3, 0, 0, 0, []), (38, .iload_n 2, 0, 0, 0, []), (39, .invokestatic 137, 48, 2, 0, [303, 304]), (42, .iconst (-1), 0, 0, 0, []), (43, .istore 4, 0, 0, 0, []), (45, .sipush 144, 0, 0, 0, []), (48, .istore 5, 0, 0, 0, []), (50, .getstatic 112, 0, 0, 0, [310]), (53, .astore 6, 0, 0, 0, []), (55, .aload 6, 0, 0, 0, []), (57, .arraylength, 0, 0, 0, []), (58, .istore 7, 0, 0, 0, []), (60, .iconst 0, 0, 0, 0, []), (61, .istore 8, 0, 0, 0, []), (63, .iload 8, 0, 0, 0, []), (65, .iload 7, 0, 0, 0, []), (67, .if_icmp .ge 72, 139, 0, 0, []), (70, .aload 6, 0, 0, 0, []), (72, .iload 8, 0, 0, 0, []), (74, .iaload, 0, 0, 0, []), (75, .istore 9, 0, 0, 0, []), (77, .aload_n 3, 0, 0, 0, []), (78, .aload_n 1, 0, 0, 0, []), (79, .getfield 71, 4, 1, 0, [840]), (82, .iload 9, 0, 0, 0, []), (84, .invokevirtual 115, 71, 2, 2, [306, 307, 308]), (87, .istore 10, 0, 0, 0, []), (89, .aload_n 3, 0, 0, 0, []), (90, .iload 10, 0, 0, 0, []), (92, .invokevirtual 64, 67, 1, 2, [262, 168, 169]), (95, .ifCond .eq 38, 133, 0, 0, []), (98, .aload_n 3, 0, 0, 0, []), (99, .getfield 130, 2, 7, 0, [629]), (102, .iload 10, 0, 0, 0, []), (104, .iaload, 0, 0, 0, []), (105, .ifCond .lt 28, 133, 0, 0, []), (108, .aload_n 3, 0, 0, 0, []), (109, .getfield 130, 2, 7, 0, [629]), (112, .iload 10, 0, 0, 0, []), (114, .iaload, 0, 0, 0, []), (115, .iload 5, 0, 0, 0, []), (117, .if_icmp .ge 16, 133, 0, 0, []), (120, .iload 10, 0, 0, 0, []), (122, .istore 4, 0, 0, 0, []), (124, .aload_n 3, 0, 0, 0, []), (125, .getfield 130, 2, 7, 0, [629]), (128, .iload 10, 0, 0, 0, []), (130, .iaload, 0, 0, 0, []), (131, .istore 5, 0, 0, 0, []), (133, .iinc 8 1, 0, 0, 0, []), (136, .goto (-73), 63, 0, 0, []), (139, .iload 4, 0, 0, 0, []), (141, .ireturn, 0, 0, 0, [])], 2, 49)
set_option maxRecDepth 20000 in
/-- 55: Duties_toilNeeded -/
def zm_Duties_toilNeeded : zM := (⟨"Siegelines$Duties", "toilNeeded", "(I)I"⟩, prog_3_method_4_code, 1, some (.int), [], [(0, .iload_n 0, 0, 0, 0, []), (1, .tableswitch 36 0 2 #[27, 30, 33], 0, 37, 27, [28, 31, 34]), (28, .bipush 20, 0, 0, 0, []), (30, .ireturn, 0, 0, 0, []), (31, .bipush 30, 0, 0, 0, []), (33, .ireturn, 0, 0, 0, []), (34, .bipush 24, 0, 0, 0, []), (36, .ireturn, 0, 0, 0, []), (37, .bipush 60, 0, 0, 0, []), (39, .ireturn, 0, 0, 0, [])], 0, 0)
set_option maxRecDepth 20000 in
/-- 56: Ground_new -/
def zm_Ground_new : zM := (⟨"Siegelines$Ground", "<init>", "()V"⟩, prog_4_method_1_code, 1, none, [], [(0, .aload_n 0, 0, 0, 0, []), (1, .invokespecial 3, 0, 0, 1000, [610]), (4, .aload_n 0, 0, 0, 0, []), (5, .sipush 144, 0, 0, 0, []), (8, .newarray .int, 100, 0, 0, [679]), (10, .putfield 9, 2, 0, 0, [611]), (13, .aload_n 0, 0, 0, 0, []), (14, .sipush 144, 0, 0, 0, []), (17, .newarray .int, 100, 0, 0, [679]), (19, .putfield 15, 2, 1, 0, [615]), (22, .aload_n 0, 0, 0, 0, []), (23, .sipush 144, 0, 0, 0, []), (26, .newarray .int, 100, 0, 0, [679]), (28, .putfield 18, 2, 2, 0, [617]), (31, .aload_n 0, 0, 0, 0, []), (32, .sipush 144, 0, 0, 0, []), (35, .newarray .int, 100, 0, 0, [679]), (37, .putfield 21, 2, 3, 0, [621]), (40, .aload_n 0, 0, 0, 0, []), (41, .sipush 144, 0, 0, 0, []), (44, .newarray .int, 100, 0, 0, [679]), (46, .putfield 24, 2, 4, 0, [624]), (49, .aload_n 0, 0, 0, 0, []), (50, .sipush 144, 0, 0, 0, []), (53, .newarray .int, 100, 0, 0, [679]), (55, .putfield 27, 2, 5, 0, [626]), (58, .aload_n 0, 0, 0, 0, []), (59, .sipush 144, 0, 0, 0, []), (62, .newarray .int, 100, 0, 0, [679]), (64, .putfield 30, 2, 6, 0, [627]), (67, .aload_n 0, 0, 0, 0, []), (68, .sipush 144, 0, 0, 0, []), (71, .newarray .int, 100, 0, 0, [679]), (73, .putfield 33, 2, 7, 0, [628]), (76, .aload_n 0, 0, 0, 0, []), (77, .sipush 144, 0, 0, 0, []), (80, .newarray .int, 100, 0, 0, [679]), (82, .putfield 36, 2, 8, 0, [630]), (85, .aload_n 0, 0, 0, 0, []), (86, .iconst (-1), 0, 0, 0, []), (87, .putfield 39, 2, 12, 0, [642]), (90, .aload_n 0, 0, 0, 0, []), (91, .iconst (-1), 0, 0, 0, []), (92, .putfield 43, 2, 13, 0, [646]), (95, .return_, 0, 0, 0, [])], 1, 20)
set_option maxRecDepth 20000 in
/-- 57: Ground_alongLine -/
def zm_Ground_alongLine : zM := (⟨"Siegelines$Ground", "alongLine", "(III)I"⟩, prog_4_method_24_code, 3, some (.int), [], [(0, .iload_n 1, 0, 0, 0, []), (1, .ifCond .le 19, 20, 0, 0, []), (4, .iconst 2, 0, 0, 0, []), (5, .iload_n 2, 0, 0, 0, []), (6, .imul, 0, 0, 0, []), (7, .iload_n 0, 0, 0, 0, []), (8, .imul, 0, 0, 0, []), (9, .iload_n 1, 0, 0, 0, []), (10, .iadd, 0, 0, 0, []), (11, .iconst 2, 0, 0, 0, []), (12, .iload_n 1, 0, 0, 0, []), (13, .imul, 0, 0, 0, []), (14, .invokestatic 101, 170, 2, 0, [189, 190]), (17, .goto 4, 21, 0, 0, []), (20, .iconst 0, 0, 0, 0, []), (21, .ireturn, 0, 0, 0, [])], 1, 22)
set_option maxRecDepth 20000 in
/-- 58: Ground_belongsTo -/
def zm_Ground_belongsTo : zM := (⟨"Siegelines$Ground", "belongsTo", "(I)I"⟩, prog_4_method_16_code, 3, some (.int), [], [(0, .iload_n 1, 0, 0, 0, []), (1, .ifCond .lt 18, 19, 0, 0, []), (4, .iload_n 1, 0, 0, 0, []), (5, .aload_n 0, 0, 0, 0, []), (6, .getfield 52, 2, 11, 0, [636]), (9, .if_icmp .ge 10, 19, 0, 0, []), (12, .iload_n 1, 0, 0, 0, []), (13, .sipush 144, 0, 0, 0, []), (16, .if_icmp .lt 5, 21, 0, 0, []), (19, .iconst (-1), 0, 0, 0, []), (20, .ireturn, 0, 0, 0, []), (21, .aload_n 0, 0, 0, 0, []), (22, .getfield 18, 2, 2, 0, [617]), (25, .iload_n 1, 0, 0, 0, []), (26, .iaload, 0, 0, 0, []), (27, .istore_n 2, 0, 0, 0, []), (28, .iload_n 2, 0, 0, 0, []), (29, .iconst 1, 0, 0, 0, []), (30, .if_icmp .eq 21, 51, 0, 0, []), (33, .iload_n 2, 0, 0, 0, []), (34, .iconst 3, 0, 0, 0, []), (35, .if_icmp .eq 16, 51, 0, 0, []), (38, .iload_n 2, 0, 0, 0, []), (39, .iconst 4, 0, 0, 0, []), (40, .if_icmp .eq 11, 51, 0, 0, []), (43, .iload_n 1, 0, 0, 0, []), (44, .aload_n 0, 0, 0, 0, []), (45, .getfield 43, 2, 13, 0, [646]), (48, .if_icmp .ne 5, 53, 0, 0, []), (51, .iconst 1, 0, 0, 0, []), (52, .ireturn, 0, 0, 0, []), (53, .iload_n 2, 0, 0, 0, []), (54, .iconst 5, 0, 0, 0, []), (55, .if_icmp .eq 11, 66, 0, 0, []), (58, .iload_n 1, 0, 0, 0, []), (59, .aload_n 0, 0, 0, 0, []), (60, .getfield 39, 2, 12, 0, [642]), (63, .if_icmp .ne 7, 70, 0, 0, []), (66, .iconst 0, 0, 0, 0, []), (67, .goto 4, 71, 0, 0, []), (70, .iconst (-1), 0, 0, 0, []), (71, .ireturn, 0, 0, 0, [])], 0, 0)
set_option maxRecDepth 20000 in
/-- 59: Ground_bodyOf -/
def zm_Ground_bodyOf : zM := (⟨"Siegelines$Ground", "bodyOf", "(I)I"⟩, prog_4_method_22_code, 2, some (.int), [], [(0, .aload_n 0, 0, 0, 0, []), (1, .iload_n 1, 0, 0, 0, []), (2, .invokevirtual 95, 78, 1, 2, [177, 178, 179]), (5, .aload_n 0, 0, 0, 0, []), (6, .iload_n 1, 0, 0, 0, []), (7, .invokevirtual 98, 60, 1, 2, [181, 183, 1]), (10, .iadd, 0, 0, 0, []), (11, .ireturn, 0, 0, 0, [])], 1, 22)
set_option maxRecDepth 20000 in
/-- 60: Ground_bodyOverTop -/
def zm_Ground_bodyOverTop : zM := (⟨"Siegelines$Ground", "bodyOverTop", "(I)I"⟩, prog_4_method_23_code, 2, some (.int), [], [(0, .iload_n 1, 0, 0, 0, []), (1, .ifCond .lt 33, 34, 0, 0, []), (4, .iload_n 1, 0, 0, 0, []), (5, .aload_n 0, 0, 0, 0, []), (6, .getfield 52, 2, 11, 0, [636]), (9, .if_icmp .ge 25, 34, 0, 0, []), (12, .iload_n 1, 0, 0, 0, []), (13, .sipush 144, 0, 0, 0, []), (16, .if_icmp .ge 18, 34, 0, 0, []), (19, .aload_n 0, 0, 0, 0, []), (20, .getfield 18, 2, 2, 0, [617]), (23, .iload_n 1, 0, 0, 0, []), (24, .iaload, 0, 0, 0, []), (25, .iconst 5, 0, 0, 0, []), (26, .if_icmp .ne 8, 34, 0, 0, []), (29, .bipush (-2), 0, 0, 0, []), (31, .goto 4, 35, 0, 0, []), (34, .iconst 1, 0, 0, 0, []), (35, .ireturn, 0, 0, 0, [])], 0, 0)
set_option maxRecDepth 20000 in
/-- 61: Ground_countOf -/
def zm_Ground_countOf : zM := (⟨"Siegelines$Ground", "countOf", "(I)I"⟩, prog_4_method_15_code, 4, some (.int), [], [(0, .iconst 0, 0, 0, 0, []), (1, .istore_n 2, 0, 0, 0, []), (2, .iconst 0, 0, 0, 0, []), (3, .istore_n 3, 0, 0, 0, []), (4, .iload_n 3, 0, 0, 0, []), (5, .aload_n 0, 0, 0, 0, []), (6, .getfield 52, 2, 11, 0, [636]), (9, .if_icmp .ge 29, 38, 0, 0, []), (12, .iload_n 3, 0, 0, 0, []), (13, .sipush 144, 0, 0, 0, []), (16, .if_icmp .ge 22, 38, 0, 0, []), (19, .aload_n 0, 0, 0, 0, []), (20, .getfield 18, 2, 2, 0, [617]), (23, .iload_n 3, 0, 0, 0, []), (24, .iaload, 0, 0, 0, []), (25, .iload_n 1, 0, 0, 0, []), (26, .if_icmp .ne 6, 32, 0, 0, []), (29, .iinc 2 1, 0, 0, 0, []), (32, .iinc 3 1, 0, 0, 0, []), (35, .goto (-31), 4, 0, 0, []), (38, .iload_n 2, 0, 0, 0, []), (39, .ireturn, 0, 0, 0, [])], 0, 0)
set_option maxRecDepth 20000 in
/-- 62: Ground_digDitch -/
def zm_Ground_digDitch : zM := (⟨"Siegelines$Ground", "digDitch", "()V"⟩, prog_4_method_6_code, 2, none, [], [(0, .iconst 0, 0, 0, 0, []), (1, .istore_n 1, 0, 0, 0, []), (2, .iload_n 1, 0, 0, 0, []), (3, .aload_n 0, 0, 0, 0, []), (4, .getfield 52, 2, 11, 0, [636]), (7, .if_icmp .ge 48, 55, 0, 0, []), (10, .iload_n 1, 0, 0, 0, []), (11, .sipush 144, 0, 0, 0, []), (14, .if_icmp .ge 41, 55, 0, 0, []), (17, .aload_n 0, 0, 0, 0, []), (18, .getfield 18, 2, 2, 0, [617]), (21, .iload_n 1, 0, 0, 0, []), (22, .iaload, 0, 0, 0, []), (23, .ifCond .ne 26, 49, 0, 0, []), (26, .aload_n 0, 0, 0, 0, []), (27, .iload_n 1, 0, 0, 0, []), (28, .iconst 1, 0, 0, 0, []), (29, .invokevirtual 75, 80, 2, 2, [1054, 485, 486]), (32, .ifCond .eq 17, 49, 0, 0, []), (35, .aload_n 0, 0, 0, 0, []), (36, .iload_n 1, 0, 0, 0, []), (37, .iconst 0, 0, 0, 0, []), (38, .aload_n 0, 0, 0, 0, []), (39, .getfield 15, 2, 1, 0, [615]), (42, .iload_n 1, 0, 0, 0, []), (43, .iaload, 0, 0, 0, []), (44, .iconst 2, 0, 0, 0, []), (45, .iconst 0, 0, 0, 0, []), (46, .invokevirtual 62, 74, 5, 2, [1045, 360, 361]), (49, .iinc 1 1, 0, 0, 0, []), (52, .goto (-50), 2, 0, 0, []), (55, .return_, 0, 0, 0, [])], 3, 66)
set_option maxRecDepth 20000 in
/-- 63: Ground_far -/
def zm_Ground_far : zM := (⟨"Siegelines$Ground", "far", "(II)I"⟩, prog_4_method_17_code, 5, some (.int), [], [(0, .aload_n 0, 0, 0, 0, []), (1, .iload_n 1, 0, 0, 0, []), (2, .invokevirtual 79, 67, 1, 2, [167, 168, 169]), (5, .ifCond .eq 11, 16, 0, 0, []), (8, .aload_n 0, 0, 0, 0, []), (9, .iload_n 2, 0, 0, 0, []), (10, .invokevirtual 79, 67, 1, 2, [167, 168, 169]), (13, .ifCond .ne 7, 20, 0, 0, []), (16, .sipush 144, 0, 0, 0, []), (19, .ireturn, 0, 0, 0, []), (20, .aload_n 0, 0, 0, 0, []), (21, .getfield 27, 2, 5, 0, [626]), (24, .iload_n 1, 0, 0, 0, []), (25, .iaload, 0, 0, 0, []), (26, .aload_n 0, 0, 0, 0, []), (27, .getfield 27, 2, 5, 0, [626]), (30, .iload_n 2, 0, 0, 0, []), (31, .iaload, 0, 0, 0, []), (32, .isub, 0, 0, 0, []), (33, .invokestatic 83, 169, 1, 0, [171, 172]), (36, .istore_n 3, 0, 0, 0, []), (37, .aload_n 0, 0, 0, 0, []), (38, .getfield 30, 2, 6, 0, [627]), (41, .iload_n 1, 0, 0, 0, []), (42, .iaload, 0, 0, 0, []), (43, .aload_n 0, 0, 0, 0, []), (44, .getfield 30, 2, 6, 0, [627]), (47, .iload_n 2, 0, 0, 0, []), (48, .iaload, 0, 0, 0, []), (49, .isub, 0, 0, 0, []), (50, .invokestatic 83, 169, 1, 0, [171, 172]), (53, .istore 4, 0, 0, 0, []), (55, .iload_n 3, 0, 0, 0, []), (56, .iload 4, 0, 0, 0, []), (58, .if_icmp .le 7, 65, 0, 0, []), (61, .iload_n 3, 0, 0, 0, []), (62, .goto 5, 67, 0, 0, []), (65, .iload 4, 0, 0, 0, []), (67, .ireturn, 0, 0, 0, [])], 1, 21)
set_option maxRecDepth 20000 in
/-- 64: Ground_firmOf -/
def zm_Ground_firmOf : zM := (⟨"Siegelines$Ground", "firmOf", "(I)I"⟩, prog_4_method_13_code, 2, some (.int), [], [(0, .aload_n 0, 0, 0, 0, []), (1, .iload_n 1, 0, 0, 0, []), (2, .invokevirtual 79, 67, 1, 2, [167, 168, 169]), (5, .ifCond .eq 22, 27, 0, 0, []), (8, .aload_n 0, 0, 0, 0, []), (9, .getfield 18, 2, 2, 0, [617]), (12, .iload_n 1, 0, 0, 0, []), (13, .iaload, 0, 0, 0, []), (14, .iconst 1, 0, 0, 0, []), (15, .if_icmp .ne 12, 27, 0, 0, []), (18, .aload_n 0, 0, 0, 0, []), (19, .getfield 21, 2, 3, 0, [621]), (22, .iload_n 1, 0, 0, 0, []), (23, .iaload, 0, 0, 0, []), (24, .goto 4, 28, 0, 0, []), (27, .iconst 0, 0, 0, 0, []), (28, .ireturn, 0, 0, 0, [])], 1, 21)
set_option maxRecDepth 20000 in
/-- 65: Ground_heightOf -/
def zm_Ground_heightOf : zM := (⟨"Siegelines$Ground", "heightOf", "(I)I"⟩, prog_4_method_10_code, 2, some (.int), [], [(0, .aload_n 0, 0, 0, 0, []), (1, .iload_n 1, 0, 0, 0, []), (2, .invokevirtual 79, 67, 1, 2, [167, 168, 169]), (5, .ifCond .eq 12, 17, 0, 0, []), (8, .aload_n 0, 0, 0, 0, []), (9, .getfield 9, 2, 0, 0, [611]), (12, .iload_n 1, 0, 0, 0, []), (13, .iaload, 0, 0, 0, []), (14, .goto 4, 18, 0, 0, []), (17, .iconst 0, 0, 0, 0, []), (18, .ireturn, 0, 0, 0, [])], 1, 21)
set_option maxRecDepth 20000 in
/-- 66: Ground_isNear -/
def zm_Ground_isNear : zM := (⟨"Siegelines$Ground", "isNear", "(III)Z"⟩, prog_4_method_27_code, 5, some (.boolean), [], [(0, .iconst 0, 0, 0, 0, []), (1, .istore 4, 0, 0, 0, []), (3, .iload 4, 0, 0, 0, []), (5, .aload_n 0, 0, 0, 0, []), (6, .getfield 52, 2, 11, 0, [636]), (9, .if_icmp .ge 41, 50, 0, 0, []), (12, .iload 4, 0, 0, 0, []), (14, .sipush 144, 0, 0, 0, []), (17, .if_icmp .ge 33, 50, 0, 0, []), (20, .aload_n 0, 0, 0, 0, []), (21, .getfield 18, 2, 2, 0, [617]), (24, .iload 4, 0, 0, 0, []), (26, .iaload, 0, 0, 0, []), (27, .iload_n 2, 0, 0, 0, []), (28, .if_icmp .ne 16, 44, 0, 0, []), (31, .aload_n 0, 0, 0, 0, []), (32, .iload_n 1, 0, 0, 0, []), (33, .iload 4, 0, 0, 0, []), (35, .invokevirtual 115, 63, 2, 2, [493, 193, 194]), (38, .iload_n 3, 0, 0, 0, []), (39, .if_icmp .gt 5, 44, 0, 0, []), (42, .iconst 1, 0, 0, 0, []), (43, .ireturn, 0, 0, 0, []), (44, .iinc 4 1, 0, 0, 0, []), (47, .goto (-44), 3, 0, 0, []), (50, .iconst 0, 0, 0, 0, []), (51, .ireturn, 0, 0, 0, [])], 2, 45)
set_option maxRecDepth 20000 in
/-- 67: Ground_isOn -/
def zm_Ground_isOn : zM := (⟨"Siegelines$Ground", "isOn", "(I)Z"⟩, prog_4_method_9_code, 2, some (.boolean), [], [(0, .iload_n 1, 0, 0, 0, []), (1, .ifCond .lt 22, 23, 0, 0, []), (4, .iload_n 1, 0, 0, 0, []), (5, .aload_n 0, 0, 0, 0, []), (6, .getfield 52, 2, 11, 0, [636]), (9, .if_icmp .ge 14, 23, 0, 0, []), (12, .iload_n 1, 0, 0, 0, []), (13, .sipush 144, 0, 0, 0, []), (16, .if_icmp .ge 7, 23, 0, 0, []), (19, .iconst 1, 0, 0, 0, []), (20, .goto 4, 24, 0, 0, []), (23, .iconst 0, 0, 0, 0, []), (24, .ireturn, 0, 0, 0, [])], 0, 0)
set_option maxRecDepth 20000 in
/-- 68: Ground_isRaked -/
def zm_Ground_isRaked : zM := (⟨"Siegelines$Ground", "isRaked", "(III)Z"⟩, prog_4_method_26_code, 9, some (.boolean), [], [(0, .iload_n 1, 0, 0, 0, []), (1, .iload_n 2, 0, 0, 0, []), (2, .if_icmp .eq 39, 41, 0, 0, []), (5, .aload_n 0, 0, 0, 0, []), (6, .iload_n 1, 0, 0, 0, []), (7, .invokevirtual 79, 67, 1, 2, [167, 168, 169]), (10, .ifCond .eq 31, 41, 0, 0, []), (13, .aload_n 0, 0, 0, 0, []), (14, .iload_n 2, 0, 0, 0, []), (15, .invokevirtual 79, 67, 1, 2, [167, 168, 169]), (18, .ifCond .eq 23, 41, 0, 0, []), (21, .aload_n 0, 0, 0, 0, []), (22, .getfield 18, 2, 2, 0, [617]), (25, .iload_n 2, 0, 0, 0, []), (26, .iaload, 0, 0, 0, []), (27, .iconst 5, 0, 0, 0, []), (28, .if_icmp .ne 13, 41, 0, 0, []), (31, .aload_n 0, 0, 0, 0, []), (32, .iload_n 1, 0, 0, 0, []), (33, .iload_n 2, 0, 0, 0, []), (34, .iload_n 3, 0, 0, 0, []), (35, .invokevirtual 111, 69, 3, 2, [227, 164, 165]), (38, .ifCond .ne 5, 43, 0, 0, []), (41, .iconst 0, 0, 0, 0, []), (42, .ireturn, 0, 0, 0, []), (43, .aload_n 0, 0, 0, 0, []), (44, .getfield 27, 2, 5, 0, [626]), (47, .iload_n 2, 0, 0, 0, []), (48, .iaload, 0, 0, 0, []), (49, .aload_n 0, 0, 0, 0, []), (50, .getfield 27, 2, 5, 0, [626]), (53, .iload_n 1, 0, 0, 0, []), (54, .iaload, 0, 0, 0, []), (55, .isub, 0, 0, 0, []), (56, .istore 4, 0, 0, 0, []), (58, .aload_n 0, 0, 0, 0, []), (59, .getfield 30, 2, 6, 0, [627]), (62, .iload_n 2, 0, 0, 0, []), (63, .iaload, 0, 0, 0, []), (64, .aload_n 0, 0, 0, 0, []), (65, .getfield 30, 2, 6, 0, [627]), (68, .iload_n 1, 0, 0, 0, []), (69, .iaload, 0, 0, 0, []), (70, .isub, 0, 0, 0, []), (71, .istore 5, 0, 0, 0, []), (73, .iload 4, 0, 0, 0, []), (75, .invokestatic 83, 169, 1, 0, [171, 172]), (78, .iload 5, 0, 0, 0, []), (80, .invokestatic 83, 169, 1, 0, [171, 172]), (83, .invokestatic 104, 171, 2, 0, [174, 175]), (86, .istore 6, 0, 0, 0, []), (88, .aload_n 0, 0, 0, 0, []), (89, .getfield 27, 2, 5, 0, [626]), (92, .iload_n 1, 0, 0, 0, []), (93, .iaload, 0, 0, 0, []), (94, .iload 4, 0, 0, 0, []), (96, .iload 6, 0, 0, 0, []), (98, .iload 6, 0, 0, 0, []), (100, .iconst 1, 0, 0, 0, []), (101, .iadd, 0, 0, 0, []), (102, .invokestatic 107, 57, 3, 0, [186, 187]), (105, .iadd, 0, 0, 0, []), (106, .istore 7, 0, 0, 0, []), (108, .aload_n 0, 0, 0, 0, []), (109, .getfield 30, 2, 6, 0, [627]), (112, .iload_n 1, 0, 0, 0, []), (113, .iaload, 0, 0, 0, []), (114, .iload 5, 0, 0, 0, []), (116, .iload 6, 0, 0, 0, []), (118, .iload 6, 0, 0, 0, []), (120, .iconst 1, 0, 0, 0, []), (121, .iadd, 0, 0, 0, []), (122, .invokestatic 107, 57, 3, 0, [186, 187]), (125, .iadd, 0, 0, 0, []), (126, .istore 8, 0, 0, 0, []), (128, .iload 7, 0, 0, 0, []), (130, .ifCond .lt 48, 178, 0, 0, []), (133, .iload 7, 0, 0, 0, []), (135, .aload_n 0, 0, 0, 0, []), (136, .getfield 46, 2, 9, 0, [632]), (139, .if_icmp .ge 39, 178, 0, 0, []), (142, .iload 8, 0, 0, 0, []), (144, .ifCond .lt 34, 178, 0, 0, []), (147, .iload 8, 0, 0, 0, []), (149, .aload_n 0, 0, 0, 0, []), (150, .getfield 49, 2, 10, 0, [634]), (153, .if_icmp .ge 25, 178, 0, 0, []), (156, .aload_n 0, 0, 0, 0, []), (157, .iload 8, 0, 0, 0, []), (159, .aload_n 0, 0, 0, 0, []), (160, .getfield 46, 2, 9, 0, [632]), (163, .imul, 0, 0, 0, []), (164, .iload 7, 0, 0, 0, []), (166, .iadd, 0, 0, 0, []), (167, .invokevirtual 92, 81, 1, 2, [228, 220, 221]), (170, .iconst 5, 0, 0, 0, []), (171, .if_icmp .ne 7, 178, 0, 0, []), (174, .iconst 1, 0, 0, 0, []), (175, .goto 4, 179, 0, 0, []), (178, .iconst 0, 0, 0, 0, []), (179, .ireturn, 0, 0, 0, [])], 3, 74)
set_option maxRecDepth 20000 in
/-- 69: Ground_isSeen -/
def zm_Ground_isSeen : zM := (⟨"Siegelines$Ground", "isSeen", "(III)Z"⟩, prog_4_method_25_code, 11, some (.boolean), [], [(0, .aload_n 0, 0, 0, 0, []), (1, .iload_n 1, 0, 0, 0, []), (2, .invokevirtual 79, 67, 1, 2, [167, 168, 169]), (5, .ifCond .eq 11, 16, 0, 0, []), (8, .aload_n 0, 0, 0, 0, []), (9, .iload_n 2, 0, 0, 0, []), (10, .invokevirtual 79, 67, 1, 2, [167, 168, 169]), (13, .ifCond .ne 5, 18, 0, 0, []), (16, .iconst 0, 0, 0, 0, []), (17, .ireturn, 0, 0, 0, []), (18, .aload_n 0, 0, 0, 0, []), (19, .getfield 27, 2, 5, 0, [626]), (22, .iload_n 2, 0, 0, 0, []), (23, .iaload, 0, 0, 0, []), (24, .aload_n 0, 0, 0, 0, []), (25, .getfield 27, 2, 5, 0, [626]), (28, .iload_n 1, 0, 0, 0, []), (29, .iaload, 0, 0, 0, []), (30, .isub, 0, 0, 0, []), (31, .istore 4, 0, 0, 0, []), (33, .aload_n 0, 0, 0, 0, []), (34, .getfield 30, 2, 6, 0, [627]), (37, .iload_n 2, 0, 0, 0, []), (38, .iaload, 0, 0, 0, []), (39, .aload_n 0, 0, 0, 0, []), (40, .getfield 30, 2, 6, 0, [627]), (43, .iload_n 1, 0, 0, 0, []), (44, .iaload, 0, 0, 0, []), (45, .isub, 0, 0, 0, []), (46, .istore 5, 0, 0, 0, []), (48, .iload 4, 0, 0, 0, []), (50, .invokestatic 83, 169, 1, 0, [171, 172]), (53, .iload 5, 0, 0, 0, []), (55, .invokestatic 83, 169, 1, 0, [171, 172]), (58, .invokestatic 104, 171, 2, 0, [174, 175]), (61, .istore 6, 0, 0, 0, []), (63, .iload 6, 0, 0, 0, []), (65, .iload_n 3, 0, 0, 0, []), (66, .if_icmp .le 5, 71, 0, 0, []), (69, .iconst 0, 0, 0, 0, []), (70, .ireturn, 0, 0, 0, []), (71, .aload_n 0, 0, 0, 0, []), (72, .iload_n 1, 0, 0, 0, []), (73, .invokevirtual 95, 78, 1, 2, [177, 178, 179]), (76, .iconst 2, 0, 0, 0, []), (77, .iadd, 0, 0, 0, []), (78, .istore 7, 0, 0, 0, []), (80, .aload_n 0, 0, 0, 0, []), (81, .iload_n 2, 0, 0, 0, []), (82, .invokevirtual 95, 78, 1, 2, [177, 178, 179]), (85, .aload_n 0, 0, 0, 0, []), (86, .iload_n 2, 0, 0, 0, []), (87, .invokevirtual 98, 60, 1, 2, [181, 183, 1]), (90, .iadd, 0, 0, 0, []), (91, .istore 8, 0, 0, 0, []), (93, .iconst 1, 0, 0, 0, []), (94, .istore 9, 0, 0, 0, []), (96, .iload 9, 0, 0, 0, []), (98, .iload 6, 0, 0, 0, []), (100, .if_icmp .ge 65, 165, 0, 0, []), (103, .iload_n 1, 0, 0, 0, []), (104, .iload 5, 0, 0, 0, []), (106, .iload 6, 0, 0, 0, []), (108, .iload 9, 0, 0, 0, []), (110, .invokestatic 107, 57, 3, 0, [186, 187]), (113, .aload_n 0, 0, 0, 0, []), (114, .getfield 46, 2, 9, 0, [632]), (117, .imul, 0, 0, 0, []), (118, .iadd, 0, 0, 0, []), (119, .iload 4, 0, 0, 0, []), (121, .iload 6, 0, 0, 0, []), (123, .iload 9, 0, 0, 0, []), (125, .invokestatic 107, 57, 3, 0, [186, 187]), (128, .iadd, 0, 0, 0, []), (129, .istore 10, 0, 0, 0, []), (131, .aload_n 0, 0, 0, 0, []), (132, .iload 10, 0, 0, 0, []), (134, .invokevirtual 95, 78, 1, 2, [177, 178, 179]), (137, .iload 6, 0, 0, 0, []), (139, .imul, 0, 0, 0, []), (140, .iload 7, 0, 0, 0, []), (142, .iload 6, 0, 0, 0, []), (144, .iload 9, 0, 0, 0, []), (146, .isub, 0, 0, 0, []), (147, .imul, 0, 0, 0, []), (148, .iload 8, 0, 0, 0, []), (150, .iload 9, 0, 0, 0, []), (152, .imul, 0, 0, 0, []), (153, .iadd, 0, 0, 0, []), (154, .if_icmp .le 5, 159, 0, 0, []), (157, .iconst 0, 0, 0, 0, []), (158, .ireturn, 0, 0, 0, []), (159, .iinc 9 1, 0, 0, 0, []), (162, .goto (-66), 96, 0, 0, []), (165, .iconst 1, 0, 0, 0, []), (166, .ireturn, 0, 0, 0, [])], 2, 44)
set_option maxRecDepth 20000 in
/-- 70: Ground_layOut -/
def zm_Ground_layOut : zM := (⟨"Siegelines$Ground", "layOut", "(III)V"⟩, prog_4_method_3_code, 8, none, [], [(0, .aload_n 0, 0, 0, 0, []), (1, .iload_n 1, 0, 0, 0, []), (2, .putfield 46, 2, 9, 0, [632]), (5, .aload_n 0, 0, 0, 0, []), (6, .iload_n 2, 0, 0, 0, []), (7, .putfield 49, 2, 10, 0, [634]), (10, .aload_n 0, 0, 0, 0, []), (11, .iload_n 1, 0, 0, 0, []), (12, .iload_n 2, 0, 0, 0, []), (13, .imul, 0, 0, 0, []), (14, .putfield 52, 2, 11, 0, [636]), (17, .iload_n 3, 0, 0, 0, []), (18, .istore 4, 0, 0, 0, []), (20, .iconst 0, 0, 0, 0, []), (21, .istore 5, 0, 0, 0, []), (23, .iload 5, 0, 0, 0, []), (25, .aload_n 0, 0, 0, 0, []), (26, .getfield 52, 2, 11, 0, [636]), (29, .if_icmp .ge 121, 150, 0, 0, []), (32, .iload 5, 0, 0, 0, []), (34, .sipush 144, 0, 0, 0, []), (37, .if_icmp .ge 113, 150, 0, 0, []), (40, .aload_n 0, 0, 0, 0, []), (41, .getfield 27, 2, 5, 0, [626]), (44, .iload 5, 0, 0, 0, []), (46, .aload_n 0, 0, 0, 0, []), (47, .getfield 46, 2, 9, 0, [632]), (50, .ifCond .le 13, 63, 0, 0, []), (53, .iload 5, 0, 0, 0, []), (55, .aload_n 0, 0, 0, 0, []), (56, .getfield 46, 2, 9, 0, [632]), (59, .irem, 0, 0, 0, []), (60, .goto 4, 64, 0, 0, []), (63, .iconst 0, 0, 0, 0, []), (64, .iastore, 0, 0, 0, []), (65, .aload_n 0, 0, 0, 0, []), (66, .getfield 30, 2, 6, 0, [627]), (69, .iload 5, 0, 0, 0, []), (71, .aload_n 0, 0, 0, 0, []), (72, .getfield 46, 2, 9, 0, [632]), (75, .ifCond .le 13, 88, 0, 0, []), (78, .iload 5, 0, 0, 0, []), (80, .aload_n 0, 0, 0, 0, []), (81, .getfield 46, 2, 9, 0, [632]), (84, .idiv, 0, 0, 0, []), (85, .goto 4, 89, 0, 0, []), (88, .iconst 0, 0, 0, 0, []), (89, .iastore, 0, 0, 0, []), (90, .iconst 0, 0, 0, 0, []), (91, .istore 6, 0, 0, 0, []), (93, .iconst 0, 0, 0, 0, []), (94, .istore 7, 0, 0, 0, []), (96, .iload_n 3, 0, 0, 0, []), (97, .bipush 100, 0, 0, 0, []), (99, .if_icmp .ge 33, 132, 0, 0, []), (102, .iload 4, 0, 0, 0, []), (104, .invokestatic 55, 17, 1, 0, [1039, 1040]), (107, .istore 4, 0, 0, 0, []), (109, .iload 4, 0, 0, 0, []), (111, .iconst 3, 0, 0, 0, []), (112, .irem, 0, 0, 0, []), (113, .istore 6, 0, 0, 0, []), (115, .iload 4, 0, 0, 0, []), (117, .invokestatic 55, 17, 1, 0, [1039, 1040]), (120, .istore 4, 0, 0, 0, []), (122, .iload 4, 0, 0, 0, []), (124, .bipush 10, 0, 0, 0, []), (126, .irem, 0, 0, 0, []), (127, .invokestatic 59, 75, 1, 0, [1042, 1043]), (130, .istore 7, 0, 0, 0, []), (132, .aload_n 0, 0, 0, 0, []), (133, .iload 5, 0, 0, 0, []), (135, .iload 6, 0, 0, 0, []), (137, .iload 7, 0, 0, 0, []), (139, .iconst 0, 0, 0, 0, []), (140, .iconst 0, 0, 0, 0, []), (141, .invokevirtual 62, 74, 5, 2, [1045, 360, 361]), (144, .iinc 5 1, 0, 0, 0, []), (147, .goto (-124), 23, 0, 0, []), (150, .aload_n 0, 0, 0, 0, []), (151, .iconst 0, 0, 0, 0, []), (152, .putfield 39, 2, 12, 0, [642]), (155, .aload_n 0, 0, 0, 0, []), (156, .aload_n 0, 0, 0, 0, []), (157, .getfield 52, 2, 11, 0, [636]), (160, .iconst 1, 0, 0, 0, []), (161, .isub, 0, 0, 0, []), (162, .putfield 43, 2, 13, 0, [646]), (165, .iload_n 3, 0, 0, 0, []), (166, .bipush 100, 0, 0, 0, []), (168, .if_icmp .ge 15, 183, 0, 0, []), (171, .aload_n 0, 0, 0, 0, []), (172, .invokevirtual 66, 73, 0, 2, [1046, 1048, 15]), (175, .aload_n 0, 0, 0, 0, []), (176, .invokevirtual 69, 62, 0, 2, [1050, 1052, 16]), (179, .aload_n 0, 0, 0, 0, []), (180, .invokevirtual 72, 72, 0, 2, [1055, 1057, 17]), (183, .return_, 0, 0, 0, [])], 4, 87)
set_option maxRecDepth 20000 in
/-- 71: Ground_next -/
def zm_Ground_next : zM := (⟨"Siegelines$Ground", "next", "(II)I"⟩, prog_4_method_20_code, 3, some (.int), [], [(0, .iload_n 1, 0, 0, 0, []), (1, .ifCond .lt 18, 19, 0, 0, []), (4, .iload_n 1, 0, 0, 0, []), (5, .aload_n 0, 0, 0, 0, []), (6, .getfield 52, 2, 11, 0, [636]), (9, .if_icmp .ge 10, 19, 0, 0, []), (12, .iload_n 1, 0, 0, 0, []), (13, .sipush 144, 0, 0, 0, []), (16, .if_icmp .lt 5, 21, 0, 0, []), (19, .iconst (-1), 0, 0, 0, []), (20, .ireturn, 0, 0, 0, []), (21, .iload_n 2, 0, 0, 0, []), (22, .tableswitch 95 0 2 #[26, 46, 69], 0, 117, 26, [48, 68, 91]), (48, .aload_n 0, 0, 0, 0, []), (49, .getfield 30, 2, 6, 0, [627]), (52, .iload_n 1, 0, 0, 0, []), (53, .iaload, 0, 0, 0, []), (54, .ifCond .le 12, 66, 0, 0, []), (57, .iload_n 1, 0, 0, 0, []), (58, .aload_n 0, 0, 0, 0, []), (59, .getfield 46, 2, 9, 0, [632]), (62, .isub, 0, 0, 0, []), (63, .goto 4, 67, 0, 0, []), (66, .iconst (-1), 0, 0, 0, []), (67, .ireturn, 0, 0, 0, []), (68, .aload_n 0, 0, 0, 0, []), (69, .getfield 27, 2, 5, 0, [626]), (72, .iload_n 1, 0, 0, 0, []), (73, .iaload, 0, 0, 0, []), (74, .aload_n 0, 0, 0, 0, []), (75, .getfield 46, 2, 9, 0, [632]), (78, .iconst 1, 0, 0, 0, []), (79, .isub, 0, 0, 0, []), (80, .if_icmp .ge 9, 89, 0, 0, []), (83, .iload_n 1, 0, 0, 0, []), (84, .iconst 1, 0, 0, 0, []), (85, .iadd, 0, 0, 0, []), (86, .goto 4, 90, 0, 0, []), (89, .iconst (-1), 0, 0, 0, []), (90, .ireturn, 0, 0, 0, []), (91, .aload_n 0, 0, 0, 0, []), (92, .getfield 30, 2, 6, 0, [627]), (95, .iload_n 1, 0, 0, 0, []), (96, .iaload, 0, 0, 0, []), (97, .aload_n 0, 0, 0, 0, []), (98, .getfield 49, 2, 10, 0, [634]), (101, .iconst 1, 0, 0, 0, []), (102, .isub, 0, 0, 0, []), (103, .if_icmp .ge 12, 115, 0, 0, []), (106, .iload_n 1, 0, 0, 0, []), (107, .aload_n 0, 0, 0, 0, []), (108, .getfield 46, 2, 9, 0, [632]), (111, .iadd, 0, 0, 0, []), (112, .goto 4, 116, 0, 0, []), (115, .iconst (-1), 0, 0, 0, []), (116, .ireturn, 0, 0, 0, []), (117, .aload_n 0, 0, 0, 0, []), (118, .getfield 27, 2, 5, 0, [626]), (121, .iload_n 1, 0, 0, 0, []), (122, .iaload, 0, 0, 0, []), (123, .ifCond .le 9, 132, 0, 0, []), (126, .iload_n 1, 0, 0, 0, []), (127, .iconst 1, 0, 0, 0, []), (128, .isub, 0, 0, 0, []), (129, .goto 4, 133, 0, 0, []), (132, .iconst (-1), 0, 0, 0, []), (133, .ireturn, 0, 0, 0, [])], 0, 0)
set_option maxRecDepth 20000 in
/-- 72: Ground_openGate -/
def zm_Ground_openGate : zM := (⟨"Siegelines$Ground", "openGate", "()V"⟩, prog_4_method_7_code, 1, none, [], [(0, .aload_n 0, 0, 0, 0, []), (1, .getfield 46, 2, 9, 0, [632]), (4, .bipush 6, 0, 0, 0, []), (6, .if_icmp .le 29, 35, 0, 0, []), (9, .aload_n 0, 0, 0, 0, []), (10, .getfield 49, 2, 10, 0, [634]), (13, .bipush 6, 0, 0, 0, []), (15, .if_icmp .le 20, 35, 0, 0, []), (18, .aload_n 0, 0, 0, 0, []), (19, .bipush 6, 0, 0, 0, []), (21, .aload_n 0, 0, 0, 0, []), (22, .getfield 46, 2, 9, 0, [632]), (25, .imul, 0, 0, 0, []), (26, .bipush 6, 0, 0, 0, []), (28, .iadd, 0, 0, 0, []), (29, .putfield 43, 2, 13, 0, [646]), (32, .goto 42, 74, 0, 0, []), (35, .aload_n 0, 0, 0, 0, []), (36, .aload_n 0, 0, 0, 0, []), (37, .getfield 43, 2, 13, 0, [646]), (40, .invokevirtual 79, 67, 1, 2, [167, 168, 169]), (43, .ifCond .eq 31, 74, 0, 0, []), (46, .aload_n 0, 0, 0, 0, []), (47, .aload_n 0, 0, 0, 0, []), (48, .getfield 43, 2, 13, 0, [646]), (51, .aload_n 0, 0, 0, 0, []), (52, .getfield 9, 2, 0, 0, [611]), (55, .aload_n 0, 0, 0, 0, []), (56, .getfield 43, 2, 13, 0, [646]), (59, .iaload, 0, 0, 0, []), (60, .aload_n 0, 0, 0, 0, []), (61, .getfield 15, 2, 1, 0, [615]), (64, .aload_n 0, 0, 0, 0, []), (65, .getfield 43, 2, 13, 0, [646]), (68, .iaload, 0, 0, 0, []), (69, .iconst 0, 0, 0, 0, []), (70, .iconst 0, 0, 0, 0, []), (71, .invokevirtual 62, 74, 5, 2, [1045, 360, 361]), (74, .return_, 0, 0, 0, [])], 2, 46)
set_option maxRecDepth 20000 in
/-- 73: Ground_raiseFort -/
def zm_Ground_raiseFort : zM := (⟨"Siegelines$Ground", "raiseFort", "()V"⟩, prog_4_method_5_code, 5, none, [], [(0, .iconst 0, 0, 0, 0, []), (1, .istore_n 1, 0, 0, 0, []), (2, .iload_n 1, 0, 0, 0, []), (3, .aload_n 0, 0, 0, 0, []), (4, .getfield 52, 2, 11, 0, [636]), (7, .if_icmp .ge 117, 124, 0, 0, []), (10, .iload_n 1, 0, 0, 0, []), (11, .sipush 144, 0, 0, 0, []), (14, .if_icmp .ge 110, 124, 0, 0, []), (17, .aload_n 0, 0, 0, 0, []), (18, .getfield 27, 2, 5, 0, [626]), (21, .iload_n 1, 0, 0, 0, []), (22, .iaload, 0, 0, 0, []), (23, .istore_n 2, 0, 0, 0, []), (24, .aload_n 0, 0, 0, 0, []), (25, .getfield 30, 2, 6, 0, [627]), (28, .iload_n 1, 0, 0, 0, []), (29, .iaload, 0, 0, 0, []), (30, .istore_n 3, 0, 0, 0, []), (31, .iload_n 2, 0, 0, 0, []), (32, .iconst 4, 0, 0, 0, []), (33, .if_icmp .lt 85, 118, 0, 0, []), (36, .iload_n 2, 0, 0, 0, []), (37, .bipush 8, 0, 0, 0, []), (39, .if_icmp .gt 79, 118, 0, 0, []), (42, .iload_n 3, 0, 0, 0, []), (43, .iconst 4, 0, 0, 0, []), (44, .if_icmp .lt 74, 118, 0, 0, []), (47, .iload_n 3, 0, 0, 0, []), (48, .bipush 8, 0, 0, 0, []), (50, .if_icmp .le 6, 56, 0, 0, []), (53, .goto 65, 118, 0, 0, []), (56, .iload_n 2, 0, 0, 0, []), (57, .iconst 4, 0, 0, 0, []), (58, .if_icmp .le 24, 82, 0, 0, []), (61, .iload_n 2, 0, 0, 0, []), (62, .bipush 8, 0, 0, 0, []), (64, .if_icmp .ge 18, 82, 0, 0, []), (67, .iload_n 3, 0, 0, 0, []), (68, .iconst 4, 0, 0, 0, []), (69, .if_icmp .le 13, 82, 0, 0, []), (72, .iload_n 3, 0, 0, 0, []), (73, .bipush 8, 0, 0, 0, []), (75, .if_icmp .ge 7, 82, 0, 0, []), (78, .iconst 1, 0, 0, 0, []), (79, .goto 4, 83, 0, 0, []), (82, .iconst 0, 0, 0, 0, []), (83, .istore 4, 0, 0, 0, []), (85, .aload_n 0, 0, 0, 0, []), (86, .iload_n 1, 0, 0, 0, []), (87, .iload 4, 0, 0, 0, []), (89, .ifCond .eq 7, 96, 0, 0, []), (92, .iconst 3, 0, 0, 0, []), (93, .goto 4, 97, 0, 0, []), (96, .iconst 4, 0, 0, 0, []), (97, .aload_n 0, 0, 0, 0, []), (98, .getfield 15, 2, 1, 0, [615]), (101, .iload_n 1, 0, 0, 0, []), (102, .iaload, 0, 0, 0, []), (103, .iload 4, 0, 0, 0, []), (105, .ifCond .eq 7, 112, 0, 0, []), (108, .iconst 3, 0, 0, 0, []), (109, .goto 4, 113, 0, 0, []), (112, .iconst 1, 0, 0, 0, []), (113, .bipush 40, 0, 0, 0, []), (115, .invokevirtual 62, 74, 5, 2, [1045, 360, 361]), (118, .iinc 1 1, 0, 0, 0, []), (121, .goto (-119), 2, 0, 0, []), (124, .return_, 0, 0, 0, [])], 2, 46)
set_option maxRecDepth 20000 in
/-- 74: Ground_shape -/
def zm_Ground_shape : zM := (⟨"Siegelines$Ground", "shape", "(IIIII)V"⟩, prog_4_method_8_code, 6, none, [], [(0, .aload_n 0, 0, 0, 0, []), (1, .iload_n 1, 0, 0, 0, []), (2, .invokevirtual 79, 67, 1, 2, [167, 168, 169]), (5, .ifCond .eq 50, 55, 0, 0, []), (8, .aload_n 0, 0, 0, 0, []), (9, .getfield 9, 2, 0, 0, [611]), (12, .iload_n 1, 0, 0, 0, []), (13, .iload_n 2, 0, 0, 0, []), (14, .iastore, 0, 0, 0, []), (15, .aload_n 0, 0, 0, 0, []), (16, .getfield 15, 2, 1, 0, [615]), (19, .iload_n 1, 0, 0, 0, []), (20, .iload_n 3, 0, 0, 0, []), (21, .iastore, 0, 0, 0, []), (22, .aload_n 0, 0, 0, 0, []), (23, .getfield 18, 2, 2, 0, [617]), (26, .iload_n 1, 0, 0, 0, []), (27, .iload 4, 0, 0, 0, []), (29, .iastore, 0, 0, 0, []), (30, .aload_n 0, 0, 0, 0, []), (31, .getfield 21, 2, 3, 0, [621]), (34, .iload_n 1, 0, 0, 0, []), (35, .iload 4, 0, 0, 0, []), (37, .iconst 1, 0, 0, 0, []), (38, .if_icmp .ne 8, 46, 0, 0, []), (41, .iload 5, 0, 0, 0, []), (43, .goto 4, 47, 0, 0, []), (46, .iconst 0, 0, 0, 0, []), (47, .iastore, 0, 0, 0, []), (48, .aload_n 0, 0, 0, 0, []), (49, .getfield 24, 2, 4, 0, [624]), (52, .iload_n 1, 0, 0, 0, []), (53, .iconst 0, 0, 0, 0, []), (54, .iastore, 0, 0, 0, []), (55, .return_, 0, 0, 0, [])], 1, 21)
set_option maxRecDepth 20000 in
/-- 75: Ground_soilBy -/
def zm_Ground_soilBy : zM := (⟨"Siegelines$Ground", "soilBy", "(I)I"⟩, prog_4_method_4_code, 1, some (.int), [], [(0, .iload_n 0, 0, 0, 0, []), (1, .bipush 6, 0, 0, 0, []), (3, .if_icmp .ge 5, 8, 0, 0, []), (6, .iconst 0, 0, 0, 0, []), (7, .ireturn, 0, 0, 0, []), (8, .iload_n 0, 0, 0, 0, []), (9, .bipush 8, 0, 0, 0, []), (11, .if_icmp .ge 7, 18, 0, 0, []), (14, .iconst 1, 0, 0, 0, []), (15, .goto 14, 29, 0, 0, []), (18, .iload_n 0, 0, 0, 0, []), (19, .bipush 8, 0, 0, 0, []), (21, .if_icmp .ne 7, 28, 0, 0, []), (24, .iconst 2, 0, 0, 0, []), (25, .goto 4, 29, 0, 0, []), (28, .iconst 3, 0, 0, 0, []), (29, .ireturn, 0, 0, 0, [])], 0, 0)
set_option maxRecDepth 20000 in
/-- 76: Ground_soilOf -/
def zm_Ground_soilOf : zM := (⟨"Siegelines$Ground", "soilOf", "(I)I"⟩, prog_4_method_11_code, 2, some (.int), [], [(0, .aload_n 0, 0, 0, 0, []), (1, .iload_n 1, 0, 0, 0, []), (2, .invokevirtual 79, 67, 1, 2, [167, 168, 169]), (5, .ifCond .eq 12, 17, 0, 0, []), (8, .aload_n 0, 0, 0, 0, []), (9, .getfield 15, 2, 1, 0, [615]), (12, .iload_n 1, 0, 0, 0, []), (13, .iaload, 0, 0, 0, []), (14, .goto 4, 18, 0, 0, []), (17, .iconst (-1), 0, 0, 0, []), (18, .ireturn, 0, 0, 0, [])], 1, 21)
set_option maxRecDepth 20000 in
/-- 77: Ground_toilOf -/
def zm_Ground_toilOf : zM := (⟨"Siegelines$Ground", "toilOf", "(I)I"⟩, prog_4_method_14_code, 2, some (.int), [], [(0, .aload_n 0, 0, 0, 0, []), (1, .iload_n 1, 0, 0, 0, []), (2, .invokevirtual 79, 67, 1, 2, [167, 168, 169]), (5, .ifCond .eq 12, 17, 0, 0, []), (8, .aload_n 0, 0, 0, 0, []), (9, .getfield 24, 2, 4, 0, [624]), (12, .iload_n 1, 0, 0, 0, []), (13, .iaload, 0, 0, 0, []), (14, .goto 4, 18, 0, 0, []), (17, .iconst 0, 0, 0, 0, []), (18, .ireturn, 0, 0, 0, [])], 1, 21)
set_option maxRecDepth 20000 in
/-- 78: Ground_topOf -/
def zm_Ground_topOf : zM := (⟨"Siegelines$Ground", "topOf", "(I)I"⟩, prog_4_method_21_code, 3, some (.int), [], [(0, .iload_n 1, 0, 0, 0, []), (1, .ifCond .lt 18, 19, 0, 0, []), (4, .iload_n 1, 0, 0, 0, []), (5, .aload_n 0, 0, 0, 0, []), (6, .getfield 52, 2, 11, 0, [636]), (9, .if_icmp .ge 10, 19, 0, 0, []), (12, .iload_n 1, 0, 0, 0, []), (13, .sipush 144, 0, 0, 0, []), (16, .if_icmp .lt 5, 21, 0, 0, []), (19, .iconst 0, 0, 0, 0, []), (20, .ireturn, 0, 0, 0, []), (21, .iconst 2, 0, 0, 0, []), (22, .aload_n 0, 0, 0, 0, []), (23, .getfield 9, 2, 0, 0, [611]), (26, .iload_n 1, 0, 0, 0, []), (27, .iaload, 0, 0, 0, []), (28, .imul, 0, 0, 0, []), (29, .istore_n 2, 0, 0, 0, []), (30, .aload_n 0, 0, 0, 0, []), (31, .getfield 18, 2, 2, 0, [617]), (34, .iload_n 1, 0, 0, 0, []), (35, .iaload, 0, 0, 0, []), (36, .tableswitch 69 1 7 #[44, 61, 49, 57, 69, 53, 65], 0, 105, 44, [80, 97, 85, 93, 105, 89, 101]), (80, .iload_n 2, 0, 0, 0, []), (81, .bipush 6, 0, 0, 0, []), (83, .iadd, 0, 0, 0, []), (84, .ireturn, 0, 0, 0, []), (85, .iload_n 2, 0, 0, 0, []), (86, .iconst 4, 0, 0, 0, []), (87, .iadd, 0, 0, 0, []), (88, .ireturn, 0, 0, 0, []), (89, .iload_n 2, 0, 0, 0, []), (90, .iconst 2, 0, 0, 0, []), (91, .iadd, 0, 0, 0, []), (92, .ireturn, 0, 0, 0, []), (93, .iload_n 2, 0, 0, 0, []), (94, .iconst 2, 0, 0, 0, []), (95, .iadd, 0, 0, 0, []), (96, .ireturn, 0, 0, 0, []), (97, .iload_n 2, 0, 0, 0, []), (98, .iconst 4, 0, 0, 0, []), (99, .isub, 0, 0, 0, []), (100, .ireturn, 0, 0, 0, []), (101, .iload_n 2, 0, 0, 0, []), (102, .iconst 2, 0, 0, 0, []), (103, .isub, 0, 0, 0, []), (104, .ireturn, 0, 0, 0, []), (105, .iload_n 2, 0, 0, 0, []), (106, .ireturn, 0, 0, 0, [])], 0, 0)
set_option maxRecDepth 20000 in
/-- 79: Ground_touches -/
def zm_Ground_touches : zM := (⟨"Siegelines$Ground", "touches", "(II)Z"⟩, prog_4_method_18_code, 3, some (.boolean), [], [(0, .aload_n 0, 0, 0, 0, []), (1, .iload_n 1, 0, 0, 0, []), (2, .invokevirtual 79, 67, 1, 2, [167, 168, 169]), (5, .ifCond .eq 52, 57, 0, 0, []), (8, .aload_n 0, 0, 0, 0, []), (9, .iload_n 2, 0, 0, 0, []), (10, .invokevirtual 79, 67, 1, 2, [167, 168, 169]), (13, .ifCond .eq 44, 57, 0, 0, []), (16, .aload_n 0, 0, 0, 0, []), (17, .getfield 27, 2, 5, 0, [626]), (20, .iload_n 1, 0, 0, 0, []), (21, .iaload, 0, 0, 0, []), (22, .aload_n 0, 0, 0, 0, []), (23, .getfield 27, 2, 5, 0, [626]), (26, .iload_n 2, 0, 0, 0, []), (27, .iaload, 0, 0, 0, []), (28, .isub, 0, 0, 0, []), (29, .invokestatic 83, 169, 1, 0, [171, 172]), (32, .aload_n 0, 0, 0, 0, []), (33, .getfield 30, 2, 6, 0, [627]), (36, .iload_n 1, 0, 0, 0, []), (37, .iaload, 0, 0, 0, []), (38, .aload_n 0, 0, 0, 0, []), (39, .getfield 30, 2, 6, 0, [627]), (42, .iload_n 2, 0, 0, 0, []), (43, .iaload, 0, 0, 0, []), (44, .isub, 0, 0, 0, []), (45, .invokestatic 83, 169, 1, 0, [171, 172]), (48, .iadd, 0, 0, 0, []), (49, .iconst 1, 0, 0, 0, []), (50, .if_icmp .ne 7, 57, 0, 0, []), (53, .iconst 1, 0, 0, 0, []), (54, .goto 4, 58, 0, 0, []), (57, .iconst 0, 0, 0, 0, []), (58, .ireturn, 0, 0, 0, [])], 1, 21)
set_option maxRecDepth 20000 in
/-- 80: Ground_touchesWork -/
def zm_Ground_touchesWork : zM := (⟨"Siegelines$Ground", "touchesWork", "(II)Z"⟩, prog_4_method_19_code, 5, some (.boolean), [], [(0, .iconst 0, 0, 0, 0, []), (1, .istore_n 3, 0, 0, 0, []), (2, .iload_n 3, 0, 0, 0, []), (3, .iconst 4, 0, 0, 0, []), (4, .if_icmp .ge 35, 39, 0, 0, []), (7, .aload_n 0, 0, 0, 0, []), (8, .iload_n 1, 0, 0, 0, []), (9, .iload_n 3, 0, 0, 0, []), (10, .invokevirtual 88, 71, 2, 2, [488, 307, 308]), (13, .istore 4, 0, 0, 0, []), (15, .iload 4, 0, 0, 0, []), (17, .iconst (-1), 0, 0, 0, []), (18, .if_icmp .eq 15, 33, 0, 0, []), (21, .aload_n 0, 0, 0, 0, []), (22, .iload 4, 0, 0, 0, []), (24, .invokevirtual 92, 81, 1, 2, [228, 220, 221]), (27, .iload_n 2, 0, 0, 0, []), (28, .if_icmp .ne 5, 33, 0, 0, []), (31, .iconst 1, 0, 0, 0, []), (32, .ireturn, 0, 0, 0, []), (33, .iinc 3 1, 0, 0, 0, []), (36, .goto (-34), 2, 0, 0, []), (39, .iconst 0, 0, 0, 0, []), (40, .ireturn, 0, 0, 0, [])], 2, 42)
set_option maxRecDepth 20000 in
/-- 81: Ground_workOf -/
def zm_Ground_workOf : zM := (⟨"Siegelines$Ground", "workOf", "(I)I"⟩, prog_4_method_12_code, 2, some (.int), [], [(0, .aload_n 0, 0, 0, 0, []), (1, .iload_n 1, 0, 0, 0, []), (2, .invokevirtual 79, 67, 1, 2, [167, 168, 169]), (5, .ifCond .eq 12, 17, 0, 0, []), (8, .aload_n 0, 0, 0, 0, []), (9, .getfield 18, 2, 2, 0, [617]), (12, .iload_n 1, 0, 0, 0, []), (13, .iaload, 0, 0, 0, []), (14, .goto 4, 18, 0, 0, []), (17, .iconst (-1), 0, 0, 0, []), (18, .ireturn, 0, 0, 0, [])], 1, 21)
set_option maxRecDepth 20000 in
/-- 82: Gun_new -/
def zm_Gun_new : zM := (⟨"Siegelines$Gun", "<init>", "()V"⟩, prog_5_method_1_code, 1, none, [], [(0, .aload_n 0, 0, 0, 0, []), (1, .invokespecial 3, 0, 0, 1000, [787]), (4, .aload_n 0, 0, 0, 0, []), (5, .iconst (-1), 0, 0, 0, []), (6, .putfield 9, 3, 0, 0, [788]), (9, .aload_n 0, 0, 0, 0, []), (10, .iconst (-1), 0, 0, 0, []), (11, .putfield 15, 3, 1, 0, [791]), (14, .aload_n 0, 0, 0, 0, []), (15, .iconst 0, 0, 0, 0, []), (16, .putfield 18, 3, 5, 0, [803]), (19, .aload_n 0, 0, 0, 0, []), (20, .iconst (-1), 0, 0, 0, []), (21, .putfield 21, 3, 6, 0, [808]), (24, .return_, 0, 0, 0, [])], 1, 20)
set_option maxRecDepth 20000 in
/-- 83: Gun_isPlaced -/
def zm_Gun_isPlaced : zM := (⟨"Siegelines$Gun", "isPlaced", "()Z"⟩, prog_5_method_4_code, 1, some (.boolean), [], [(0, .aload_n 0, 0, 0, 0, []), (1, .getfield 9, 3, 0, 0, [788]), (4, .iconst (-1), 0, 0, 0, []), (5, .if_icmp .eq 7, 12, 0, 0, []), (8, .iconst 1, 0, 0, 0, []), (9, .goto 4, 13, 0, 0, []), (12, .iconst 0, 0, 0, 0, []), (13, .ireturn, 0, 0, 0, [])], 0, 0)
set_option maxRecDepth 20000 in
/-- 84: Gun_isReadyOf -/
def zm_Gun_isReadyOf : zM := (⟨"Siegelines$Gun", "isReadyOf", "(I)Z"⟩, prog_5_method_5_code, 2, some (.boolean), [], [(0, .aload_n 0, 0, 0, 0, []), (1, .getfield 9, 3, 0, 0, [788]), (4, .iload_n 1, 0, 0, 0, []), (5, .if_icmp .ne 14, 19, 0, 0, []), (8, .aload_n 0, 0, 0, 0, []), (9, .getfield 18, 3, 5, 0, [803]), (12, .ifCond .ne 7, 19, 0, 0, []), (15, .iconst 1, 0, 0, 0, []), (16, .goto 4, 20, 0, 0, []), (19, .iconst 0, 0, 0, 0, []), (20, .ireturn, 0, 0, 0, [])], 0, 0)
set_option maxRecDepth 20000 in
/-- 85: Gun_place -/
def zm_Gun_place : zM := (⟨"Siegelines$Gun", "place", "(III)V"⟩, prog_5_method_2_code, 4, none, [], [(0, .aload_n 0, 0, 0, 0, []), (1, .iload_n 1, 0, 0, 0, []), (2, .putfield 9, 3, 0, 0, [788]), (5, .aload_n 0, 0, 0, 0, []), (6, .iload_n 2, 0, 0, 0, []), (7, .putfield 15, 3, 1, 0, [791]), (10, .aload_n 0, 0, 0, 0, []), (11, .iload_n 3, 0, 0, 0, []), (12, .putfield 24, 3, 2, 0, [797]), (15, .return_, 0, 0, 0, [])], 0, 0)
set_option maxRecDepth 20000 in
/-- 86: Gunnery_bestTarget -/
def zm_Gunnery_bestTarget : zM := (⟨"Siegelines$Gunnery", "bestTarget", "(LSiegelines$Siege;LSiegelines$Gun;)I"⟩, prog_6_method_10_code, 6, some (.int), [], [(0, .iconst (-1), 0, 0, 0, []), (1, .istore_n 2, 0, 0, 0, []), (2, .iconst 0, 0, 0, 0, []), (3, .istore_n 3, 0, 0, 0, []), (4, .iconst 0, 0, 0, 0, []), (5, .istore 4, 0, 0, 0, []), (7, .iload 4, 0, 0, 0, []), (9, .aload_n 0, 0, 0, 0, []), (10, .getfield 15, 1, 0, 0, [915]), (13, .getfield 123, 2, 11, 0, [639]), (16, .if_icmp .ge 44, 60, 0, 0, []), (19, .aload_n 0, 0, 0, 0, []), (20, .aload_n 1, 0, 0, 0, []), (21, .iload 4, 0, 0, 0, []), (23, .invokestatic 48, 87, 3, 0, [152, 153]), (26, .ifCond .eq 13, 39, 0, 0, []), (29, .aload_n 0, 0, 0, 0, []), (30, .aload_n 1, 0, 0, 0, []), (31, .iload 4, 0, 0, 0, []), (33, .invokestatic 130, 91, 3, 0, [1358, 1359]), (36, .goto 4, 40, 0, 0, []), (39, .iconst 0, 0, 0, 0, []), (40, .istore 5, 0, 0, 0, []), (42, .iload 5, 0, 0, 0, []), (44, .iload_n 3, 0, 0, 0, []), (45, .if_icmp .le 9, 54, 0, 0, []), (48, .iload 5, 0, 0, 0, []), (50, .istore_n 3, 0, 0, 0, []), (51, .iload 4, 0, 0, 0, []), (53, .istore_n 2, 0, 0, 0, []), (54, .iinc 4 1, 0, 0, 0, []), (57, .goto (-50), 7, 0, 0, []), (60, .iload_n 2, 0, 0, 0, []), (61, .ireturn, 0, 0, 0, [])], 4, 97)
set_option maxRecDepth 20000 in
/-- 87: Gunnery_canReach -/
def zm_Gunnery_canReach : zM := (⟨"Siegelines$Gunnery", "canReach", "(LSiegelines$Siege;LSiegelines$Gun;I)Z"⟩, prog_6_method_2_code, 4, some (.boolean), [], [(0, .aload_n 1, 0, 0, 0, []), (1, .getfield 9, 3, 2, 0, [796]), (4, .iconst 3, 0, 0, 0, []), (5, .if_icmp .eq 20, 25, 0, 0, []), (8, .aload_n 0, 0, 0, 0, []), (9, .getfield 15, 1, 0, 0, [915]), (12, .aload_n 1, 0, 0, 0, []), (13, .getfield 21, 3, 1, 0, [792]), (16, .iload_n 2, 0, 0, 0, []), (17, .aload_n 0, 0, 0, 0, []), (18, .invokevirtual 24, 154, 0, 1, [155, 156, 157]), (21, .invokevirtual 28, 69, 3, 2, [163, 164, 165]), (24, .ireturn, 0, 0, 0, []), (25, .aload_n 0, 0, 0, 0, []), (26, .getfield 15, 1, 0, 0, [915]), (29, .aload_n 1, 0, 0, 0, []), (30, .getfield 21, 3, 1, 0, [792]), (33, .iload_n 2, 0, 0, 0, []), (34, .invokevirtual 34, 63, 2, 2, [192, 193, 194]), (37, .istore_n 3, 0, 0, 0, []), (38, .iload_n 3, 0, 0, 0, []), (39, .iconst 3, 0, 0, 0, []), (40, .if_icmp .lt 13, 53, 0, 0, []), (43, .iload_n 3, 0, 0, 0, []), (44, .bipush 8, 0, 0, 0, []), (46, .if_icmp .gt 7, 53, 0, 0, []), (49, .iconst 1, 0, 0, 0, []), (50, .goto 4, 54, 0, 0, []), (53, .iconst 0, 0, 0, 0, []), (54, .ireturn, 0, 0, 0, [])], 3, 74)
set_option maxRecDepth 20000 in
/-- 88: Gunnery_fire -/
def zm_Gunnery_fire : zM := (⟨"Siegelines$Gunnery", "fire", "(LSiegelines$Siege;LSiegelines$Gun;)I"⟩, prog_6_method_4_code, 4, some (.int), [], [(0, .aload_n 0, 0, 0, 0, []), (1, .aload_n 1, 0, 0, 0, []), (2, .invokestatic 69, 92, 2, 0, [145, 146]), (5, .istore_n 2, 0, 0, 0, []), (6, .iload_n 2, 0, 0, 0, []), (7, .iconst 1, 0, 0, 0, []), (8, .if_icmp .ge 26, 34, 0, 0, []), (11, .aload_n 1, 0, 0, 0, []), (12, .aload_n 1, 0, 0, 0, []), (13, .getfield 66, 3, 3, 0, [799]), (16, .ifCond .le 12, 28, 0, 0, []), (19, .aload_n 1, 0, 0, 0, []), (20, .getfield 66, 3, 3, 0, [799]), (23, .iconst 1, 0, 0, 0, []), (24, .isub, 0, 0, 0, []), (25, .goto 4, 29, 0, 0, []), (28, .iconst 0, 0, 0, 0, []), (29, .putfield 66, 3, 3, 0, [799]), (32, .iconst 0, 0, 0, 0, []), (33, .ireturn, 0, 0, 0, []), (34, .aload_n 0, 0, 0, 0, []), (35, .aload_n 1, 0, 0, 0, []), (36, .getfield 54, 3, 0, 0, [789]), (39, .invokevirtual 57, 150, 1, 1, [196, 197, 198]), (42, .astore_n 3, 0, 0, 0, []), (43, .aload_n 3, 0, 0, 0, []), (44, .iload_n 2, 0, 0, 0, []), (45, .aload_n 1, 0, 0, 0, []), (46, .getfield 9, 3, 2, 0, [796]), (49, .imul, 0, 0, 0, []), (50, .invokevirtual 73, 123, 1, 6, [200, 201, 202]), (53, .aload_n 3, 0, 0, 0, []), (54, .dup, 0, 0, 0, []), (55, .getfield 77, 6, 5, 0, [711]), (58, .iload_n 2, 0, 0, 0, []), (59, .iadd, 0, 0, 0, []), (60, .putfield 77, 6, 5, 0, [711]), (63, .aload_n 1, 0, 0, 0, []), (64, .aload_n 1, 0, 0, 0, []), (65, .getfield 66, 3, 3, 0, [799]), (68, .iconst 3, 0, 0, 0, []), (69, .if_icmp .ge 12, 81, 0, 0, []), (72, .aload_n 1, 0, 0, 0, []), (73, .getfield 66, 3, 3, 0, [799]), (76, .iconst 1, 0, 0, 0, []), (77, .iadd, 0, 0, 0, []), (78, .goto 4, 82, 0, 0, []), (81, .iconst 3, 0, 0, 0, []), (82, .putfield 66, 3, 3, 0, [799]), (85, .iload_n 2, 0, 0, 0, []), (86, .ireturn, 0, 0, 0, [])], 5, 120)
set_option maxRecDepth 20000 in
/-- 89: Gunnery_gunsSeeing -/
def zm_Gunnery_gunsSeeing : zM := (⟨"Siegelines$Gunnery", "gunsSeeing", "(LSiegelines$Siege;II)I"⟩, prog_6_method_7_code, 8, some (.int), [], [(0, .iconst 0, 0, 0, 0, []), (1, .istore_n 3, 0, 0, 0, []), (2, .aload_n 0, 0, 0, 0, []), (3, .getfield 84, 1, 1, 0, [921]), (6, .astore 4, 0, 0, 0, []), (8, .aload 4, 0, 0, 0, []), (10, .arraylength, 0, 0, 0, []), (11, .istore 5, 0, 0, 0, []), (13, .iconst 0, 0, 0, 0, []), (14, .istore 6, 0, 0, 0, []), (16, .iload 6, 0, 0, 0, []), (18, .iload 5, 0, 0, 0, []), (20, .if_icmp .ge 48, 68, 0, 0, []), (23, .aload 4, 0, 0, 0, []), (25, .iload 6, 0, 0, 0, []), (27, .aaload, 0, 0, 0, []), (28, .astore 7, 0, 0, 0, []), (30, .aload 7, 0, 0, 0, []), (32, .iload_n 1, 0, 0, 0, []), (33, .invokevirtual 119, 84, 1, 3, [278, 279, 280]), (36, .ifCond .eq 26, 62, 0, 0, []), (39, .aload_n 0, 0, 0, 0, []), (40, .getfield 15, 1, 0, 0, [915]), (43, .aload 7, 0, 0, 0, []), (45, .getfield 21, 3, 1, 0, [792]), (48, .iload_n 2, 0, 0, 0, []), (49, .aload_n 0, 0, 0, 0, []), (50, .invokevirtual 24, 154, 0, 1, [155, 156, 157]), (53, .invokevirtual 28, 69, 3, 2, [163, 164, 165]), (56, .ifCond .eq 6, 62, 0, 0, []), (59, .iinc 3 1, 0, 0, 0, []), (62, .iinc 6 1, 0, 0, 0, []), (65, .goto (-49), 16, 0, 0, []), (68, .iload_n 3, 0, 0, 0, []), (69, .ireturn, 0, 0, 0, [])], 3, 74)
set_option maxRecDepth 20000 in
/-- 90: Gunnery_lossBy -/
def zm_Gunnery_lossBy : zM := (⟨"Siegelines$Gunnery", "lossBy", "(LSiegelines$Siege;LSiegelines$Gun;I)I"⟩, prog_6_method_6_code, 4, some (.int), [], [(0, .aload_n 1, 0, 0, 0, []), (1, .getfield 9, 3, 2, 0, [796]), (4, .iconst 3, 0, 0, 0, []), (5, .if_icmp .ne 7, 12, 0, 0, []), (8, .iconst 1, 0, 0, 0, []), (9, .goto 4, 13, 0, 0, []), (12, .iconst 0, 0, 0, 0, []), (13, .istore_n 3, 0, 0, 0, []), (14, .aload_n 0, 0, 0, 0, []), (15, .getfield 15, 1, 0, 0, [915]), (18, .aload_n 1, 0, 0, 0, []), (19, .getfield 45, 3, 6, 0, [809]), (22, .invokevirtual 109, 81, 1, 2, [219, 220, 221]), (25, .tableswitch 81 1 5 #[69, 81, 69, 69, 35], 0, 106, 35, [94, 106, 94, 94, 60]), (60, .iload_n 3, 0, 0, 0, []), (61, .ifCond .ne 31, 92, 0, 0, []), (64, .aload_n 0, 0, 0, 0, []), (65, .getfield 15, 1, 0, 0, [915]), (68, .aload_n 1, 0, 0, 0, []), (69, .getfield 21, 3, 1, 0, [792]), (72, .aload_n 1, 0, 0, 0, []), (73, .getfield 45, 3, 6, 0, [809]), (76, .aload_n 0, 0, 0, 0, []), (77, .invokevirtual 24, 154, 0, 1, [155, 156, 157]), (80, .invokevirtual 116, 68, 3, 2, [223, 224, 225]), (83, .ifCond .eq 9, 92, 0, 0, []), (86, .iload_n 2, 0, 0, 0, []), (87, .iconst 2, 0, 0, 0, []), (88, .imul, 0, 0, 0, []), (89, .goto 4, 93, 0, 0, []), (92, .iload_n 2, 0, 0, 0, []), (93, .ireturn, 0, 0, 0, []), (94, .iload_n 3, 0, 0, 0, []), (95, .ifCond .eq 7, 102, 0, 0, []), (98, .iload_n 2, 0, 0, 0, []), (99, .goto 6, 105, 0, 0, []), (102, .iload_n 2, 0, 0, 0, []), (103, .iconst 2, 0, 0, 0, []), (104, .idiv, 0, 0, 0, []), (105, .ireturn, 0, 0, 0, []), (106, .iload_n 2, 0, 0, 0, []), (107, .iconst 3, 0, 0, 0, []), (108, .imul, 0, 0, 0, []), (109, .ireturn, 0, 0, 0, [])], 4, 102)
set_option maxRecDepth 20000 in
/-- 91: Gunnery_pointsOf -/
def zm_Gunnery_pointsOf : zM := (⟨"Siegelines$Gunnery", "pointsOf", "(LSiegelines$Siege;LSiegelines$Gun;I)I"⟩, prog_6_method_11_code, 9, some (.int), [], [(0, .iconst 1, 0, 0, 0, []), (1, .aload_n 1, 0, 0, 0, []), (2, .getfield 54, 3, 0, 0, [789]), (5, .isub, 0, 0, 0, []), (6, .istore_n 3, 0, 0, 0, []), (7, .aload_n 0, 0, 0, 0, []), (8, .iload_n 3, 0, 0, 0, []), (9, .iload_n 2, 0, 0, 0, []), (10, .invokevirtual 133, 146, 2, 1, [1361, 528, 529]), (13, .bipush 10, 0, 0, 0, []), (15, .idiv, 0, 0, 0, []), (16, .istore 4, 0, 0, 0, []), (18, .aload_n 1, 0, 0, 0, []), (19, .getfield 54, 3, 0, 0, [789]), (22, .ifCond .ne 27, 49, 0, 0, []), (25, .aload_n 0, 0, 0, 0, []), (26, .getfield 15, 1, 0, 0, [915]), (29, .iload_n 2, 0, 0, 0, []), (30, .invokevirtual 109, 81, 1, 2, [219, 220, 221]), (33, .iconst 1, 0, 0, 0, []), (34, .if_icmp .ne 15, 49, 0, 0, []), (37, .iload 4, 0, 0, 0, []), (39, .aload_n 1, 0, 0, 0, []), (40, .getfield 9, 3, 2, 0, [796]), (43, .bipush 10, 0, 0, 0, []), (45, .imul, 0, 0, 0, []), (46, .iadd, 0, 0, 0, []), (47, .istore 4, 0, 0, 0, []), (49, .aload_n 0, 0, 0, 0, []), (50, .getfield 84, 1, 1, 0, [921]), (53, .astore 5, 0, 0, 0, []), (55, .aload 5, 0, 0, 0, []), (57, .arraylength, 0, 0, 0, []), (58, .istore 6, 0, 0, 0, []), (60, .iconst 0, 0, 0, 0, []), (61, .istore 7, 0, 0, 0, []), (63, .iload 7, 0, 0, 0, []), (65, .iload 6, 0, 0, 0, []), (67, .if_icmp .ge 37, 104, 0, 0, []), (70, .aload 5, 0, 0, 0, []), (72, .iload 7, 0, 0, 0, []), (74, .aaload, 0, 0, 0, []), (75, .astore 8, 0, 0, 0, []), (77, .aload 8, 0, 0, 0, []), (79, .iload_n 3, 0, 0, 0, []), (80, .invokevirtual 119, 84, 1, 3, [278, 279, 280]), (83, .ifCond .eq 15, 98, 0, 0, []), (86, .aload 8, 0, 0, 0, []), (88, .getfield 21, 3, 1, 0, [792]), (91, .iload_n 2, 0, 0, 0, []), (92, .if_icmp .ne 6, 98, 0, 0, []), (95, .iinc 4 20, 0, 0, 0, []), (98, .iinc 7 1, 0, 0, 0, []), (101, .goto (-38), 63, 0, 0, []), (104, .iload 4, 0, 0, 0, []), (106, .ireturn, 0, 0, 0, [])], 2, 49)
set_option maxRecDepth 20000 in
/-- 92: Gunnery_shotsOf -/
def zm_Gunnery_shotsOf : zM := (⟨"Siegelines$Gunnery", "shotsOf", "(LSiegelines$Siege;LSiegelines$Gun;)I"⟩, prog_6_method_3_code, 4, some (.int), [], [(0, .aload_n 1, 0, 0, 0, []), (1, .invokevirtual 38, 83, 0, 3, [148, 149, 150]), (4, .ifCond .eq 38, 42, 0, 0, []), (7, .aload_n 1, 0, 0, 0, []), (8, .getfield 42, 3, 5, 0, [804]), (11, .ifCond .ne 31, 42, 0, 0, []), (14, .aload_n 1, 0, 0, 0, []), (15, .getfield 45, 3, 6, 0, [809]), (18, .iconst (-1), 0, 0, 0, []), (19, .if_icmp .eq 23, 42, 0, 0, []), (22, .aload_n 1, 0, 0, 0, []), (23, .getfield 9, 3, 2, 0, [796]), (26, .iconst 1, 0, 0, 0, []), (27, .if_icmp .lt 15, 42, 0, 0, []), (30, .aload_n 0, 0, 0, 0, []), (31, .aload_n 1, 0, 0, 0, []), (32, .aload_n 1, 0, 0, 0, []), (33, .getfield 45, 3, 6, 0, [809]), (36, .invokestatic 48, 87, 3, 0, [152, 153]), (39, .ifCond .ne 5, 44, 0, 0, []), (42, .iconst 0, 0, 0, 0, []), (43, .ireturn, 0, 0, 0, []), (44, .aload_n 0, 0, 0, 0, []), (45, .aload_n 1, 0, 0, 0, []), (46, .getfield 54, 3, 0, 0, [789]), (49, .invokevirtual 57, 150, 1, 1, [196, 197, 198]), (52, .getfield 61, 6, 0, 0, [693]), (55, .aload_n 1, 0, 0, 0, []), (56, .getfield 9, 3, 2, 0, [796]), (59, .idiv, 0, 0, 0, []), (60, .istore_n 2, 0, 0, 0, []), (61, .iconst 4, 0, 0, 0, []), (62, .aload_n 1, 0, 0, 0, []), (63, .getfield 66, 3, 3, 0, [799]), (66, .isub, 0, 0, 0, []), (67, .istore_n 3, 0, 0, 0, []), (68, .iload_n 3, 0, 0, 0, []), (69, .iload_n 2, 0, 0, 0, []), (70, .if_icmp .ge 7, 77, 0, 0, []), (73, .iload_n 3, 0, 0, 0, []), (74, .goto 4, 78, 0, 0, []), (77, .iload_n 2, 0, 0, 0, []), (78, .ireturn, 0, 0, 0, [])], 4, 97)
set_option maxRecDepth 20000 in
/-- 93: Gunnery_strike -/
def zm_Gunnery_strike : zM := (⟨"Siegelines$Gunnery", "strike", "(LSiegelines$Siege;LSiegelines$Gun;I)V"⟩, prog_6_method_5_code, 9, none, [], [(0, .iconst 1, 0, 0, 0, []), (1, .aload_n 1, 0, 0, 0, []), (2, .getfield 54, 3, 0, 0, [789]), (5, .isub, 0, 0, 0, []), (6, .istore_n 3, 0, 0, 0, []), (7, .aload_n 0, 0, 0, 0, []), (8, .aload_n 1, 0, 0, 0, []), (9, .getfield 45, 3, 6, 0, [809]), (12, .iload_n 2, 0, 0, 0, []), (13, .aload_n 1, 0, 0, 0, []), (14, .getfield 9, 3, 2, 0, [796]), (17, .imul, 0, 0, 0, []), (18, .invokevirtual 80, 128, 2, 1, [207, 208, 209]), (21, .aload_n 0, 0, 0, 0, []), (22, .getfield 84, 1, 1, 0, [921]), (25, .astore 4, 0, 0, 0, []), (27, .aload 4, 0, 0, 0, []), (29, .arraylength, 0, 0, 0, []), (30, .istore 5, 0, 0, 0, []), (32, .iconst 0, 0, 0, 0, []), (33, .istore 6, 0, 0, 0, []), (35, .iload 6, 0, 0, 0, []), (37, .iload 5, 0, 0, 0, []), (39, .if_icmp .ge 72, 111, 0, 0, []), (42, .aload 4, 0, 0, 0, []), (44, .iload 6, 0, 0, 0, []), (46, .aaload, 0, 0, 0, []), (47, .astore 7, 0, 0, 0, []), (49, .aload 7, 0, 0, 0, []), (51, .getfield 54, 3, 0, 0, [789]), (54, .iload_n 3, 0, 0, 0, []), (55, .if_icmp .ne 50, 105, 0, 0, []), (58, .aload 7, 0, 0, 0, []), (60, .getfield 21, 3, 1, 0, [792]), (63, .aload_n 1, 0, 0, 0, []), (64, .getfield 45, 3, 6, 0, [809]), (67, .if_icmp .ne 38, 105, 0, 0, []), (70, .aload 7, 0, 0, 0, []), (72, .dup, 0, 0, 0, []), (73, .getfield 88, 3, 4, 0, [801]), (76, .iload_n 2, 0, 0, 0, []), (77, .iadd, 0, 0, 0, []), (78, .putfield 88, 3, 4, 0, [801]), (81, .aload 7, 0, 0, 0, []), (83, .getfield 88, 3, 4, 0, [801]), (86, .bipush 10, 0, 0, 0, []), (88, .if_icmp .lt 17, 105, 0, 0, []), (91, .aload 7, 0, 0, 0, []), (93, .getfield 42, 3, 5, 0, [804]), (96, .ifCond .ne 9, 105, 0, 0, []), (99, .aload 7, 0, 0, 0, []), (101, .iconst 1, 0, 0, 0, []), (102, .putfield 42, 3, 5, 0, [804]), (105, .iinc 6 1, 0, 0, 0, []), (108, .goto (-73), 35, 0, 0, []), (111, .aload_n 0, 0, 0, 0, []), (112, .aload_n 1, 0, 0, 0, []), (113, .iload_n 2, 0, 0, 0, []), (114, .invokestatic 91, 90, 3, 0, [216, 217]), (117, .istore 4, 0, 0, 0, []), (119, .aload_n 0, 0, 0, 0, []), (120, .getfield 95, 1, 2, 0, [928]), (123, .astore 5, 0, 0, 0, []), (125, .aload 5, 0, 0, 0, []), (127, .arraylength, 0, 0, 0, []), (128, .istore 6, 0, 0, 0, []), (130, .iconst 0, 0, 0, 0, []), (131, .istore 7, 0, 0, 0, []), (133, .iload 7, 0, 0, 0, []), (135, .iload 6, 0, 0, 0, []), (137, .if_icmp .ge 38, 175, 0, 0, []), (140, .aload 5, 0, 0, 0, []), (142, .iload 7, 0, 0, 0, []), (144, .aaload, 0, 0, 0, []), (145, .astore 8, 0, 0, 0, []), (147, .aload 8, 0, 0, 0, []), (149, .iload_n 3, 0, 0, 0, []), (150, .aload_n 1, 0, 0, 0, []), (151, .getfield 45, 3, 6, 0, [809]), (154, .invokevirtual 99, 33, 2, 4, [229, 230, 231]), (157, .ifCond .eq 12, 169, 0, 0, []), (160, .aload_n 0, 0, 0, 0, []), (161, .aload 8, 0, 0, 0, []), (163, .iload 4, 0, 0, 0, []), (165, .invokevirtual 105, 158, 2, 1, [233, 234, 235]), (168, .pop, 0, 0, 0, []), (169, .iinc 7 1, 0, 0, 0, []), (172, .goto (-39), 133, 0, 0, []), (175, .aload_n 1, 0, 0, 0, []), (176, .getfield 9, 3, 2, 0, [796]), (179, .iconst 3, 0, 0, 0, []), (180, .if_icmp .ne 28, 208, 0, 0, []), (183, .aload_n 0, 0, 0, 0, []), (184, .getfield 15, 1, 0, 0, [915]), (187, .aload_n 1, 0, 0, 0, []), (188, .getfield 45, 3, 6, 0, [809]), (191, .invokevirtual 109, 81, 1, 2, [219, 220, 221]), (194, .iconst 3, 0, 0, 0, []), (195, .if_icmp .ne 13, 208, 0, 0, []), (198, .aload_n 0, 0, 0, 0, []), (199, .dup, 0, 0, 0, []), (200, .getfield 113, 1, 16, 0, [965]), (203, .iload_n 2, 0, 0, 0, []), (204, .iadd, 0, 0, 0, []), (205, .putfield 113, 1, 16, 0, [965]), (208, .return_, 0, 0, 0, [])], 5, 125)
set_option maxRecDepth 20000 in
/-- 94: Midnight_bringSupply -/
def zm_Midnight_bringSupply : zM := (⟨"Siegelines$Midnight", "bringSupply", "(LSiegelines$Siege;)V"⟩, prog_7_method_6_code, 1, none, [], [(0, .aload_n 0, 0, 0, 0, []), (1, .getfield 51, 1, 6, 0, [943]), (4, .getfield 116, 7, 6, 0, [766]), (7, .ifCond .eq 4, 11, 0, 0, []), (10, .return_, 0, 0, 0, []), (11, .aload_n 0, 0, 0, 0, []), (12, .getfield 119, 1, 4, 0, [936]), (15, .dup, 0, 0, 0, []), (16, .getfield 122, 6, 0, 0, [694]), (19, .aload_n 0, 0, 0, 0, []), (20, .getfield 125, 1, 15, 0, [963]), (23, .iadd, 0, 0, 0, []), (24, .putfield 122, 6, 0, 0, [694]), (27, .aload_n 0, 0, 0, 0, []), (28, .getfield 119, 1, 4, 0, [936]), (31, .dup, 0, 0, 0, []), (32, .getfield 128, 6, 10, 0, [723]), (35, .aload_n 0, 0, 0, 0, []), (36, .getfield 125, 1, 15, 0, [963]), (39, .iadd, 0, 0, 0, []), (40, .putfield 128, 6, 10, 0, [723]), (43, .aload_n 0, 0, 0, 0, []), (44, .getfield 119, 1, 4, 0, [936]), (47, .dup, 0, 0, 0, []), (48, .getfield 82, 6, 1, 0, [698]), (51, .aload_n 0, 0, 0, 0, []), (52, .getfield 125, 1, 15, 0, [963]), (55, .iadd, 0, 0, 0, []), (56, .putfield 82, 6, 1, 0, [698]), (59, .return_, 0, 0, 0, [])], 0, 0)
set_option maxRecDepth 20000 in
/-- 95: Midnight_come -/
def zm_Midnight_come : zM := (⟨"Siegelines$Midnight", "come", "(LSiegelines$Siege;)V"⟩, prog_7_method_2_code, 2, none, [], [(0, .aload_n 0, 0, 0, 0, []), (1, .iconst 0, 0, 0, 0, []), (2, .invokestatic 9, 98, 2, 0, [395, 396]), (5, .aload_n 0, 0, 0, 0, []), (6, .iconst 0, 0, 0, 0, []), (7, .invokestatic 15, 99, 2, 0, [404, 405]), (10, .aload_n 0, 0, 0, 0, []), (11, .iconst 0, 0, 0, 0, []), (12, .invokestatic 18, 97, 2, 0, [408, 409]), (15, .aload_n 0, 0, 0, 0, []), (16, .invokestatic 21, 94, 1, 0, [412, 413]), (19, .aload_n 0, 0, 0, 0, []), (20, .iconst 1, 0, 0, 0, []), (21, .invokestatic 9, 98, 2, 0, [395, 396]), (24, .aload_n 0, 0, 0, 0, []), (25, .iconst 1, 0, 0, 0, []), (26, .invokestatic 15, 99, 2, 0, [404, 405]), (29, .aload_n 0, 0, 0, 0, []), (30, .iconst 1, 0, 0, 0, []), (31, .invokestatic 18, 97, 2, 0, [408, 409]), (34, .aload_n 0, 0, 0, 0, []), (35, .getfield 25, 1, 5, 0, [940]), (38, .aload_n 0, 0, 0, 0, []), (39, .getfield 31, 1, 0, 0, [916]), (42, .bipush 6, 0, 0, 0, []), (44, .invokevirtual 35, 61, 1, 2, [415, 416, 417]), (47, .ineg, 0, 0, 0, []), (48, .invokevirtual 41, 122, 1, 6, [403, 213, 214]), (51, .aload_n 0, 0, 0, 0, []), (52, .dup, 0, 0, 0, []), (53, .getfield 47, 1, 16, 0, [964]), (56, .iconst 2, 0, 0, 0, []), (57, .idiv, 0, 0, 0, []), (58, .putfield 47, 1, 16, 0, [964]), (61, .aload_n 0, 0, 0, 0, []), (62, .getfield 51, 1, 6, 0, [943]), (65, .getfield 55, 7, 5, 0, [764]), (68, .istore_n 1, 0, 0, 0, []), (69, .aload_n 0, 0, 0, 0, []), (70, .getfield 51, 1, 6, 0, [943]), (73, .aload_n 0, 0, 0, 0, []), (74, .invokestatic 61, 100, 1, 0, [419, 420]), (77, .invokevirtual 65, 120, 1, 7, [423, 424, 425]), (80, .aload_n 0, 0, 0, 0, []), (81, .iload_n 1, 0, 0, 0, []), (82, .invokestatic 68, 96, 2, 0, [436, 437]), (85, .return_, 0, 0, 0, [])], 3, 71)
set_option maxRecDepth 20000 in
/-- 96: Midnight_comeNearer -/
def zm_Midnight_comeNearer : zM := (⟨"Siegelines$Midnight", "comeNearer", "(LSiegelines$Siege;Z)V"⟩, prog_7_method_8_code, 3, none, [], [(0, .aload_n 0, 0, 0, 0, []), (1, .getfield 51, 1, 6, 0, [943]), (4, .astore_n 2, 0, 0, 0, []), (5, .aload_n 2, 0, 0, 0, []), (6, .getfield 55, 7, 5, 0, [764]), (9, .ifCond .eq 10, 19, 0, 0, []), (12, .aload_n 2, 0, 0, 0, []), (13, .getfield 116, 7, 6, 0, [766]), (16, .ifCond .eq 4, 20, 0, 0, []), (19, .return_, 0, 0, 0, []), (20, .iload_n 1, 0, 0, 0, []), (21, .ifCond .eq 7, 28, 0, 0, []), (24, .aload_n 2, 0, 0, 0, []), (25, .invokevirtual 135, 119, 0, 7, [439, 433, 434]), (28, .aload_n 2, 0, 0, 0, []), (29, .getfield 138, 7, 4, 0, [762]), (32, .ifCond .ne 26, 58, 0, 0, []), (35, .aload_n 2, 0, 0, 0, []), (36, .iconst 1, 0, 0, 0, []), (37, .putfield 116, 7, 6, 0, [766]), (40, .aload_n 0, 0, 0, 0, []), (41, .getfield 25, 1, 5, 0, [940]), (44, .bipush 20, 0, 0, 0, []), (46, .invokevirtual 41, 122, 1, 6, [403, 213, 214]), (49, .aload_n 0, 0, 0, 0, []), (50, .getfield 119, 1, 4, 0, [936]), (53, .bipush (-15), 0, 0, 0, []), (55, .invokevirtual 41, 122, 1, 6, [403, 213, 214]), (58, .return_, 0, 0, 0, [])], 1, 22)
set_option maxRecDepth 20000 in
/-- 97: Midnight_desert -/
def zm_Midnight_desert : zM := (⟨"Siegelines$Midnight", "desert", "(LSiegelines$Siege;I)V"⟩, prog_7_method_5_code, 7, none, [], [(0, .aload_n 0, 0, 0, 0, []), (1, .iload_n 1, 0, 0, 0, []), (2, .invokevirtual 72, 150, 1, 1, [398, 197, 198]), (5, .getfield 109, 6, 3, 0, [706]), (8, .istore_n 2, 0, 0, 0, []), (9, .iload_n 2, 0, 0, 0, []), (10, .bipush 40, 0, 0, 0, []), (12, .if_icmp .lt 4, 16, 0, 0, []), (15, .return_, 0, 0, 0, []), (16, .aload_n 0, 0, 0, 0, []), (17, .getfield 88, 1, 2, 0, [926]), (20, .astore_n 3, 0, 0, 0, []), (21, .aload_n 3, 0, 0, 0, []), (22, .arraylength, 0, 0, 0, []), (23, .istore 4, 0, 0, 0, []), (25, .iconst 0, 0, 0, 0, []), (26, .istore 5, 0, 0, 0, []), (28, .iload 5, 0, 0, 0, []), (30, .iload 4, 0, 0, 0, []), (32, .if_icmp .ge 45, 77, 0, 0, []), (35, .aload_n 3, 0, 0, 0, []), (36, .iload 5, 0, 0, 0, []), (38, .aaload, 0, 0, 0, []), (39, .astore 6, 0, 0, 0, []), (41, .aload 6, 0, 0, 0, []), (43, .getfield 92, 4, 0, 0, [832]), (46, .iload_n 1, 0, 0, 0, []), (47, .if_icmp .ne 24, 71, 0, 0, []), (50, .aload_n 0, 0, 0, 0, []), (51, .aload 6, 0, 0, 0, []), (53, .aload 6, 0, 0, 0, []), (55, .getfield 103, 4, 2, 0, [845]), (58, .bipush 40, 0, 0, 0, []), (60, .iload_n 2, 0, 0, 0, []), (61, .isub, 0, 0, 0, []), (62, .imul, 0, 0, 0, []), (63, .sipush 400, 0, 0, 0, []), (66, .idiv, 0, 0, 0, []), (67, .invokevirtual 112, 158, 2, 1, [411, 234, 235]), (70, .pop, 0, 0, 0, []), (71, .iinc 5 1, 0, 0, 0, []), (74, .goto (-46), 28, 0, 0, []), (77, .return_, 0, 0, 0, [])], 2, 44)
set_option maxRecDepth 20000 in
/-- 98: Midnight_eat -/
def zm_Midnight_eat : zM := (⟨"Siegelines$Midnight", "eat", "(LSiegelines$Siege;I)V"⟩, prog_7_method_3_code, 4, none, [], [(0, .aload_n 0, 0, 0, 0, []), (1, .iload_n 1, 0, 0, 0, []), (2, .invokevirtual 72, 150, 1, 1, [398, 197, 198]), (5, .astore_n 2, 0, 0, 0, []), (6, .aload_n 0, 0, 0, 0, []), (7, .iload_n 1, 0, 0, 0, []), (8, .invokevirtual 76, 147, 1, 1, [399, 400, 401]), (11, .bipush 10, 0, 0, 0, []), (13, .idiv, 0, 0, 0, []), (14, .iload_n 1, 0, 0, 0, []), (15, .iconst 1, 0, 0, 0, []), (16, .if_icmp .ne 13, 29, 0, 0, []), (19, .aload_n 0, 0, 0, 0, []), (20, .getfield 79, 1, 14, 0, [960]), (23, .bipush 20, 0, 0, 0, []), (25, .idiv, 0, 0, 0, []), (26, .goto 4, 30, 0, 0, []), (29, .iconst 0, 0, 0, 0, []), (30, .iadd, 0, 0, 0, []), (31, .istore_n 3, 0, 0, 0, []), (32, .aload_n 2, 0, 0, 0, []), (33, .getfield 82, 6, 1, 0, [698]), (36, .iload_n 3, 0, 0, 0, []), (37, .if_icmp .lt 21, 58, 0, 0, []), (40, .aload_n 2, 0, 0, 0, []), (41, .dup, 0, 0, 0, []), (42, .getfield 82, 6, 1, 0, [698]), (45, .iload_n 3, 0, 0, 0, []), (46, .isub, 0, 0, 0, []), (47, .putfield 82, 6, 1, 0, [698]), (50, .aload_n 2, 0, 0, 0, []), (51, .iconst 0, 0, 0, 0, []), (52, .putfield 85, 6, 4, 0, [709]), (55, .goto 24, 79, 0, 0, []), (58, .aload_n 2, 0, 0, 0, []), (59, .iconst 0, 0, 0, 0, []), (60, .putfield 82, 6, 1, 0, [698]), (63, .aload_n 2, 0, 0, 0, []), (64, .dup, 0, 0, 0, []), (65, .getfield 85, 6, 4, 0, [709]), (68, .iconst 1, 0, 0, 0, []), (69, .iadd, 0, 0, 0, []), (70, .putfield 85, 6, 4, 0, [709]), (73, .aload_n 2, 0, 0, 0, []), (74, .bipush (-6), 0, 0, 0, []), (76, .invokevirtual 41, 122, 1, 6, [403, 213, 214]), (79, .return_, 0, 0, 0, [])], 1, 26)
set_option maxRecDepth 20000 in
/-- 99: Midnight_fallSick -/
def zm_Midnight_fallSick : zM := (⟨"Siegelines$Midnight", "fallSick", "(LSiegelines$Siege;I)V"⟩, prog_7_method_4_code, 10, none, [], [(0, .aload_n 0, 0, 0, 0, []), (1, .iload_n 1, 0, 0, 0, []), (2, .invokevirtual 72, 150, 1, 1, [398, 197, 198]), (5, .astore_n 2, 0, 0, 0, []), (6, .aload_n 2, 0, 0, 0, []), (7, .getfield 85, 6, 4, 0, [709]), (10, .ifCond .le 7, 17, 0, 0, []), (13, .iconst 2, 0, 0, 0, []), (14, .goto 4, 18, 0, 0, []), (17, .iconst 1, 0, 0, 0, []), (18, .istore_n 3, 0, 0, 0, []), (19, .iload_n 1, 0, 0, 0, []), (20, .iconst 1, 0, 0, 0, []), (21, .if_icmp .ne 15, 36, 0, 0, []), (24, .aload_n 0, 0, 0, 0, []), (25, .getfield 47, 1, 16, 0, [964]), (28, .bipush 20, 0, 0, 0, []), (30, .if_icmp .le 6, 36, 0, 0, []), (33, .iinc 3 1, 0, 0, 0, []), (36, .aload_n 0, 0, 0, 0, []), (37, .getfield 88, 1, 2, 0, [926]), (40, .astore 4, 0, 0, 0, []), (42, .aload 4, 0, 0, 0, []), (44, .arraylength, 0, 0, 0, []), (45, .istore 5, 0, 0, 0, []), (47, .iconst 0, 0, 0, 0, []), (48, .istore 6, 0, 0, 0, []), (50, .iload 6, 0, 0, 0, []), (52, .iload 5, 0, 0, 0, []), (54, .if_icmp .ge 101, 155, 0, 0, []), (57, .aload 4, 0, 0, 0, []), (59, .iload 6, 0, 0, 0, []), (61, .aaload, 0, 0, 0, []), (62, .astore 7, 0, 0, 0, []), (64, .aload 7, 0, 0, 0, []), (66, .getfield 92, 4, 0, 0, [832]), (69, .iload_n 1, 0, 0, 0, []), (70, .if_icmp .eq 6, 76, 0, 0, []), (73, .goto 76, 149, 0, 0, []), (76, .iload_n 1, 0, 0, 0, []), (77, .ifCond .ne 23, 100, 0, 0, []), (80, .aload_n 0, 0, 0, 0, []), (81, .getfield 31, 1, 0, 0, [916]), (84, .aload 7, 0, 0, 0, []), (86, .getfield 97, 4, 1, 0, [838]), (89, .invokevirtual 100, 76, 1, 2, [407, 381, 382]), (92, .iconst 2, 0, 0, 0, []), (93, .if_icmp .ne 7, 100, 0, 0, []), (96, .iconst 1, 0, 0, 0, []), (97, .goto 4, 101, 0, 0, []), (100, .iconst 0, 0, 0, 0, []), (101, .istore 8, 0, 0, 0, []), (103, .aload 7, 0, 0, 0, []), (105, .getfield 103, 4, 2, 0, [845]), (108, .bipush 50, 0, 0, 0, []), (110, .idiv, 0, 0, 0, []), (111, .iload 8, 0, 0, 0, []), (113, .ifCond .eq 9, 122, 0, 0, []), (116, .iload_n 3, 0, 0, 0, []), (117, .iconst 1, 0, 0, 0, []), (118, .iadd, 0, 0, 0, []), (119, .goto 4, 123, 0, 0, []), (122, .iload_n 3, 0, 0, 0, []), (123, .imul, 0, 0, 0, []), (124, .istore 9, 0, 0, 0, []), (126, .aload 7, 0, 0, 0, []), (128, .dup, 0, 0, 0, []), (129, .getfield 103, 4, 2, 0, [845]), (132, .iload 9, 0, 0, 0, []), (134, .isub, 0, 0, 0, []), (135, .putfield 103, 4, 2, 0, [845]), (138, .aload_n 2, 0, 0, 0, []), (139, .dup, 0, 0, 0, []), (140, .getfield 106, 6, 9, 0, [721]), (143, .iload 9, 0, 0, 0, []), (145, .iadd, 0, 0, 0, []), (146, .putfield 106, 6, 9, 0, [721]), (149, .iinc 6 1, 0, 0, 0, []), (152, .goto (-102), 50, 0, 0, []), (155, .return_, 0, 0, 0, [])], 2, 42)
set_option maxRecDepth 20000 in
/-- 100: Midnight_guardsOf -/
def zm_Midnight_guardsOf : zM := (⟨"Siegelines$Midnight", "guardsOf", "(LSiegelines$Siege;)I"⟩, prog_7_method_7_code, 6, some (.int), [], [(0, .iconst 0, 0, 0, 0, []), (1, .istore_n 1, 0, 0, 0, []), (2, .aload_n 0, 0, 0, 0, []), (3, .getfield 88, 1, 2, 0, [926]), (6, .astore_n 2, 0, 0, 0, []), (7, .aload_n 2, 0, 0, 0, []), (8, .arraylength, 0, 0, 0, []), (9, .istore_n 3, 0, 0, 0, []), (10, .iconst 0, 0, 0, 0, []), (11, .istore 4, 0, 0, 0, []), (13, .iload 4, 0, 0, 0, []), (15, .iload_n 3, 0, 0, 0, []), (16, .if_icmp .ge 34, 50, 0, 0, []), (19, .aload_n 2, 0, 0, 0, []), (20, .iload 4, 0, 0, 0, []), (22, .aaload, 0, 0, 0, []), (23, .astore 5, 0, 0, 0, []), (25, .aload 5, 0, 0, 0, []), (27, .getfield 92, 4, 0, 0, [832]), (30, .ifCond .ne 14, 44, 0, 0, []), (33, .aload 5, 0, 0, 0, []), (35, .invokevirtual 131, 34, 0, 4, [422, 331, 332]), (38, .ifCond .eq 6, 44, 0, 0, []), (41, .iinc 1 1, 0, 0, 0, []), (44, .iinc 4 1, 0, 0, 0, []), (47, .goto (-34), 13, 0, 0, []), (50, .iload_n 1, 0, 0, 0, []), (51, .ireturn, 0, 0, 0, [])], 1, 20)
set_option maxRecDepth 20000 in
/-- 101: Mine_new -/
def zm_Mine_new : zM := (⟨"Siegelines$Mine", "<init>", "()V"⟩, prog_8_method_1_code, 1, none, [], [(0, .aload_n 0, 0, 0, 0, []), (1, .invokespecial 3, 0, 0, 1000, [877]), (4, .aload_n 0, 0, 0, 0, []), (5, .bipush 6, 0, 0, 0, []), (7, .newarray .int, 100, 0, 0, [679]), (9, .putfield 9, 5, 0, 0, [878]), (12, .aload_n 0, 0, 0, 0, []), (13, .iconst (-1), 0, 0, 0, []), (14, .putfield 15, 5, 1, 0, [880]), (17, .aload_n 0, 0, 0, 0, []), (18, .iconst 0, 0, 0, 0, []), (19, .putfield 19, 5, 6, 0, [896]), (22, .return_, 0, 0, 0, [])], 1, 20)
set_option maxRecDepth 20000 in
/-- 102: Mine_goOn -/
def zm_Mine_goOn : zM := (⟨"Siegelines$Mine", "goOn", "(I)V"⟩, prog_8_method_8_code, 2, none, [], [(0, .aload_n 0, 0, 0, 0, []), (1, .getfield 22, 5, 2, 0, [884]), (4, .ifCond .lt 37, 41, 0, 0, []), (7, .aload_n 0, 0, 0, 0, []), (8, .getfield 22, 5, 2, 0, [884]), (11, .bipush 6, 0, 0, 0, []), (13, .if_icmp .ge 28, 41, 0, 0, []), (16, .aload_n 0, 0, 0, 0, []), (17, .getfield 9, 5, 0, 0, [878]), (20, .aload_n 0, 0, 0, 0, []), (21, .getfield 22, 5, 2, 0, [884]), (24, .iload_n 1, 0, 0, 0, []), (25, .iastore, 0, 0, 0, []), (26, .aload_n 0, 0, 0, 0, []), (27, .dup, 0, 0, 0, []), (28, .getfield 22, 5, 2, 0, [884]), (31, .iconst 1, 0, 0, 0, []), (32, .iadd, 0, 0, 0, []), (33, .putfield 22, 5, 2, 0, [884]), (36, .aload_n 0, 0, 0, 0, []), (37, .iconst 0, 0, 0, 0, []), (38, .putfield 31, 5, 5, 0, [894]), (41, .return_, 0, 0, 0, [])], 0, 0)
set_option maxRecDepth 20000 in
/-- 103: Mine_head -/
def zm_Mine_head : zM := (⟨"Siegelines$Mine", "head", "()I"⟩, prog_8_method_7_code, 1, some (.int), [], [(0, .aload_n 0, 0, 0, 0, []), (1, .getfield 22, 5, 2, 0, [884]), (4, .ifCond .le 26, 30, 0, 0, []), (7, .aload_n 0, 0, 0, 0, []), (8, .getfield 22, 5, 2, 0, [884]), (11, .bipush 6, 0, 0, 0, []), (13, .if_icmp .gt 17, 30, 0, 0, []), (16, .aload_n 0, 0, 0, 0, []), (17, .getfield 9, 5, 0, 0, [878]), (20, .aload_n 0, 0, 0, 0, []), (21, .getfield 22, 5, 2, 0, [884]), (24, .iconst 1, 0, 0, 0, []), (25, .isub, 0, 0, 0, []), (26, .iaload, 0, 0, 0, []), (27, .goto 4, 31, 0, 0, []), (30, .iconst (-1), 0, 0, 0, []), (31, .ireturn, 0, 0, 0, [])], 0, 0)
set_option maxRecDepth 20000 in
/-- 104: Mine_isBegun -/
def zm_Mine_isBegun : zM := (⟨"Siegelines$Mine", "isBegun", "()Z"⟩, prog_8_method_4_code, 1, some (.boolean), [], [(0, .aload_n 0, 0, 0, 0, []), (1, .getfield 15, 5, 1, 0, [880]), (4, .iconst (-1), 0, 0, 0, []), (5, .if_icmp .eq 7, 12, 0, 0, []), (8, .iconst 1, 0, 0, 0, []), (9, .goto 4, 13, 0, 0, []), (12, .iconst 0, 0, 0, 0, []), (13, .ireturn, 0, 0, 0, [])], 0, 0)
set_option maxRecDepth 20000 in
/-- 105: Mine_isWhole -/
def zm_Mine_isWhole : zM := (⟨"Siegelines$Mine", "isWhole", "()Z"⟩, prog_8_method_5_code, 1, some (.boolean), [], [(0, .aload_n 0, 0, 0, 0, []), (1, .getfield 15, 5, 1, 0, [880]), (4, .iconst (-1), 0, 0, 0, []), (5, .if_icmp .eq 22, 27, 0, 0, []), (8, .aload_n 0, 0, 0, 0, []), (9, .getfield 19, 5, 6, 0, [896]), (12, .ifCond .eq 11, 23, 0, 0, []), (15, .aload_n 0, 0, 0, 0, []), (16, .getfield 19, 5, 6, 0, [896]), (19, .iconst 1, 0, 0, 0, []), (20, .if_icmp .ne 7, 27, 0, 0, []), (23, .iconst 1, 0, 0, 0, []), (24, .goto 4, 28, 0, 0, []), (27, .iconst 0, 0, 0, 0, []), (28, .ireturn, 0, 0, 0, [])], 0, 0)
set_option maxRecDepth 20000 in
/-- 106: Mine_mouth -/
def zm_Mine_mouth : zM := (⟨"Siegelines$Mine", "mouth", "()I"⟩, prog_8_method_6_code, 1, some (.int), [], [(0, .aload_n 0, 0, 0, 0, []), (1, .getfield 22, 5, 2, 0, [884]), (4, .ifCond .le 12, 16, 0, 0, []), (7, .aload_n 0, 0, 0, 0, []), (8, .getfield 9, 5, 0, 0, [878]), (11, .iconst 0, 0, 0, 0, []), (12, .iaload, 0, 0, 0, []), (13, .goto 4, 17, 0, 0, []), (16, .iconst (-1), 0, 0, 0, []), (17, .ireturn, 0, 0, 0, [])], 0, 0)
set_option maxRecDepth 20000 in
/-- 107: Mine_place -/
def zm_Mine_place : zM := (⟨"Siegelines$Mine", "place", "(III)V"⟩, prog_8_method_2_code, 4, none, [], [(0, .aload_n 0, 0, 0, 0, []), (1, .iload_n 1, 0, 0, 0, []), (2, .putfield 15, 5, 1, 0, [880]), (5, .aload_n 0, 0, 0, 0, []), (6, .getfield 9, 5, 0, 0, [878]), (9, .iconst 0, 0, 0, 0, []), (10, .iload_n 2, 0, 0, 0, []), (11, .iastore, 0, 0, 0, []), (12, .aload_n 0, 0, 0, 0, []), (13, .iconst 1, 0, 0, 0, []), (14, .putfield 22, 5, 2, 0, [884]), (17, .aload_n 0, 0, 0, 0, []), (18, .iload_n 3, 0, 0, 0, []), (19, .putfield 25, 5, 3, 0, [887]), (22, .return_, 0, 0, 0, [])], 0, 0)
set_option maxRecDepth 20000 in
/-- 108: Mining_advance -/
def zm_Mining_advance : zM := (⟨"Siegelines$Mining", "advance", "(LSiegelines$Siege;LSiegelines$Mine;)V"⟩, prog_9_method_3_code, 4, none, [], [(0, .aload_n 1, 0, 0, 0, []), (1, .invokevirtual 9, 104, 0, 5, [366, 367, 368]), (4, .ifCond .eq 25, 29, 0, 0, []), (7, .aload_n 1, 0, 0, 0, []), (8, .getfield 15, 5, 6, 0, [897]), (11, .ifCond .ne 18, 29, 0, 0, []), (14, .aload_n 0, 0, 0, 0, []), (15, .aload_n 1, 0, 0, 0, []), (16, .getfield 19, 5, 1, 0, [881]), (19, .aload_n 1, 0, 0, 0, []), (20, .invokevirtual 22, 106, 0, 5, [370, 371, 372]), (23, .invokevirtual 26, 142, 2, 1, [374, 243, 244]), (26, .ifCond .ne 4, 30, 0, 0, []), (29, .return_, 0, 0, 0, []), (30, .aload_n 0, 0, 0, 0, []), (31, .getfield 32, 1, 0, 0, [919]), (34, .aload_n 1, 0, 0, 0, []), (35, .invokevirtual 36, 103, 0, 5, [375, 376, 377]), (38, .aload_n 1, 0, 0, 0, []), (39, .getfield 39, 5, 3, 0, [888]), (42, .invokevirtual 42, 71, 2, 2, [379, 307, 308]), (45, .istore_n 2, 0, 0, 0, []), (46, .aload_n 0, 0, 0, 0, []), (47, .getfield 32, 1, 0, 0, [919]), (50, .iload_n 2, 0, 0, 0, []), (51, .invokevirtual 48, 76, 1, 2, [380, 381, 382]), (54, .istore_n 3, 0, 0, 0, []), (55, .iload_n 2, 0, 0, 0, []), (56, .iconst (-1), 0, 0, 0, []), (57, .if_icmp .eq 22, 79, 0, 0, []), (60, .iload_n 3, 0, 0, 0, []), (61, .iconst 2, 0, 0, 0, []), (62, .if_icmp .eq 17, 79, 0, 0, []), (65, .iload_n 3, 0, 0, 0, []), (66, .iconst 3, 0, 0, 0, []), (67, .if_icmp .eq 12, 79, 0, 0, []), (70, .aload_n 1, 0, 0, 0, []), (71, .getfield 52, 5, 2, 0, [885]), (74, .bipush 6, 0, 0, 0, []), (76, .if_icmp .lt 9, 85, 0, 0, []), (79, .aload_n 1, 0, 0, 0, []), (80, .iconst 1, 0, 0, 0, []), (81, .putfield 15, 5, 6, 0, [897]), (84, .return_, 0, 0, 0, []), (85, .aload_n 1, 0, 0, 0, []), (86, .dup, 0, 0, 0, []), (87, .getfield 55, 5, 5, 0, [893]), (90, .iconst 1, 0, 0, 0, []), (91, .iadd, 0, 0, 0, []), (92, .putfield 55, 5, 5, 0, [893]), (95, .aload_n 1, 0, 0, 0, []), (96, .getfield 55, 5, 5, 0, [893]), (99, .iload_n 3, 0, 0, 0, []), (100, .iconst 1, 0, 0, 0, []), (101, .if_icmp .ne 8, 109, 0, 0, []), (104, .bipush 6, 0, 0, 0, []), (106, .goto 4, 110, 0, 0, []), (109, .iconst 4, 0, 0, 0, []), (110, .if_icmp .lt 8, 118, 0, 0, []), (113, .aload_n 1, 0, 0, 0, []), (114, .iload_n 2, 0, 0, 0, []), (115, .invokevirtual 58, 102, 1, 5, [384, 385, 386]), (118, .return_, 0, 0, 0, [])], 2, 48)
set_option maxRecDepth 20000 in
/-- 109: Mining_blowUp -/
def zm_Mining_blowUp : zM := (⟨"Siegelines$Mining", "blowUp", "(LSiegelines$Siege;LSiegelines$Mine;)I"⟩, prog_9_method_6_code, 7, some (.int), [], [(0, .aload_n 1, 0, 0, 0, []), (1, .getfield 88, 5, 4, 0, [890]), (4, .iconst 4, 0, 0, 0, []), (5, .if_icmp .gt 7, 12, 0, 0, []), (8, .iconst 1, 0, 0, 0, []), (9, .goto 4, 13, 0, 0, []), (12, .iconst 0, 0, 0, 0, []), (13, .istore_n 2, 0, 0, 0, []), (14, .aload_n 0, 0, 0, 0, []), (15, .aload_n 1, 0, 0, 0, []), (16, .invokestatic 94, 114, 2, 0, [1429, 1430]), (19, .istore_n 3, 0, 0, 0, []), (20, .aload_n 1, 0, 0, 0, []), (21, .invokevirtual 36, 103, 0, 5, [375, 376, 377]), (24, .istore 4, 0, 0, 0, []), (26, .aload_n 1, 0, 0, 0, []), (27, .iconst 2, 0, 0, 0, []), (28, .putfield 15, 5, 6, 0, [897]), (31, .aload_n 0, 0, 0, 0, []), (32, .aload_n 1, 0, 0, 0, []), (33, .getfield 19, 5, 1, 0, [881]), (36, .invokevirtual 100, 150, 1, 1, [1433, 197, 198]), (39, .dup, 0, 0, 0, []), (40, .getfield 104, 6, 6, 0, [714]), (43, .aload_n 1, 0, 0, 0, []), (44, .getfield 88, 5, 4, 0, [890]), (47, .iadd, 0, 0, 0, []), (48, .putfield 104, 6, 6, 0, [714]), (51, .aload_n 0, 0, 0, 0, []), (52, .aload_n 1, 0, 0, 0, []), (53, .iload_n 2, 0, 0, 0, []), (54, .ifCond .eq 7, 61, 0, 0, []), (57, .iconst 1, 0, 0, 0, []), (58, .goto 4, 62, 0, 0, []), (61, .iload_n 3, 0, 0, 0, []), (62, .invokestatic 109, 111, 3, 0, [1434, 1435]), (65, .iload_n 2, 0, 0, 0, []), (66, .ifCond .eq 5, 71, 0, 0, []), (69, .iconst 0, 0, 0, 0, []), (70, .ireturn, 0, 0, 0, []), (71, .iconst 0, 0, 0, 0, []), (72, .istore 5, 0, 0, 0, []), (74, .iconst 0, 0, 0, 0, []), (75, .istore 6, 0, 0, 0, []), (77, .iload 6, 0, 0, 0, []), (79, .aload_n 0, 0, 0, 0, []), (80, .getfield 32, 1, 0, 0, [919]), (83, .getfield 113, 2, 11, 0, [637]), (86, .if_icmp .ge 47, 133, 0, 0, []), (89, .aload_n 0, 0, 0, 0, []), (90, .getfield 32, 1, 0, 0, [919]), (93, .iload 6, 0, 0, 0, []), (95, .iload 4, 0, 0, 0, []), (97, .invokevirtual 78, 63, 2, 2, [562, 193, 194]), (100, .iload_n 3, 0, 0, 0, []), (101, .if_icmp .gt 26, 127, 0, 0, []), (104, .iload 5, 0, 0, 0, []), (106, .aload_n 0, 0, 0, 0, []), (107, .iload 6, 0, 0, 0, []), (109, .iload 6, 0, 0, 0, []), (111, .iload 4, 0, 0, 0, []), (113, .if_icmp .ne 7, 120, 0, 0, []), (116, .iconst 1, 0, 0, 0, []), (117, .goto 4, 121, 0, 0, []), (120, .iconst 0, 0, 0, 0, []), (121, .invokestatic 116, 115, 3, 0, [1441, 1442]), (124, .iadd, 0, 0, 0, []), (125, .istore 5, 0, 0, 0, []), (127, .iinc 6 1, 0, 0, 0, []), (130, .goto (-53), 77, 0, 0, []), (133, .iload 5, 0, 0, 0, []), (135, .ireturn, 0, 0, 0, [])], 4, 96)
set_option maxRecDepth 20000 in
/-- 110: Mining_comesNear -/
def zm_Mining_comesNear : zM := (⟨"Siegelines$Mining", "comesNear", "(LSiegelines$Ground;LSiegelines$Mine;II)Z"⟩, prog_9_method_8_code, 5, some (.boolean), [], [(0, .iconst 0, 0, 0, 0, []), (1, .istore 4, 0, 0, 0, []), (3, .iload 4, 0, 0, 0, []), (5, .aload_n 1, 0, 0, 0, []), (6, .getfield 52, 5, 2, 0, [885]), (9, .if_icmp .ge 34, 43, 0, 0, []), (12, .iload 4, 0, 0, 0, []), (14, .bipush 6, 0, 0, 0, []), (16, .if_icmp .ge 27, 43, 0, 0, []), (19, .aload_n 0, 0, 0, 0, []), (20, .aload_n 1, 0, 0, 0, []), (21, .getfield 131, 5, 0, 0, [879]), (24, .iload 4, 0, 0, 0, []), (26, .iaload, 0, 0, 0, []), (27, .iload_n 2, 0, 0, 0, []), (28, .invokevirtual 78, 63, 2, 2, [562, 193, 194]), (31, .iload_n 3, 0, 0, 0, []), (32, .if_icmp .gt 5, 37, 0, 0, []), (35, .iconst 1, 0, 0, 0, []), (36, .ireturn, 0, 0, 0, []), (37, .iinc 4 1, 0, 0, 0, []), (40, .goto (-37), 3, 0, 0, []), (43, .iconst 0, 0, 0, 0, []), (44, .ireturn, 0, 0, 0, [])], 2, 45)
set_option maxRecDepth 20000 in
/-- 111: Mining_crushOthers -/
def zm_Mining_crushOthers : zM := (⟨"Siegelines$Mining", "crushOthers", "(LSiegelines$Siege;LSiegelines$Mine;I)V"⟩, prog_9_method_7_code, 8, none, [], [(0, .iconst 1, 0, 0, 0, []), (1, .aload_n 1, 0, 0, 0, []), (2, .getfield 19, 5, 1, 0, [881]), (5, .isub, 0, 0, 0, []), (6, .istore_n 3, 0, 0, 0, []), (7, .aload_n 0, 0, 0, 0, []), (8, .getfield 81, 1, 3, 0, [932]), (11, .astore 4, 0, 0, 0, []), (13, .aload 4, 0, 0, 0, []), (15, .arraylength, 0, 0, 0, []), (16, .istore 5, 0, 0, 0, []), (18, .iconst 0, 0, 0, 0, []), (19, .istore 6, 0, 0, 0, []), (21, .iload 6, 0, 0, 0, []), (23, .iload 5, 0, 0, 0, []), (25, .if_icmp .ge 90, 115, 0, 0, []), (28, .aload 4, 0, 0, 0, []), (30, .iload 6, 0, 0, 0, []), (32, .aaload, 0, 0, 0, []), (33, .astore 7, 0, 0, 0, []), (35, .aload 7, 0, 0, 0, []), (37, .getfield 19, 5, 1, 0, [881]), (40, .iload_n 3, 0, 0, 0, []), (41, .if_icmp .ne 68, 109, 0, 0, []), (44, .aload 7, 0, 0, 0, []), (46, .invokevirtual 85, 105, 0, 5, [563, 564, 565]), (49, .ifCond .eq 60, 109, 0, 0, []), (52, .aload_n 0, 0, 0, 0, []), (53, .getfield 32, 1, 0, 0, [919]), (56, .aload 7, 0, 0, 0, []), (58, .aload_n 1, 0, 0, 0, []), (59, .invokevirtual 36, 103, 0, 5, [375, 376, 377]), (62, .iload_n 2, 0, 0, 0, []), (63, .invokestatic 120, 110, 4, 0, [1437, 1438]), (66, .ifCond .ne 6, 72, 0, 0, []), (69, .goto 40, 109, 0, 0, []), (72, .aload 7, 0, 0, 0, []), (74, .iconst 3, 0, 0, 0, []), (75, .putfield 15, 5, 6, 0, [897]), (78, .aload_n 0, 0, 0, 0, []), (79, .iload_n 3, 0, 0, 0, []), (80, .invokevirtual 100, 150, 1, 1, [1433, 197, 198]), (83, .dup, 0, 0, 0, []), (84, .getfield 104, 6, 6, 0, [714]), (87, .aload 7, 0, 0, 0, []), (89, .getfield 88, 5, 4, 0, [890]), (92, .iadd, 0, 0, 0, []), (93, .putfield 104, 6, 6, 0, [714]), (96, .iload_n 3, 0, 0, 0, []), (97, .ifCond .ne 12, 109, 0, 0, []), (100, .aload_n 0, 0, 0, 0, []), (101, .getfield 124, 1, 4, 0, [937]), (104, .bipush (-3), 0, 0, 0, []), (106, .invokevirtual 128, 122, 1, 6, [1440, 213, 214]), (109, .iinc 6 1, 0, 0, 0, []), (112, .goto (-91), 21, 0, 0, []), (115, .return_, 0, 0, 0, [])], 3, 69)
set_option maxRecDepth 20000 in
/-- 112: Mining_isHeard -/
def zm_Mining_isHeard : zM := (⟨"Siegelines$Mining", "isHeard", "(LSiegelines$Siege;LSiegelines$Mine;)Z"⟩, prog_9_method_4_code, 8, some (.boolean), [], [(0, .aload_n 1, 0, 0, 0, []), (1, .invokevirtual 9, 104, 0, 5, [366, 367, 368]), (4, .ifCond .eq 18, 22, 0, 0, []), (7, .aload_n 1, 0, 0, 0, []), (8, .getfield 15, 5, 6, 0, [897]), (11, .ifCond .ne 11, 22, 0, 0, []), (14, .aload_n 1, 0, 0, 0, []), (15, .getfield 52, 5, 2, 0, [885]), (18, .iconst 2, 0, 0, 0, []), (19, .if_icmp .ge 5, 24, 0, 0, []), (22, .iconst 0, 0, 0, 0, []), (23, .ireturn, 0, 0, 0, []), (24, .iconst 1, 0, 0, 0, []), (25, .aload_n 1, 0, 0, 0, []), (26, .getfield 19, 5, 1, 0, [881]), (29, .isub, 0, 0, 0, []), (30, .istore_n 2, 0, 0, 0, []), (31, .aload_n 1, 0, 0, 0, []), (32, .invokevirtual 36, 103, 0, 5, [375, 376, 377]), (35, .istore_n 3, 0, 0, 0, []), (36, .aload_n 0, 0, 0, 0, []), (37, .getfield 62, 1, 2, 0, [927]), (40, .astore 4, 0, 0, 0, []), (42, .aload 4, 0, 0, 0, []), (44, .arraylength, 0, 0, 0, []), (45, .istore 5, 0, 0, 0, []), (47, .iconst 0, 0, 0, 0, []), (48, .istore 6, 0, 0, 0, []), (50, .iload 6, 0, 0, 0, []), (52, .iload 5, 0, 0, 0, []), (54, .if_icmp .ge 69, 123, 0, 0, []), (57, .aload 4, 0, 0, 0, []), (59, .iload 6, 0, 0, 0, []), (61, .aaload, 0, 0, 0, []), (62, .astore 7, 0, 0, 0, []), (64, .aload 7, 0, 0, 0, []), (66, .getfield 66, 4, 2, 0, [844]), (69, .ifCond .le 48, 117, 0, 0, []), (72, .aload 7, 0, 0, 0, []), (74, .getfield 71, 4, 0, 0, [833]), (77, .iload_n 2, 0, 0, 0, []), (78, .if_icmp .ne 39, 117, 0, 0, []), (81, .aload 7, 0, 0, 0, []), (83, .getfield 72, 4, 4, 0, [855]), (86, .ifCond .eq 31, 117, 0, 0, []), (89, .aload 7, 0, 0, 0, []), (91, .getfield 72, 4, 4, 0, [855]), (94, .iconst 4, 0, 0, 0, []), (95, .if_icmp .eq 22, 117, 0, 0, []), (98, .aload_n 0, 0, 0, 0, []), (99, .getfield 32, 1, 0, 0, [919]), (102, .aload 7, 0, 0, 0, []), (104, .getfield 75, 4, 1, 0, [839]), (107, .iload_n 3, 0, 0, 0, []), (108, .invokevirtual 78, 63, 2, 2, [562, 193, 194]), (111, .iconst 2, 0, 0, 0, []), (112, .if_icmp .gt 5, 117, 0, 0, []), (115, .iconst 1, 0, 0, 0, []), (116, .ireturn, 0, 0, 0, []), (117, .iinc 6 1, 0, 0, 0, []), (120, .goto (-70), 50, 0, 0, []), (123, .aload_n 0, 0, 0, 0, []), (124, .getfield 81, 1, 3, 0, [932]), (127, .astore 4, 0, 0, 0, []), (129, .aload 4, 0, 0, 0, []), (131, .arraylength, 0, 0, 0, []), (132, .istore 5, 0, 0, 0, []), (134, .iconst 0, 0, 0, 0, []), (135, .istore 6, 0, 0, 0, []), (137, .iload 6, 0, 0, 0, []), (139, .iload 5, 0, 0, 0, []), (141, .if_icmp .ge 52, 193, 0, 0, []), (144, .aload 4, 0, 0, 0, []), (146, .iload 6, 0, 0, 0, []), (148, .aaload, 0, 0, 0, []), (149, .astore 7, 0, 0, 0, []), (151, .aload 7, 0, 0, 0, []), (153, .getfield 19, 5, 1, 0, [881]), (156, .iload_n 2, 0, 0, 0, []), (157, .if_icmp .ne 30, 187, 0, 0, []), (160, .aload 7, 0, 0, 0, []), (162, .invokevirtual 85, 105, 0, 5, [563, 564, 565]), (165, .ifCond .eq 22, 187, 0, 0, []), (168, .aload_n 0, 0, 0, 0, []), (169, .getfield 32, 1, 0, 0, [919]), (172, .aload 7, 0, 0, 0, []), (174, .invokevirtual 36, 103, 0, 5, [375, 376, 377]), (177, .iload_n 3, 0, 0, 0, []), (178, .invokevirtual 78, 63, 2, 2, [562, 193, 194]), (181, .iconst 2, 0, 0, 0, []), (182, .if_icmp .gt 5, 187, 0, 0, []), (185, .iconst 1, 0, 0, 0, []), (186, .ireturn, 0, 0, 0, []), (187, .iinc 6 1, 0, 0, 0, []), (190, .goto (-53), 137, 0, 0, []), (193, .iconst 0, 0, 0, 0, []), (194, .ireturn, 0, 0, 0, [])], 2, 45)
set_option maxRecDepth 20000 in
/-- 113: Mining_isMouth -/
def zm_Mining_isMouth : zM := (⟨"Siegelines$Mining", "isMouth", "(II)Z"⟩, prog_9_method_2_code, 2, some (.boolean), [], [(0, .iload_n 0, 0, 0, 0, []), (1, .ifCond .ne 14, 15, 0, 0, []), (4, .iload_n 1, 0, 0, 0, []), (5, .iconst 5, 0, 0, 0, []), (6, .if_icmp .ne 7, 13, 0, 0, []), (9, .iconst 1, 0, 0, 0, []), (10, .goto 4, 14, 0, 0, []), (13, .iconst 0, 0, 0, 0, []), (14, .ireturn, 0, 0, 0, []), (15, .iload_n 1, 0, 0, 0, []), (16, .iconst 1, 0, 0, 0, []), (17, .if_icmp .eq 13, 30, 0, 0, []), (20, .iload_n 1, 0, 0, 0, []), (21, .iconst 3, 0, 0, 0, []), (22, .if_icmp .eq 8, 30, 0, 0, []), (25, .iload_n 1, 0, 0, 0, []), (26, .iconst 4, 0, 0, 0, []), (27, .if_icmp .ne 7, 34, 0, 0, []), (30, .iconst 1, 0, 0, 0, []), (31, .goto 4, 35, 0, 0, []), (34, .iconst 0, 0, 0, 0, []), (35, .ireturn, 0, 0, 0, [])], 0, 0)
set_option maxRecDepth 20000 in
/-- 114: Mining_reachOf -/
def zm_Mining_reachOf : zM := (⟨"Siegelines$Mining", "reachOf", "(LSiegelines$Siege;LSiegelines$Mine;)I"⟩, prog_9_method_5_code, 3, some (.int), [], [(0, .aload_n 1, 0, 0, 0, []), (1, .getfield 88, 5, 4, 0, [890]), (4, .bipush 8, 0, 0, 0, []), (6, .if_icmp .ge 7, 13, 0, 0, []), (9, .iconst 0, 0, 0, 0, []), (10, .goto 17, 27, 0, 0, []), (13, .aload_n 1, 0, 0, 0, []), (14, .getfield 88, 5, 4, 0, [890]), (17, .bipush 24, 0, 0, 0, []), (19, .if_icmp .ge 7, 26, 0, 0, []), (22, .iconst 1, 0, 0, 0, []), (23, .goto 4, 27, 0, 0, []), (26, .iconst 2, 0, 0, 0, []), (27, .istore_n 2, 0, 0, 0, []), (28, .iload_n 2, 0, 0, 0, []), (29, .ifCond .le 24, 53, 0, 0, []), (32, .aload_n 0, 0, 0, 0, []), (33, .getfield 32, 1, 0, 0, [919]), (36, .aload_n 1, 0, 0, 0, []), (37, .invokevirtual 36, 103, 0, 5, [375, 376, 377]), (40, .invokevirtual 91, 65, 1, 2, [1432, 508, 509]), (43, .iconst 3, 0, 0, 0, []), (44, .if_icmp .lt 9, 53, 0, 0, []), (47, .iload_n 2, 0, 0, 0, []), (48, .iconst 1, 0, 0, 0, []), (49, .isub, 0, 0, 0, []), (50, .goto 4, 54, 0, 0, []), (53, .iload_n 2, 0, 0, 0, []), (54, .ireturn, 0, 0, 0, [])], 2, 42)
set_option maxRecDepth 20000 in
/-- 115: Mining_shake -/
def zm_Mining_shake : zM := (⟨"Siegelines$Mining", "shake", "(LSiegelines$Siege;IZ)I"⟩, prog_9_method_9_code, 8, some (.int), [], [(0, .iconst 0, 0, 0, 0, []), (1, .istore_n 3, 0, 0, 0, []), (2, .aload_n 0, 0, 0, 0, []), (3, .getfield 62, 1, 2, 0, [927]), (6, .astore 4, 0, 0, 0, []), (8, .aload 4, 0, 0, 0, []), (10, .arraylength, 0, 0, 0, []), (11, .istore 5, 0, 0, 0, []), (13, .iconst 0, 0, 0, 0, []), (14, .istore 6, 0, 0, 0, []), (16, .iload 6, 0, 0, 0, []), (18, .iload 5, 0, 0, 0, []), (20, .if_icmp .ge 49, 69, 0, 0, []), (23, .aload 4, 0, 0, 0, []), (25, .iload 6, 0, 0, 0, []), (27, .aaload, 0, 0, 0, []), (28, .astore 7, 0, 0, 0, []), (30, .aload 7, 0, 0, 0, []), (32, .invokevirtual 135, 35, 0, 4, [1444, 542, 543]), (35, .ifCond .eq 28, 63, 0, 0, []), (38, .aload 7, 0, 0, 0, []), (40, .getfield 75, 4, 1, 0, [839]), (43, .iload_n 1, 0, 0, 0, []), (44, .if_icmp .ne 19, 63, 0, 0, []), (47, .iload_n 3, 0, 0, 0, []), (48, .aload_n 0, 0, 0, 0, []), (49, .aload 7, 0, 0, 0, []), (51, .aload 7, 0, 0, 0, []), (53, .getfield 66, 4, 2, 0, [844]), (56, .iconst 3, 0, 0, 0, []), (57, .idiv, 0, 0, 0, []), (58, .invokevirtual 138, 158, 2, 1, [1445, 234, 235]), (61, .iadd, 0, 0, 0, []), (62, .istore_n 3, 0, 0, 0, []), (63, .iinc 6 1, 0, 0, 0, []), (66, .goto (-50), 16, 0, 0, []), (69, .aload_n 0, 0, 0, 0, []), (70, .getfield 142, 1, 1, 0, [922]), (73, .astore 4, 0, 0, 0, []), (75, .aload 4, 0, 0, 0, []), (77, .arraylength, 0, 0, 0, []), (78, .istore 5, 0, 0, 0, []), (80, .iconst 0, 0, 0, 0, []), (81, .istore 6, 0, 0, 0, []), (83, .iload 6, 0, 0, 0, []), (85, .iload 5, 0, 0, 0, []), (87, .if_icmp .ge 47, 134, 0, 0, []), (90, .aload 4, 0, 0, 0, []), (92, .iload 6, 0, 0, 0, []), (94, .aaload, 0, 0, 0, []), (95, .astore 7, 0, 0, 0, []), (97, .aload 7, 0, 0, 0, []), (99, .invokevirtual 146, 83, 0, 3, [1446, 149, 150]), (102, .ifCond .eq 26, 128, 0, 0, []), (105, .aload 7, 0, 0, 0, []), (107, .getfield 149, 3, 1, 0, [793]), (110, .iload_n 1, 0, 0, 0, []), (111, .if_icmp .ne 17, 128, 0, 0, []), (114, .aload 7, 0, 0, 0, []), (116, .getfield 150, 3, 5, 0, [805]), (119, .ifCond .ne 9, 128, 0, 0, []), (122, .aload 7, 0, 0, 0, []), (124, .iconst 1, 0, 0, 0, []), (125, .putfield 150, 3, 5, 0, [805]), (128, .iinc 6 1, 0, 0, 0, []), (131, .goto (-48), 83, 0, 0, []), (134, .aload_n 0, 0, 0, 0, []), (135, .iload_n 1, 0, 0, 0, []), (136, .bipush 30, 0, 0, 0, []), (138, .invokevirtual 151, 128, 2, 1, [1447, 208, 209]), (141, .iload_n 2, 0, 0, 0, []), (142, .ifCond .eq 11, 153, 0, 0, []), (145, .aload_n 0, 0, 0, 0, []), (146, .getfield 32, 1, 0, 0, [919]), (149, .iload_n 1, 0, 0, 0, []), (150, .invokestatic 155, 116, 2, 0, [1448, 1449]), (153, .iload_n 3, 0, 0, 0, []), (154, .ireturn, 0, 0, 0, [])], 2, 44)
set_option maxRecDepth 20000 in
/-- 116: Mining_sink -/
def zm_Mining_sink : zM := (⟨"Siegelines$Mining", "sink", "(LSiegelines$Ground;I)V"⟩, prog_9_method_10_code, 3, none, [], [(0, .aload_n 0, 0, 0, 0, []), (1, .iload_n 1, 0, 0, 0, []), (2, .invokevirtual 159, 67, 1, 2, [1451, 168, 169]), (5, .ifCond .eq 19, 24, 0, 0, []), (8, .iload_n 1, 0, 0, 0, []), (9, .aload_n 0, 0, 0, 0, []), (10, .getfield 163, 2, 12, 0, [644]), (13, .if_icmp .eq 11, 24, 0, 0, []), (16, .iload_n 1, 0, 0, 0, []), (17, .aload_n 0, 0, 0, 0, []), (18, .getfield 166, 2, 13, 0, [648]), (21, .if_icmp .ne 4, 25, 0, 0, []), (24, .return_, 0, 0, 0, []), (25, .aload_n 0, 0, 0, 0, []), (26, .getfield 169, 2, 2, 0, [619]), (29, .iload_n 1, 0, 0, 0, []), (30, .iaload, 0, 0, 0, []), (31, .istore_n 2, 0, 0, 0, []), (32, .iload_n 2, 0, 0, 0, []), (33, .iconst 1, 0, 0, 0, []), (34, .if_icmp .eq 19, 53, 0, 0, []), (37, .iload_n 2, 0, 0, 0, []), (38, .bipush 6, 0, 0, 0, []), (40, .if_icmp .eq 13, 53, 0, 0, []), (43, .iload_n 2, 0, 0, 0, []), (44, .iconst 3, 0, 0, 0, []), (45, .if_icmp .eq 8, 53, 0, 0, []), (48, .iload_n 2, 0, 0, 0, []), (49, .iconst 2, 0, 0, 0, []), (50, .if_icmp .ne 4, 54, 0, 0, []), (53, .return_, 0, 0, 0, []), (54, .aload_n 0, 0, 0, 0, []), (55, .getfield 169, 2, 2, 0, [619]), (58, .iload_n 1, 0, 0, 0, []), (59, .bipush 7, 0, 0, 0, []), (61, .iastore, 0, 0, 0, []), (62, .aload_n 0, 0, 0, 0, []), (63, .getfield 172, 2, 0, 0, [612]), (66, .iload_n 1, 0, 0, 0, []), (67, .iaload, 0, 0, 0, []), (68, .ifCond .le 13, 81, 0, 0, []), (71, .aload_n 0, 0, 0, 0, []), (72, .getfield 172, 2, 0, 0, [612]), (75, .iload_n 1, 0, 0, 0, []), (76, .dup2, 0, 0, 0, []), (77, .iaload, 0, 0, 0, []), (78, .iconst 1, 0, 0, 0, []), (79, .isub, 0, 0, 0, []), (80, .iastore, 0, 0, 0, []), (81, .return_, 0, 0, 0, [])], 1, 21)
set_option maxRecDepth 20000 in
/-- 117: Post_new -/
def zm_Post_new : zM := (⟨"Siegelines$Post", "<init>", "()V"⟩, prog_10_method_1_code, 1, none, [], [(0, .aload_n 0, 0, 0, 0, []), (1, .invokespecial 3, 0, 0, 1000, [753]), (4, .aload_n 0, 0, 0, 0, []), (5, .bipush 6, 0, 0, 0, []), (7, .newarray .int, 100, 0, 0, [679]), (9, .putfield 9, 7, 0, 0, [754]), (12, .aload_n 0, 0, 0, 0, []), (13, .bipush 6, 0, 0, 0, []), (15, .newarray .int, 100, 0, 0, [679]), (17, .putfield 15, 7, 1, 0, [755]), (20, .aload_n 0, 0, 0, 0, []), (21, .bipush 10, 0, 0, 0, []), (23, .putfield 18, 7, 4, 0, [760]), (26, .return_, 0, 0, 0, [])], 1, 20)
set_option maxRecDepth 20000 in
/-- 118: Post_comeThrough -/
def zm_Post_comeThrough : zM := (⟨"Siegelines$Post", "comeThrough", "()V"⟩, prog_10_method_5_code, 1, none, [], [(0, .aload_n 0, 0, 0, 0, []), (1, .getfield 28, 7, 5, 0, [765]), (4, .ifCond .eq 7, 11, 0, 0, []), (7, .aload_n 0, 0, 0, 0, []), (8, .invokevirtual 38, 119, 0, 7, [432, 433, 434]), (11, .aload_n 0, 0, 0, 0, []), (12, .iconst 1, 0, 0, 0, []), (13, .putfield 28, 7, 5, 0, [765]), (16, .return_, 0, 0, 0, [])], 1, 20)
set_option maxRecDepth 20000 in
/-- 119: Post_loseDay -/
def zm_Post_loseDay : zM := (⟨"Siegelines$Post", "loseDay", "()V"⟩, prog_10_method_3_code, 1, none, [], [(0, .aload_n 0, 0, 0, 0, []), (1, .getfield 18, 7, 4, 0, [760]), (4, .ifCond .le 13, 17, 0, 0, []), (7, .aload_n 0, 0, 0, 0, []), (8, .dup, 0, 0, 0, []), (9, .getfield 18, 7, 4, 0, [760]), (12, .iconst 1, 0, 0, 0, []), (13, .isub, 0, 0, 0, []), (14, .putfield 18, 7, 4, 0, [760]), (17, .return_, 0, 0, 0, [])], 0, 0)
set_option maxRecDepth 20000 in
/-- 120: Post_swim -/
def zm_Post_swim : zM := (⟨"Siegelines$Post", "swim", "(I)V"⟩, prog_10_method_4_code, 3, none, [], [(0, .iconst 0, 0, 0, 0, []), (1, .istore_n 2, 0, 0, 0, []), (2, .iload_n 2, 0, 0, 0, []), (3, .aload_n 0, 0, 0, 0, []), (4, .getfield 22, 7, 2, 0, [756]), (7, .if_icmp .ge 88, 95, 0, 0, []), (10, .iload_n 2, 0, 0, 0, []), (11, .bipush 6, 0, 0, 0, []), (13, .if_icmp .ge 82, 95, 0, 0, []), (16, .aload_n 0, 0, 0, 0, []), (17, .getfield 15, 7, 1, 0, [755]), (20, .iload_n 2, 0, 0, 0, []), (21, .iaload, 0, 0, 0, []), (22, .ifCond .eq 6, 28, 0, 0, []), (25, .goto 64, 89, 0, 0, []), (28, .aload_n 0, 0, 0, 0, []), (29, .getfield 9, 7, 0, 0, [754]), (32, .iload_n 2, 0, 0, 0, []), (33, .dup2, 0, 0, 0, []), (34, .iaload, 0, 0, 0, []), (35, .iconst 1, 0, 0, 0, []), (36, .iadd, 0, 0, 0, []), (37, .iastore, 0, 0, 0, []), (38, .iload_n 1, 0, 0, 0, []), (39, .aload_n 0, 0, 0, 0, []), (40, .getfield 9, 7, 0, 0, [754]), (43, .iload_n 2, 0, 0, 0, []), (44, .iaload, 0, 0, 0, []), (45, .if_icmp .ge 27, 72, 0, 0, []), (48, .aload_n 0, 0, 0, 0, []), (49, .getfield 15, 7, 1, 0, [755]), (52, .iload_n 2, 0, 0, 0, []), (53, .iconst 1, 0, 0, 0, []), (54, .iastore, 0, 0, 0, []), (55, .aload_n 0, 0, 0, 0, []), (56, .dup, 0, 0, 0, []), (57, .getfield 25, 7, 3, 0, [758]), (60, .iconst 1, 0, 0, 0, []), (61, .iadd, 0, 0, 0, []), (62, .putfield 25, 7, 3, 0, [758]), (65, .aload_n 0, 0, 0, 0, []), (66, .invokevirtual 35, 118, 0, 7, [427, 429, 3]), (69, .goto 20, 89, 0, 0, []), (72, .aload_n 0, 0, 0, 0, []), (73, .getfield 9, 7, 0, 0, [754]), (76, .iload_n 2, 0, 0, 0, []), (77, .iaload, 0, 0, 0, []), (78, .iconst 4, 0, 0, 0, []), (79, .if_icmp .lt 10, 89, 0, 0, []), (82, .aload_n 0, 0, 0, 0, []), (83, .getfield 15, 7, 1, 0, [755]), (86, .iload_n 2, 0, 0, 0, []), (87, .iconst 2, 0, 0, 0, []), (88, .iastore, 0, 0, 0, []), (89, .iinc 2 1, 0, 0, 0, []), (92, .goto (-90), 2, 0, 0, []), (95, .return_, 0, 0, 0, [])], 2, 40)
set_option maxRecDepth 20000 in
/-- 121: Side_new -/
def zm_Side_new : zM := (⟨"Siegelines$Side", "<init>", "()V"⟩, prog_11_method_1_code, 1, none, [], [(0, .aload_n 0, 0, 0, 0, []), (1, .invokespecial 1, 0, 0, 1000, [691]), (4, .aload_n 0, 0, 0, 0, []), (5, .bipush 60, 0, 0, 0, []), (7, .putfield 7, 6, 3, 0, [705]), (10, .return_, 0, 0, 0, [])], 1, 20)
set_option maxRecDepth 20000 in
/-- 122: Side_changeMorale -/
def zm_Side_changeMorale : zM := (⟨"Siegelines$Side", "changeMorale", "(I)V"⟩, prog_11_method_4_code, 3, none, [], [(0, .aload_n 0, 0, 0, 0, []), (1, .getfield 7, 6, 3, 0, [705]), (4, .iload_n 1, 0, 0, 0, []), (5, .iadd, 0, 0, 0, []), (6, .istore_n 2, 0, 0, 0, []), (7, .aload_n 0, 0, 0, 0, []), (8, .iload_n 2, 0, 0, 0, []), (9, .ifCond .ge 7, 16, 0, 0, []), (12, .iconst 0, 0, 0, 0, []), (13, .goto 15, 28, 0, 0, []), (16, .iload_n 2, 0, 0, 0, []), (17, .bipush 100, 0, 0, 0, []), (19, .if_icmp .le 8, 27, 0, 0, []), (22, .bipush 100, 0, 0, 0, []), (24, .goto 4, 28, 0, 0, []), (27, .iload_n 2, 0, 0, 0, []), (28, .putfield 7, 6, 3, 0, [705]), (31, .return_, 0, 0, 0, [])], 0, 0)
set_option maxRecDepth 20000 in
/-- 123: Side_spend -/
def zm_Side_spend : zM := (⟨"Siegelines$Side", "spend", "(I)V"⟩, prog_11_method_5_code, 2, none, [], [(0, .aload_n 0, 0, 0, 0, []), (1, .dup, 0, 0, 0, []), (2, .getfield 13, 6, 0, 0, [692]), (5, .iload_n 1, 0, 0, 0, []), (6, .isub, 0, 0, 0, []), (7, .putfield 13, 6, 0, 0, [692]), (10, .aload_n 0, 0, 0, 0, []), (11, .dup, 0, 0, 0, []), (12, .getfield 28, 6, 6, 0, [713]), (15, .iload_n 1, 0, 0, 0, []), (16, .iadd, 0, 0, 0, []), (17, .putfield 28, 6, 6, 0, [713]), (20, .return_, 0, 0, 0, [])], 0, 0)
set_option maxRecDepth 20000 in
/-- 124: Side_tell -/
def zm_Side_tell : zM := (⟨"Siegelines$Side", "tell", "(IIII)V"⟩, prog_11_method_2_code, 5, none, [], [(0, .aload_n 0, 0, 0, 0, []), (1, .iload_n 1, 0, 0, 0, []), (2, .putfield 13, 6, 0, 0, [692]), (5, .aload_n 0, 0, 0, 0, []), (6, .iload_n 2, 0, 0, 0, []), (7, .putfield 16, 6, 1, 0, [697]), (10, .aload_n 0, 0, 0, 0, []), (11, .iload_n 3, 0, 0, 0, []), (12, .putfield 19, 6, 2, 0, [701]), (15, .aload_n 0, 0, 0, 0, []), (16, .iload 4, 0, 0, 0, []), (18, .putfield 7, 6, 3, 0, [705]), (21, .return_, 0, 0, 0, [])], 0, 0)
set_option maxRecDepth 20000 in
/-- 125: Siege_new -/
def zm_Siege_new : zM := (⟨"Siegelines$Siege", "<init>", "()V"⟩, prog_12_method_1_code, 2, none, [], [(0, .aload_n 0, 0, 0, 0, []), (1, .invokespecial 3, 0, 0, 1000, [605]), (4, .aload_n 0, 0, 0, 0, []), (5, .new 9, 2, 0, 0, [606]), (8, .dup, 0, 0, 0, []), (9, .invokespecial 11, 56, 0, 2, [607, 608]), (12, .putfield 12, 1, 0, 0, [914]), (15, .aload_n 0, 0, 0, 0, []), (16, .bipush 16, 0, 0, 0, []), (18, .anewarray 18, 103, 0, 0, [680]), (21, .putfield 20, 1, 1, 0, [920]), (24, .aload_n 0, 0, 0, 0, []), (25, .bipush 12, 0, 0, 0, []), (27, .anewarray 24, 104, 0, 0, [682]), (30, .putfield 26, 1, 2, 0, [925]), (33, .aload_n 0, 0, 0, 0, []), (34, .bipush 6, 0, 0, 0, []), (36, .anewarray 30, 105, 0, 0, [684]), (39, .putfield 32, 1, 3, 0, [931]), (42, .aload_n 0, 0, 0, 0, []), (43, .new 36, 6, 0, 0, [686]), (46, .dup, 0, 0, 0, []), (47, .invokespecial 38, 121, 0, 6, [688, 689]), (50, .putfield 39, 1, 4, 0, [934]), (53, .aload_n 0, 0, 0, 0, []), (54, .new 36, 6, 0, 0, [686]), (57, .dup, 0, 0, 0, []), (58, .invokespecial 38, 121, 0, 6, [688, 689]), (61, .putfield 43, 1, 5, 0, [939]), (64, .aload_n 0, 0, 0, 0, []), (65, .new 46, 7, 0, 0, [749]), (68, .dup, 0, 0, 0, []), (69, .invokespecial 48, 117, 0, 7, [750, 751]), (72, .putfield 49, 1, 6, 0, [942]), (75, .aload_n 0, 0, 0, 0, []), (76, .iconst (-1), 0, 0, 0, []), (77, .putfield 53, 1, 12, 0, [955]), (80, .iconst 0, 0, 0, 0, []), (81, .istore_n 1, 0, 0, 0, []), (82, .iload_n 1, 0, 0, 0, []), (83, .bipush 16, 0, 0, 0, []), (85, .if_icmp .ge 22, 107, 0, 0, []), (88, .aload_n 0, 0, 0, 0, []), (89, .getfield 20, 1, 1, 0, [920]), (92, .iload_n 1, 0, 0, 0, []), (93, .new 18, 3, 0, 0, [680]), (96, .dup, 0, 0, 0, []), (97, .invokespecial 57, 82, 0, 3, [784, 785]), (100, .aastore, 103, 3, 0, []), (101, .iinc 1 1, 0, 0, 0, []), (104, .goto (-22), 82, 0, 0, []), (107, .iconst 0, 0, 0, 0, []), (108, .istore_n 1, 0, 0, 0, []), (109, .iload_n 1, 0, 0, 0, []), (110, .bipush 12, 0, 0, 0, []), (112, .if_icmp .ge 22, 134, 0, 0, []), (115, .aload_n 0, 0, 0, 0, []), (116, .getfield 26, 1, 2, 0, [925]), (119, .iload_n 1, 0, 0, 0, []), (120, .new 24, 4, 0, 0, [682]), (123, .dup, 0, 0, 0, []), (124, .invokespecial 58, 32, 0, 4, [827, 828]), (127, .aastore, 104, 4, 0, []), (128, .iinc 1 1, 0, 0, 0, []), (131, .goto (-22), 109, 0, 0, []), (134, .iconst 0, 0, 0, 0, []), (135, .istore_n 1, 0, 0, 0, []), (136, .iload_n 1, 0, 0, 0, []), (137, .bipush 6, 0, 0, 0, []), (139, .if_icmp .ge 22, 161, 0, 0, []), (142, .aload_n 0, 0, 0, 0, []), (143, .getfield 32, 1, 3, 0, [931]), (146, .iload_n 1, 0, 0, 0, []), (147, .new 30, 5, 0, 0, [684]), (150, .dup, 0, 0, 0, []), (151, .invokespecial 59, 101, 0, 5, [874, 875]), (154, .aastore, 105, 5, 0, []), (155, .iinc 1 1, 0, 0, 0, []), (158, .goto (-22), 136, 0, 0, []), (161, .return_, 0, 0, 0, [])], 2, 40)
set_option maxRecDepth 20000 in
/-- 126: Siege_areMenSound -/
def zm_Siege_areMenSound : zM := (⟨"Siegelines$Siege", "areMenSound", "()Z"⟩, prog_12_method_37_code, 5, some (.boolean), [], [(0, .aload_n 0, 0, 0, 0, []), (1, .getfield 26, 1, 2, 0, [925]), (4, .astore_n 1, 0, 0, 0, []), (5, .aload_n 1, 0, 0, 0, []), (6, .arraylength, 0, 0, 0, []), (7, .istore_n 2, 0, 0, 0, []), (8, .iconst 0, 0, 0, 0, []), (9, .istore_n 3, 0, 0, 0, []), (10, .iload_n 3, 0, 0, 0, []), (11, .iload_n 2, 0, 0, 0, []), (12, .if_icmp .ge 35, 47, 0, 0, []), (15, .aload_n 1, 0, 0, 0, []), (16, .iload_n 3, 0, 0, 0, []), (17, .aaload, 0, 0, 0, []), (18, .astore 4, 0, 0, 0, []), (20, .aload 4, 0, 0, 0, []), (22, .getfield 172, 4, 2, 0, [848]), (25, .ifCond .lt 14, 39, 0, 0, []), (28, .aload 4, 0, 0, 0, []), (30, .getfield 172, 4, 2, 0, [848]), (33, .sipush 200, 0, 0, 0, []), (36, .if_icmp .le 5, 41, 0, 0, []), (39, .iconst 0, 0, 0, 0, []), (40, .ireturn, 0, 0, 0, []), (41, .iinc 3 1, 0, 0, 0, []), (44, .goto (-34), 10, 0, 0, []), (47, .iconst 1, 0, 0, 0, []), (48, .ireturn, 0, 0, 0, [])], 0, 0)
set_option maxRecDepth 20000 in
/-- 127: Siege_askWhetherOver -/
def zm_Siege_askWhetherOver : zM := (⟨"Siegelines$Siege", "askWhetherOver", "()Z"⟩, prog_12_method_29_code, 1, some (.boolean), [], [(0, .aload_n 0, 0, 0, 0, []), (1, .iconst 0, 0, 0, 0, []), (2, .aload_n 0, 0, 0, 0, []), (3, .getfield 12, 1, 0, 0, [914]), (6, .getfield 149, 2, 13, 0, [649]), (9, .invokevirtual 165, 142, 2, 1, [242, 243, 244]), (12, .ifCond .eq 21, 33, 0, 0, []), (15, .aload_n 0, 0, 0, 0, []), (16, .dup, 0, 0, 0, []), (17, .getfield 78, 1, 14, 0, [959]), (20, .iconst 2, 0, 0, 0, []), (21, .idiv, 0, 0, 0, []), (22, .putfield 78, 1, 14, 0, [959]), (25, .aload_n 0, 0, 0, 0, []), (26, .iconst 0, 0, 0, 0, []), (27, .invokevirtual 246, 134, 1, 1, [247, 249, 2]), (30, .goto 42, 72, 0, 0, []), (33, .aload_n 0, 0, 0, 0, []), (34, .iconst 1, 0, 0, 0, []), (35, .invokevirtual 249, 130, 1, 1, [252, 253, 254]), (38, .ifCond .ne 11, 49, 0, 0, []), (41, .aload_n 0, 0, 0, 0, []), (42, .iconst 0, 0, 0, 0, []), (43, .invokevirtual 246, 134, 1, 1, [247, 249, 2]), (46, .goto 26, 72, 0, 0, []), (49, .aload_n 0, 0, 0, 0, []), (50, .getfield 39, 1, 4, 0, [934]), (53, .getfield 185, 6, 3, 0, [707]), (56, .ifCond .eq 11, 67, 0, 0, []), (59, .aload_n 0, 0, 0, 0, []), (60, .iconst 0, 0, 0, 0, []), (61, .invokevirtual 249, 130, 1, 1, [252, 253, 254]), (64, .ifCond .ne 8, 72, 0, 0, []), (67, .aload_n 0, 0, 0, 0, []), (68, .iconst (-1), 0, 0, 0, []), (69, .invokevirtual 246, 134, 1, 1, [247, 249, 2]), (72, .aload_n 0, 0, 0, 0, []), (73, .getfield 112, 1, 11, 0, [954]), (76, .iconst 2, 0, 0, 0, []), (77, .if_icmp .ne 7, 84, 0, 0, []), (80, .iconst 1, 0, 0, 0, []), (81, .goto 4, 85, 0, 0, []), (84, .iconst 0, 0, 0, 0, []), (85, .ireturn, 0, 0, 0, [])], 2, 48)
set_option maxRecDepth 20000 in
/-- 128: Siege_batter -/
def zm_Siege_batter : zM := (⟨"Siegelines$Siege", "batter", "(II)V"⟩, prog_12_method_27_code, 3, none, [], [(0, .aload_n 0, 0, 0, 0, []), (1, .getfield 12, 1, 0, 0, [914]), (4, .iload_n 1, 0, 0, 0, []), (5, .invokevirtual 198, 67, 1, 2, [211, 168, 169]), (8, .ifCond .eq 16, 24, 0, 0, []), (11, .aload_n 0, 0, 0, 0, []), (12, .getfield 12, 1, 0, 0, [914]), (15, .getfield 201, 2, 2, 0, [620]), (18, .iload_n 1, 0, 0, 0, []), (19, .iaload, 0, 0, 0, []), (20, .iconst 1, 0, 0, 0, []), (21, .if_icmp .eq 4, 25, 0, 0, []), (24, .return_, 0, 0, 0, []), (25, .aload_n 0, 0, 0, 0, []), (26, .getfield 12, 1, 0, 0, [914]), (29, .getfield 205, 2, 3, 0, [623]), (32, .iload_n 1, 0, 0, 0, []), (33, .dup2, 0, 0, 0, []), (34, .iaload, 0, 0, 0, []), (35, .iload_n 2, 0, 0, 0, []), (36, .isub, 0, 0, 0, []), (37, .iastore, 0, 0, 0, []), (38, .aload_n 0, 0, 0, 0, []), (39, .getfield 12, 1, 0, 0, [914]), (42, .getfield 205, 2, 3, 0, [623]), (45, .iload_n 1, 0, 0, 0, []), (46, .iaload, 0, 0, 0, []), (47, .ifCond .le 4, 51, 0, 0, []), (50, .return_, 0, 0, 0, []), (51, .aload_n 0, 0, 0, 0, []), (52, .getfield 12, 1, 0, 0, [914]), (55, .getfield 201, 2, 2, 0, [620]), (58, .iload_n 1, 0, 0, 0, []), (59, .bipush 6, 0, 0, 0, []), (61, .iastore, 0, 0, 0, []), (62, .aload_n 0, 0, 0, 0, []), (63, .getfield 12, 1, 0, 0, [914]), (66, .getfield 205, 2, 3, 0, [623]), (69, .iload_n 1, 0, 0, 0, []), (70, .iconst 0, 0, 0, 0, []), (71, .iastore, 0, 0, 0, []), (72, .aload_n 0, 0, 0, 0, []), (73, .getfield 12, 1, 0, 0, [914]), (76, .getfield 208, 2, 0, 0, [614]), (79, .iload_n 1, 0, 0, 0, []), (80, .iaload, 0, 0, 0, []), (81, .ifCond .le 16, 97, 0, 0, []), (84, .aload_n 0, 0, 0, 0, []), (85, .getfield 12, 1, 0, 0, [914]), (88, .getfield 208, 2, 0, 0, [614]), (91, .iload_n 1, 0, 0, 0, []), (92, .dup2, 0, 0, 0, []), (93, .iaload, 0, 0, 0, []), (94, .iconst 1, 0, 0, 0, []), (95, .isub, 0, 0, 0, []), (96, .iastore, 0, 0, 0, []), (97, .aload_n 0, 0, 0, 0, []), (98, .dup, 0, 0, 0, []), (99, .getfield 115, 1, 13, 0, [957]), (102, .iconst 1, 0, 0, 0, []), (103, .iadd, 0, 0, 0, []), (104, .putfield 115, 1, 13, 0, [957]), (107, .aload_n 0, 0, 0, 0, []), (108, .getfield 43, 1, 5, 0, [939]), (111, .bipush (-8), 0, 0, 0, []), (113, .invokevirtual 194, 122, 1, 6, [212, 213, 214]), (116, .return_, 0, 0, 0, [])], 1, 22)
set_option maxRecDepth 20000 in
/-- 129: Siege_beginMine -/
def zm_Siege_beginMine : zM := (⟨"Siegelines$Siege", "beginMine", "(III)I"⟩, prog_12_method_11_code, 4, some (.int), [], [(0, .aload_n 0, 0, 0, 0, []), (1, .getfield 106, 1, 9, 0, [949]), (4, .ifCond .lt 12, 16, 0, 0, []), (7, .aload_n 0, 0, 0, 0, []), (8, .getfield 106, 1, 9, 0, [949]), (11, .bipush 6, 0, 0, 0, []), (13, .if_icmp .lt 5, 18, 0, 0, []), (16, .iconst (-1), 0, 0, 0, []), (17, .ireturn, 0, 0, 0, []), (18, .aload_n 0, 0, 0, 0, []), (19, .getfield 32, 1, 3, 0, [931]), (22, .aload_n 0, 0, 0, 0, []), (23, .getfield 106, 1, 9, 0, [949]), (26, .aaload, 0, 0, 0, []), (27, .iload_n 1, 0, 0, 0, []), (28, .iload_n 2, 0, 0, 0, []), (29, .iload_n 3, 0, 0, 0, []), (30, .invokevirtual 121, 107, 3, 5, [1405, 1406, 1407]), (33, .aload_n 0, 0, 0, 0, []), (34, .dup, 0, 0, 0, []), (35, .getfield 106, 1, 9, 0, [949]), (38, .iconst 1, 0, 0, 0, []), (39, .iadd, 0, 0, 0, []), (40, .putfield 106, 1, 9, 0, [949]), (43, .aload_n 0, 0, 0, 0, []), (44, .getfield 106, 1, 9, 0, [949]), (47, .iconst 1, 0, 0, 0, []), (48, .isub, 0, 0, 0, []), (49, .ireturn, 0, 0, 0, [])], 1, 23)
set_option maxRecDepth 20000 in
/-- 130: Siege_companiesOf -/
def zm_Siege_companiesOf : zM := (⟨"Siegelines$Siege", "companiesOf", "(I)I"⟩, prog_12_method_21_code, 7, some (.int), [], [(0, .iconst 0, 0, 0, 0, []), (1, .istore_n 2, 0, 0, 0, []), (2, .aload_n 0, 0, 0, 0, []), (3, .getfield 26, 1, 2, 0, [925]), (6, .astore_n 3, 0, 0, 0, []), (7, .aload_n 3, 0, 0, 0, []), (8, .arraylength, 0, 0, 0, []), (9, .istore 4, 0, 0, 0, []), (11, .iconst 0, 0, 0, 0, []), (12, .istore 5, 0, 0, 0, []), (14, .iload 5, 0, 0, 0, []), (16, .iload 4, 0, 0, 0, []), (18, .if_icmp .ge 35, 53, 0, 0, []), (21, .aload_n 3, 0, 0, 0, []), (22, .iload 5, 0, 0, 0, []), (24, .aaload, 0, 0, 0, []), (25, .astore 6, 0, 0, 0, []), (27, .aload 6, 0, 0, 0, []), (29, .getfield 175, 4, 0, 0, [836]), (32, .iload_n 1, 0, 0, 0, []), (33, .if_icmp .ne 14, 47, 0, 0, []), (36, .aload 6, 0, 0, 0, []), (38, .getfield 172, 4, 2, 0, [848]), (41, .ifCond .le 6, 47, 0, 0, []), (44, .iinc 2 1, 0, 0, 0, []), (47, .iinc 5 1, 0, 0, 0, []), (50, .goto (-36), 14, 0, 0, []), (53, .iload_n 2, 0, 0, 0, []), (54, .ireturn, 0, 0, 0, [])], 0, 0)
set_option maxRecDepth 20000 in
/-- 131: Siege_companyAt -/
def zm_Siege_companyAt : zM := (⟨"Siegelines$Siege", "companyAt", "(I)LSiegelines$Company;"⟩, prog_12_method_7_code, 2, some ((.object "Siegelines$Company")), [], [(0, .iload_n 1, 0, 0, 0, []), (1, .ifCond .lt 26, 27, 0, 0, []), (4, .iload_n 1, 0, 0, 0, []), (5, .aload_n 0, 0, 0, 0, []), (6, .getfield 68, 1, 8, 0, [947]), (9, .if_icmp .ge 18, 27, 0, 0, []), (12, .iload_n 1, 0, 0, 0, []), (13, .bipush 12, 0, 0, 0, []), (15, .if_icmp .ge 12, 27, 0, 0, []), (18, .aload_n 0, 0, 0, 0, []), (19, .getfield 26, 1, 2, 0, [925]), (22, .iload_n 1, 0, 0, 0, []), (23, .aaload, 0, 0, 0, []), (24, .goto 4, 28, 0, 0, []), (27, .aconst_null, 0, 0, 0, []), (28, .areturn, 0, 0, 0, [])], 0, 0)
set_option maxRecDepth 20000 in
/-- 132: Siege_countFight -/
def zm_Siege_countFight : zM := (⟨"Siegelines$Siege", "countFight", "(I)V"⟩, prog_12_method_26_code, 2, none, [], [(0, .aload_n 0, 0, 0, 0, []), (1, .iload_n 1, 0, 0, 0, []), (2, .invokevirtual 122, 150, 1, 1, [237, 197, 198]), (5, .dup, 0, 0, 0, []), (6, .getfield 191, 6, 8, 0, [719]), (9, .iconst 1, 0, 0, 0, []), (10, .iadd, 0, 0, 0, []), (11, .putfield 191, 6, 8, 0, [719]), (14, .aload_n 0, 0, 0, 0, []), (15, .iload_n 1, 0, 0, 0, []), (16, .invokevirtual 122, 150, 1, 1, [237, 197, 198]), (19, .iconst 4, 0, 0, 0, []), (20, .invokevirtual 194, 122, 1, 6, [212, 213, 214]), (23, .aload_n 0, 0, 0, 0, []), (24, .iconst 1, 0, 0, 0, []), (25, .iload_n 1, 0, 0, 0, []), (26, .isub, 0, 0, 0, []), (27, .invokevirtual 122, 150, 1, 1, [237, 197, 198]), (30, .bipush (-4), 0, 0, 0, []), (32, .invokevirtual 194, 122, 1, 6, [212, 213, 214]), (35, .return_, 0, 0, 0, [])], 1, 22)
set_option maxRecDepth 20000 in
/-- 133: Siege_depth -/
def zm_Siege_depth : zM := (⟨"Siegelines$Siege", "depth", "()I"⟩, prog_12_method_32_code, 3, some (.int), [], [(0, .aload_n 0, 0, 0, 0, []), (1, .iconst 3, 0, 0, 0, []), (2, .invokevirtual 265, 156, 1, 1, [474, 476, 6]), (5, .ifCond .eq 5, 10, 0, 0, []), (8, .iconst 5, 0, 0, 0, []), (9, .ireturn, 0, 0, 0, []), (10, .aload_n 0, 0, 0, 0, []), (11, .getfield 12, 1, 0, 0, [914]), (14, .bipush 6, 0, 0, 0, []), (16, .invokevirtual 268, 61, 1, 2, [479, 416, 417]), (19, .ifCond .le 16, 35, 0, 0, []), (22, .aload_n 0, 0, 0, 0, []), (23, .invokevirtual 271, 155, 0, 1, [480, 482, 7]), (26, .ifCond .eq 7, 33, 0, 0, []), (29, .iconst 4, 0, 0, 0, []), (30, .goto 4, 34, 0, 0, []), (33, .iconst 3, 0, 0, 0, []), (34, .ireturn, 0, 0, 0, []), (35, .iconst 0, 0, 0, 0, []), (36, .istore_n 1, 0, 0, 0, []), (37, .iconst 0, 0, 0, 0, []), (38, .istore_n 2, 0, 0, 0, []), (39, .iload_n 2, 0, 0, 0, []), (40, .aload_n 0, 0, 0, 0, []), (41, .getfield 12, 1, 0, 0, [914]), (44, .getfield 274, 2, 11, 0, [641]), (47, .if_icmp .ge 53, 100, 0, 0, []), (50, .aload_n 0, 0, 0, 0, []), (51, .getfield 12, 1, 0, 0, [914]), (54, .iload_n 2, 0, 0, 0, []), (55, .invokevirtual 277, 81, 1, 2, [478, 220, 221]), (58, .iconst 5, 0, 0, 0, []), (59, .if_icmp .eq 6, 65, 0, 0, []), (62, .goto 32, 94, 0, 0, []), (65, .aload_n 0, 0, 0, 0, []), (66, .getfield 12, 1, 0, 0, [914]), (69, .iload_n 2, 0, 0, 0, []), (70, .iconst 2, 0, 0, 0, []), (71, .invokevirtual 280, 80, 2, 2, [484, 485, 486]), (74, .ifCond .eq 5, 79, 0, 0, []), (77, .iconst 2, 0, 0, 0, []), (78, .ireturn, 0, 0, 0, []), (79, .aload_n 0, 0, 0, 0, []), (80, .getfield 12, 1, 0, 0, [914]), (83, .iload_n 2, 0, 0, 0, []), (84, .iconst 1, 0, 0, 0, []), (85, .iconst 3, 0, 0, 0, []), (86, .invokevirtual 283, 66, 3, 2, [489, 490, 491]), (89, .ifCond .eq 5, 94, 0, 0, []), (92, .iconst 1, 0, 0, 0, []), (93, .istore_n 1, 0, 0, 0, []), (94, .iinc 2 1, 0, 0, 0, []), (97, .goto (-58), 39, 0, 0, []), (100, .iload_n 1, 0, 0, 0, []), (101, .ireturn, 0, 0, 0, [])], 4, 91)
set_option maxRecDepth 20000 in
/-- 134: Siege_end -/
def zm_Siege_end : zM := (⟨"Siegelines$Siege", "end", "(I)V"⟩, prog_12_method_30_code, 2, none, [], [(0, .aload_n 0, 0, 0, 0, []), (1, .iconst 2, 0, 0, 0, []), (2, .putfield 112, 1, 11, 0, [954]), (5, .aload_n 0, 0, 0, 0, []), (6, .iload_n 1, 0, 0, 0, []), (7, .putfield 53, 1, 12, 0, [955]), (10, .return_, 0, 0, 0, [])], 0, 0)
set_option maxRecDepth 20000 in
/-- 135: Siege_forceOf -/
def zm_Siege_forceOf : zM := (⟨"Siegelines$Siege", "forceOf", "(LSiegelines$Company;)I"⟩, prog_12_method_24_code, 2, some (.int), [], [(0, .aload_n 1, 0, 0, 0, []), (1, .getfield 172, 4, 2, 0, [848]), (4, .bipush 14, 0, 0, 0, []), (6, .aload_n 1, 0, 0, 0, []), (7, .getfield 182, 4, 3, 0, [852]), (10, .isub, 0, 0, 0, []), (11, .imul, 0, 0, 0, []), (12, .aload_n 0, 0, 0, 0, []), (13, .aload_n 1, 0, 0, 0, []), (14, .getfield 175, 4, 0, 0, [836]), (17, .invokevirtual 122, 150, 1, 1, [237, 197, 198]), (20, .getfield 185, 6, 3, 0, [707]), (23, .bipush 50, 0, 0, 0, []), (25, .iadd, 0, 0, 0, []), (26, .imul, 0, 0, 0, []), (27, .ireturn, 0, 0, 0, [])], 1, 21)
set_option maxRecDepth 20000 in
/-- 136: Siege_freshCompanyAt -/
def zm_Siege_freshCompanyAt : zM := (⟨"Siegelines$Siege", "freshCompanyAt", "(II)LSiegelines$Company;"⟩, prog_12_method_23_code, 7, some ((.object "Siegelines$Company")), [], [(0, .aload_n 0, 0, 0, 0, []), (1, .getfield 26, 1, 2, 0, [925]), (4, .astore_n 3, 0, 0, 0, []), (5, .aload_n 3, 0, 0, 0, []), (6, .arraylength, 0, 0, 0, []), (7, .istore 4, 0, 0, 0, []), (9, .iconst 0, 0, 0, 0, []), (10, .istore 5, 0, 0, 0, []), (12, .iload 5, 0, 0, 0, []), (14, .iload 4, 0, 0, 0, []), (16, .if_icmp .ge 38, 54, 0, 0, []), (19, .aload_n 3, 0, 0, 0, []), (20, .iload 5, 0, 0, 0, []), (22, .aaload, 0, 0, 0, []), (23, .astore 6, 0, 0, 0, []), (25, .aload 6, 0, 0, 0, []), (27, .iload_n 1, 0, 0, 0, []), (28, .iload_n 2, 0, 0, 0, []), (29, .invokevirtual 169, 33, 2, 4, [246, 230, 231]), (32, .ifCond .eq 16, 48, 0, 0, []), (35, .aload 6, 0, 0, 0, []), (37, .getfield 182, 4, 3, 0, [852]), (40, .bipush 8, 0, 0, 0, []), (42, .if_icmp .ge 6, 48, 0, 0, []), (45, .aload 6, 0, 0, 0, []), (47, .areturn, 0, 0, 0, []), (48, .iinc 5 1, 0, 0, 0, []), (51, .goto (-39), 12, 0, 0, []), (54, .aconst_null, 0, 0, 0, []), (55, .areturn, 0, 0, 0, [])], 1, 22)
set_option maxRecDepth 20000 in
/-- 137: Siege_gunAt -/
def zm_Siege_gunAt : zM := (⟨"Siegelines$Siege", "gunAt", "(I)LSiegelines$Gun;"⟩, prog_12_method_6_code, 2, some ((.object "Siegelines$Gun")), [], [(0, .iload_n 1, 0, 0, 0, []), (1, .ifCond .lt 26, 27, 0, 0, []), (4, .iload_n 1, 0, 0, 0, []), (5, .aload_n 0, 0, 0, 0, []), (6, .getfield 65, 1, 7, 0, [945]), (9, .if_icmp .ge 18, 27, 0, 0, []), (12, .iload_n 1, 0, 0, 0, []), (13, .bipush 16, 0, 0, 0, []), (15, .if_icmp .ge 12, 27, 0, 0, []), (18, .aload_n 0, 0, 0, 0, []), (19, .getfield 20, 1, 1, 0, [920]), (22, .iload_n 1, 0, 0, 0, []), (23, .aaload, 0, 0, 0, []), (24, .goto 4, 28, 0, 0, []), (27, .aconst_null, 0, 0, 0, []), (28, .areturn, 0, 0, 0, [])], 0, 0)
set_option maxRecDepth 20000 in
/-- 138: Siege_homeOf -/
def zm_Siege_homeOf : zM := (⟨"Siegelines$Siege", "homeOf", "(I)I"⟩, prog_12_method_13_code, 2, some (.int), [], [(0, .iload_n 1, 0, 0, 0, []), (1, .iconst 1, 0, 0, 0, []), (2, .if_icmp .ne 13, 15, 0, 0, []), (5, .aload_n 0, 0, 0, 0, []), (6, .getfield 12, 1, 0, 0, [914]), (9, .getfield 149, 2, 13, 0, [649]), (12, .goto 10, 22, 0, 0, []), (15, .aload_n 0, 0, 0, 0, []), (16, .getfield 12, 1, 0, 0, [914]), (19, .getfield 152, 2, 12, 0, [645]), (22, .ireturn, 0, 0, 0, [])], 0, 0)
set_option maxRecDepth 20000 in
/-- 139: Siege_hourOfDay -/
def zm_Siege_hourOfDay : zM := (⟨"Siegelines$Siege", "hourOfDay", "()I"⟩, prog_12_method_14_code, 1, some (.int), [], [(0, .aload_n 0, 0, 0, 0, []), (1, .getfield 109, 1, 10, 0, [951]), (4, .bipush 24, 0, 0, 0, []), (6, .irem, 0, 0, 0, []), (7, .ireturn, 0, 0, 0, [])], 0, 0)
set_option maxRecDepth 20000 in
/-- 140: Siege_isAllSound -/
def zm_Siege_isAllSound : zM := (⟨"Siegelines$Siege", "isAllSound", "()Z"⟩, prog_12_method_35_code, 1, some (.boolean), [], [(0, .aload_n 0, 0, 0, 0, []), (1, .iconst 0, 0, 0, 0, []), (2, .invokevirtual 288, 144, 1, 1, [571, 573, 12]), (5, .ifCond .eq 29, 34, 0, 0, []), (8, .aload_n 0, 0, 0, 0, []), (9, .iconst 1, 0, 0, 0, []), (10, .invokevirtual 288, 144, 1, 1, [571, 573, 12]), (13, .ifCond .eq 21, 34, 0, 0, []), (16, .aload_n 0, 0, 0, 0, []), (17, .invokevirtual 291, 126, 0, 1, [576, 578, 13]), (20, .ifCond .eq 14, 34, 0, 0, []), (23, .aload_n 0, 0, 0, 0, []), (24, .invokevirtual 294, 141, 0, 1, [580, 582, 14]), (27, .ifCond .eq 7, 34, 0, 0, []), (30, .iconst 1, 0, 0, 0, []), (31, .goto 4, 35, 0, 0, []), (34, .iconst 0, 0, 0, 0, []), (35, .ireturn, 0, 0, 0, [])], 3, 65)
set_option maxRecDepth 20000 in
/-- 141: Siege_isGroundSound -/
def zm_Siege_isGroundSound : zM := (⟨"Siegelines$Siege", "isGroundSound", "()Z"⟩, prog_12_method_38_code, 4, some (.boolean), [], [(0, .iconst 0, 0, 0, 0, []), (1, .istore_n 1, 0, 0, 0, []), (2, .iload_n 1, 0, 0, 0, []), (3, .aload_n 0, 0, 0, 0, []), (4, .getfield 12, 1, 0, 0, [914]), (7, .getfield 274, 2, 11, 0, [641]), (10, .if_icmp .ge 84, 94, 0, 0, []), (13, .aload_n 0, 0, 0, 0, []), (14, .getfield 12, 1, 0, 0, [914]), (17, .iload_n 1, 0, 0, 0, []), (18, .invokevirtual 277, 81, 1, 2, [478, 220, 221]), (21, .istore_n 2, 0, 0, 0, []), (22, .iload_n 1, 0, 0, 0, []), (23, .aload_n 0, 0, 0, 0, []), (24, .getfield 12, 1, 0, 0, [914]), (27, .getfield 152, 2, 12, 0, [645]), (30, .if_icmp .eq 14, 44, 0, 0, []), (33, .iload_n 1, 0, 0, 0, []), (34, .aload_n 0, 0, 0, 0, []), (35, .getfield 12, 1, 0, 0, [914]), (38, .getfield 149, 2, 13, 0, [649]), (41, .if_icmp .ne 7, 48, 0, 0, []), (44, .iconst 1, 0, 0, 0, []), (45, .goto 4, 49, 0, 0, []), (48, .iconst 0, 0, 0, 0, []), (49, .istore_n 3, 0, 0, 0, []), (50, .iload_n 3, 0, 0, 0, []), (51, .ifCond .eq 19, 70, 0, 0, []), (54, .iload_n 2, 0, 0, 0, []), (55, .ifCond .eq 15, 70, 0, 0, []), (58, .iload_n 2, 0, 0, 0, []), (59, .iconst 3, 0, 0, 0, []), (60, .if_icmp .eq 10, 70, 0, 0, []), (63, .iload_n 2, 0, 0, 0, []), (64, .iconst 4, 0, 0, 0, []), (65, .if_icmp .eq 5, 70, 0, 0, []), (68, .iconst 0, 0, 0, 0, []), (69, .ireturn, 0, 0, 0, []), (70, .iload_n 2, 0, 0, 0, []), (71, .iconst 1, 0, 0, 0, []), (72, .if_icmp .ne 16, 88, 0, 0, []), (75, .aload_n 0, 0, 0, 0, []), (76, .getfield 12, 1, 0, 0, [914]), (79, .iload_n 1, 0, 0, 0, []), (80, .invokevirtual 310, 64, 1, 2, [584, 514, 515]), (83, .ifCond .gt 5, 88, 0, 0, []), (86, .iconst 0, 0, 0, 0, []), (87, .ireturn, 0, 0, 0, []), (88, .iinc 1 1, 0, 0, 0, []), (91, .goto (-89), 2, 0, 0, []), (94, .iconst 1, 0, 0, 0, []), (95, .ireturn, 0, 0, 0, [])], 2, 42)
set_option maxRecDepth 20000 in
/-- 142: Siege_isHeldBy -/
def zm_Siege_isHeldBy : zM := (⟨"Siegelines$Siege", "isHeldBy", "(II)Z"⟩, prog_12_method_18_code, 7, some (.boolean), [], [(0, .aload_n 0, 0, 0, 0, []), (1, .getfield 26, 1, 2, 0, [925]), (4, .astore_n 3, 0, 0, 0, []), (5, .aload_n 3, 0, 0, 0, []), (6, .arraylength, 0, 0, 0, []), (7, .istore 4, 0, 0, 0, []), (9, .iconst 0, 0, 0, 0, []), (10, .istore 5, 0, 0, 0, []), (12, .iload 5, 0, 0, 0, []), (14, .iload 4, 0, 0, 0, []), (16, .if_icmp .ge 27, 43, 0, 0, []), (19, .aload_n 3, 0, 0, 0, []), (20, .iload 5, 0, 0, 0, []), (22, .aaload, 0, 0, 0, []), (23, .astore 6, 0, 0, 0, []), (25, .aload 6, 0, 0, 0, []), (27, .iload_n 1, 0, 0, 0, []), (28, .iload_n 2, 0, 0, 0, []), (29, .invokevirtual 169, 33, 2, 4, [246, 230, 231]), (32, .ifCond .eq 5, 37, 0, 0, []), (35, .iconst 1, 0, 0, 0, []), (36, .ireturn, 0, 0, 0, []), (37, .iinc 5 1, 0, 0, 0, []), (40, .goto (-28), 12, 0, 0, []), (43, .iconst 0, 0, 0, 0, []), (44, .ireturn, 0, 0, 0, [])], 1, 22)
set_option maxRecDepth 20000 in
/-- 143: Siege_isNight -/
def zm_Siege_isNight : zM := (⟨"Siegelines$Siege", "isNight", "()Z"⟩, prog_12_method_15_code, 2, some (.boolean), [], [(0, .aload_n 0, 0, 0, 0, []), (1, .getfield 109, 1, 10, 0, [951]), (4, .bipush 24, 0, 0, 0, []), (6, .irem, 0, 0, 0, []), (7, .istore_n 1, 0, 0, 0, []), (8, .iload_n 1, 0, 0, 0, []), (9, .bipush 20, 0, 0, 0, []), (11, .if_icmp .ge 8, 19, 0, 0, []), (14, .iload_n 1, 0, 0, 0, []), (15, .iconst 4, 0, 0, 0, []), (16, .if_icmp .gt 7, 23, 0, 0, []), (19, .iconst 1, 0, 0, 0, []), (20, .goto 4, 24, 0, 0, []), (23, .iconst 0, 0, 0, 0, []), (24, .ireturn, 0, 0, 0, [])], 0, 0)
set_option maxRecDepth 20000 in
/-- 144: Siege_isSideSound -/
def zm_Siege_isSideSound : zM := (⟨"Siegelines$Siege", "isSideSound", "(I)Z"⟩, prog_12_method_36_code, 8, some (.boolean), [], [(0, .aload_n 0, 0, 0, 0, []), (1, .iload_n 1, 0, 0, 0, []), (2, .invokevirtual 122, 150, 1, 1, [237, 197, 198]), (5, .astore_n 2, 0, 0, 0, []), (6, .aload_n 2, 0, 0, 0, []), (7, .getfield 133, 6, 0, 0, [696]), (10, .ifCond .lt 17, 27, 0, 0, []), (13, .aload_n 2, 0, 0, 0, []), (14, .getfield 136, 6, 1, 0, [699]), (17, .ifCond .lt 10, 27, 0, 0, []), (20, .aload_n 2, 0, 0, 0, []), (21, .getfield 139, 6, 2, 0, [703]), (24, .ifCond .ge 5, 29, 0, 0, []), (27, .iconst 0, 0, 0, 0, []), (28, .ireturn, 0, 0, 0, []), (29, .aload_n 0, 0, 0, 0, []), (30, .getfield 112, 1, 11, 0, [954]), (33, .ifCond .ne 5, 38, 0, 0, []), (36, .iconst 1, 0, 0, 0, []), (37, .ireturn, 0, 0, 0, []), (38, .iconst 0, 0, 0, 0, []), (39, .istore_n 3, 0, 0, 0, []), (40, .aload_n 0, 0, 0, 0, []), (41, .getfield 32, 1, 3, 0, [931]), (44, .astore 4, 0, 0, 0, []), (46, .aload 4, 0, 0, 0, []), (48, .arraylength, 0, 0, 0, []), (49, .istore 5, 0, 0, 0, []), (51, .iconst 0, 0, 0, 0, []), (52, .istore 6, 0, 0, 0, []), (54, .iload 6, 0, 0, 0, []), (56, .iload 5, 0, 0, 0, []), (58, .if_icmp .ge 41, 99, 0, 0, []), (61, .aload 4, 0, 0, 0, []), (63, .iload 6, 0, 0, 0, []), (65, .aaload, 0, 0, 0, []), (66, .astore 7, 0, 0, 0, []), (68, .aload 7, 0, 0, 0, []), (70, .getfield 297, 5, 1, 0, [883]), (73, .iload_n 1, 0, 0, 0, []), (74, .if_icmp .ne 19, 93, 0, 0, []), (77, .aload 7, 0, 0, 0, []), (79, .invokevirtual 298, 105, 0, 5, [575, 564, 565]), (82, .ifCond .eq 11, 93, 0, 0, []), (85, .iload_n 3, 0, 0, 0, []), (86, .aload 7, 0, 0, 0, []), (88, .getfield 301, 5, 4, 0, [892]), (91, .iadd, 0, 0, 0, []), (92, .istore_n 3, 0, 0, 0, []), (93, .iinc 6 1, 0, 0, 0, []), (96, .goto (-42), 54, 0, 0, []), (99, .aload_n 2, 0, 0, 0, []), (100, .getfield 304, 6, 10, 0, [725]), (103, .aload_n 2, 0, 0, 0, []), (104, .getfield 133, 6, 0, 0, [696]), (107, .iload_n 3, 0, 0, 0, []), (108, .iadd, 0, 0, 0, []), (109, .aload_n 2, 0, 0, 0, []), (110, .getfield 307, 6, 6, 0, [715]), (113, .iadd, 0, 0, 0, []), (114, .if_icmp .ne 7, 121, 0, 0, []), (117, .iconst 1, 0, 0, 0, []), (118, .goto 4, 122, 0, 0, []), (121, .iconst 0, 0, 0, 0, []), (122, .ireturn, 0, 0, 0, [])], 1, 21)
set_option maxRecDepth 20000 in
/-- 145: Siege_letHourGo -/
def zm_Siege_letHourGo : zM := (⟨"Siegelines$Siege", "letHourGo", "()V"⟩, prog_12_method_28_code, 6, none, [], [(0, .aload_n 0, 0, 0, 0, []), (1, .getfield 20, 1, 1, 0, [920]), (4, .astore_n 1, 0, 0, 0, []), (5, .aload_n 1, 0, 0, 0, []), (6, .arraylength, 0, 0, 0, []), (7, .istore_n 2, 0, 0, 0, []), (8, .iconst 0, 0, 0, 0, []), (9, .istore_n 3, 0, 0, 0, []), (10, .iload_n 3, 0, 0, 0, []), (11, .iload_n 2, 0, 0, 0, []), (12, .if_icmp .ge 35, 47, 0, 0, []), (15, .aload_n 1, 0, 0, 0, []), (16, .iload_n 3, 0, 0, 0, []), (17, .aaload, 0, 0, 0, []), (18, .astore 4, 0, 0, 0, []), (20, .aload_n 0, 0, 0, 0, []), (21, .aload 4, 0, 0, 0, []), (23, .invokestatic 211, 88, 2, 0, [142, 143]), (26, .istore 5, 0, 0, 0, []), (28, .iload 5, 0, 0, 0, []), (30, .ifCond .le 11, 41, 0, 0, []), (33, .aload_n 0, 0, 0, 0, []), (34, .aload 4, 0, 0, 0, []), (36, .iload 5, 0, 0, 0, []), (38, .invokestatic 217, 93, 3, 0, [204, 205]), (41, .iinc 3 1, 0, 0, 0, []), (44, .goto (-34), 10, 0, 0, []), (47, .aload_n 0, 0, 0, 0, []), (48, .invokevirtual 221, 127, 0, 1, [238, 239, 240]), (51, .ifCond .eq 4, 55, 0, 0, []), (54, .return_, 0, 0, 0, []), (55, .aload_n 0, 0, 0, 0, []), (56, .getfield 26, 1, 2, 0, [925]), (59, .astore_n 1, 0, 0, 0, []), (60, .aload_n 1, 0, 0, 0, []), (61, .arraylength, 0, 0, 0, []), (62, .istore_n 2, 0, 0, 0, []), (63, .iconst 0, 0, 0, 0, []), (64, .istore_n 3, 0, 0, 0, []), (65, .iload_n 3, 0, 0, 0, []), (66, .iload_n 2, 0, 0, 0, []), (67, .if_icmp .ge 36, 103, 0, 0, []), (70, .aload_n 1, 0, 0, 0, []), (71, .iload_n 3, 0, 0, 0, []), (72, .aaload, 0, 0, 0, []), (73, .astore 4, 0, 0, 0, []), (75, .aload 4, 0, 0, 0, []), (77, .getfield 172, 4, 2, 0, [848]), (80, .ifCond .le 9, 89, 0, 0, []), (83, .aload_n 0, 0, 0, 0, []), (84, .aload 4, 0, 0, 0, []), (86, .invokestatic 224, 38, 2, 0, [256, 257]), (89, .aload_n 0, 0, 0, 0, []), (90, .invokevirtual 221, 127, 0, 1, [238, 239, 240]), (93, .ifCond .eq 4, 97, 0, 0, []), (96, .return_, 0, 0, 0, []), (97, .iinc 3 1, 0, 0, 0, []), (100, .goto (-35), 65, 0, 0, []), (103, .aload_n 0, 0, 0, 0, []), (104, .getfield 32, 1, 3, 0, [931]), (107, .astore_n 1, 0, 0, 0, []), (108, .aload_n 1, 0, 0, 0, []), (109, .arraylength, 0, 0, 0, []), (110, .istore_n 2, 0, 0, 0, []), (111, .iconst 0, 0, 0, 0, []), (112, .istore_n 3, 0, 0, 0, []), (113, .iload_n 3, 0, 0, 0, []), (114, .iload_n 2, 0, 0, 0, []), (115, .if_icmp .ge 20, 135, 0, 0, []), (118, .aload_n 1, 0, 0, 0, []), (119, .iload_n 3, 0, 0, 0, []), (120, .aaload, 0, 0, 0, []), (121, .astore 4, 0, 0, 0, []), (123, .aload_n 0, 0, 0, 0, []), (124, .aload 4, 0, 0, 0, []), (126, .invokestatic 230, 108, 2, 0, [363, 364]), (129, .iinc 3 1, 0, 0, 0, []), (132, .goto (-19), 113, 0, 0, []), (135, .aload_n 0, 0, 0, 0, []), (136, .invokevirtual 236, 139, 0, 1, [388, 389, 390]), (139, .bipush 23, 0, 0, 0, []), (141, .if_icmp .ne 15, 156, 0, 0, []), (144, .aload_n 0, 0, 0, 0, []), (145, .invokestatic 240, 95, 1, 0, [392, 393]), (148, .aload_n 0, 0, 0, 0, []), (149, .invokevirtual 221, 127, 0, 1, [238, 239, 240]), (152, .ifCond .eq 4, 156, 0, 0, []), (155, .return_, 0, 0, 0, []), (156, .aload_n 0, 0, 0, 0, []), (157, .dup, 0, 0, 0, []), (158, .getfield 109, 1, 10, 0, [951]), (161, .iconst 1, 0, 0, 0, []), (162, .iadd, 0, 0, 0, []), (163, .putfield 109, 1, 10, 0, [951]), (166, .return_, 0, 0, 0, [])], 6, 153)
set_option maxRecDepth 20000 in
/-- 146: Siege_menAt -/
def zm_Siege_menAt : zM := (⟨"Siegelines$Siege", "menAt", "(II)I"⟩, prog_12_method_19_code, 8, some (.int), [], [(0, .iconst 0, 0, 0, 0, []), (1, .istore_n 3, 0, 0, 0, []), (2, .aload_n 0, 0, 0, 0, []), (3, .getfield 26, 1, 2, 0, [925]), (6, .astore 4, 0, 0, 0, []), (8, .aload 4, 0, 0, 0, []), (10, .arraylength, 0, 0, 0, []), (11, .istore 5, 0, 0, 0, []), (13, .iconst 0, 0, 0, 0, []), (14, .istore 6, 0, 0, 0, []), (16, .iload 6, 0, 0, 0, []), (18, .iload 5, 0, 0, 0, []), (20, .if_icmp .ge 34, 54, 0, 0, []), (23, .aload 4, 0, 0, 0, []), (25, .iload 6, 0, 0, 0, []), (27, .aaload, 0, 0, 0, []), (28, .astore 7, 0, 0, 0, []), (30, .aload 7, 0, 0, 0, []), (32, .iload_n 1, 0, 0, 0, []), (33, .iload_n 2, 0, 0, 0, []), (34, .invokevirtual 169, 33, 2, 4, [246, 230, 231]), (37, .ifCond .eq 11, 48, 0, 0, []), (40, .iload_n 3, 0, 0, 0, []), (41, .aload 7, 0, 0, 0, []), (43, .getfield 172, 4, 2, 0, [848]), (46, .iadd, 0, 0, 0, []), (47, .istore_n 3, 0, 0, 0, []), (48, .iinc 6 1, 0, 0, 0, []), (51, .goto (-35), 16, 0, 0, []), (54, .iload_n 3, 0, 0, 0, []), (55, .ireturn, 0, 0, 0, [])], 1, 22)
set_option maxRecDepth 20000 in
/-- 147: Siege_menOf -/
def zm_Siege_menOf : zM := (⟨"Siegelines$Siege", "menOf", "(I)I"⟩, prog_12_method_20_code, 7, some (.int), [], [(0, .iconst 0, 0, 0, 0, []), (1, .istore_n 2, 0, 0, 0, []), (2, .aload_n 0, 0, 0, 0, []), (3, .getfield 26, 1, 2, 0, [925]), (6, .astore_n 3, 0, 0, 0, []), (7, .aload_n 3, 0, 0, 0, []), (8, .arraylength, 0, 0, 0, []), (9, .istore 4, 0, 0, 0, []), (11, .iconst 0, 0, 0, 0, []), (12, .istore 5, 0, 0, 0, []), (14, .iload 5, 0, 0, 0, []), (16, .iload 4, 0, 0, 0, []), (18, .if_icmp .ge 32, 50, 0, 0, []), (21, .aload_n 3, 0, 0, 0, []), (22, .iload 5, 0, 0, 0, []), (24, .aaload, 0, 0, 0, []), (25, .astore 6, 0, 0, 0, []), (27, .aload 6, 0, 0, 0, []), (29, .getfield 175, 4, 0, 0, [836]), (32, .iload_n 1, 0, 0, 0, []), (33, .if_icmp .ne 11, 44, 0, 0, []), (36, .iload_n 2, 0, 0, 0, []), (37, .aload 6, 0, 0, 0, []), (39, .getfield 172, 4, 2, 0, [848]), (42, .iadd, 0, 0, 0, []), (43, .istore_n 2, 0, 0, 0, []), (44, .iinc 5 1, 0, 0, 0, []), (47, .goto (-33), 14, 0, 0, []), (50, .iload_n 2, 0, 0, 0, []), (51, .ireturn, 0, 0, 0, [])], 0, 0)
set_option maxRecDepth 20000 in
/-- 148: Siege_mineAt -/
def zm_Siege_mineAt : zM := (⟨"Siegelines$Siege", "mineAt", "(I)LSiegelines$Mine;"⟩, prog_12_method_8_code, 2, some ((.object "Siegelines$Mine")), [], [(0, .iload_n 1, 0, 0, 0, []), (1, .ifCond .lt 26, 27, 0, 0, []), (4, .iload_n 1, 0, 0, 0, []), (5, .aload_n 0, 0, 0, 0, []), (6, .getfield 106, 1, 9, 0, [949]), (9, .if_icmp .ge 18, 27, 0, 0, []), (12, .iload_n 1, 0, 0, 0, []), (13, .bipush 6, 0, 0, 0, []), (15, .if_icmp .ge 12, 27, 0, 0, []), (18, .aload_n 0, 0, 0, 0, []), (19, .getfield 32, 1, 3, 0, [931]), (22, .iload_n 1, 0, 0, 0, []), (23, .aaload, 0, 0, 0, []), (24, .goto 4, 28, 0, 0, []), (27, .aconst_null, 0, 0, 0, []), (28, .areturn, 0, 0, 0, [])], 0, 0)
set_option maxRecDepth 20000 in
/-- 149: Siege_musterAll -/
def zm_Siege_musterAll : zM := (⟨"Siegelines$Siege", "musterAll", "(I)V"⟩, prog_12_method_12_code, 7, none, [], [(0, .iload_n 1, 0, 0, 0, []), (1, .istore_n 2, 0, 0, 0, []), (2, .iconst 0, 0, 0, 0, []), (3, .istore_n 3, 0, 0, 0, []), (4, .iload_n 3, 0, 0, 0, []), (5, .iconst 1, 0, 0, 0, []), (6, .if_icmp .gt 133, 139, 0, 0, []), (9, .aload_n 0, 0, 0, 0, []), (10, .iload_n 3, 0, 0, 0, []), (11, .invokevirtual 122, 150, 1, 1, [237, 197, 198]), (14, .astore 4, 0, 0, 0, []), (16, .aload_n 0, 0, 0, 0, []), (17, .iload_n 3, 0, 0, 0, []), (18, .invokevirtual 126, 138, 1, 1, [1069, 352, 353]), (21, .istore 5, 0, 0, 0, []), (23, .iload_n 2, 0, 0, 0, []), (24, .invokestatic 130, 17, 1, 0, [1070, 1040]), (27, .istore_n 2, 0, 0, 0, []), (28, .aload 4, 0, 0, 0, []), (30, .bipush 100, 0, 0, 0, []), (32, .iload_n 2, 0, 0, 0, []), (33, .iadd, 0, 0, 0, []), (34, .putfield 133, 6, 0, 0, [696]), (37, .iload_n 2, 0, 0, 0, []), (38, .invokestatic 130, 17, 1, 0, [1070, 1040]), (41, .istore_n 2, 0, 0, 0, []), (42, .aload 4, 0, 0, 0, []), (44, .bipush 40, 0, 0, 0, []), (46, .iload_n 2, 0, 0, 0, []), (47, .iadd, 0, 0, 0, []), (48, .putfield 136, 6, 1, 0, [699]), (51, .iload_n 2, 0, 0, 0, []), (52, .invokestatic 130, 17, 1, 0, [1070, 1040]), (55, .istore_n 2, 0, 0, 0, []), (56, .aload 4, 0, 0, 0, []), (58, .bipush 10, 0, 0, 0, []), (60, .iload_n 2, 0, 0, 0, []), (61, .bipush 10, 0, 0, 0, []), (63, .irem, 0, 0, 0, []), (64, .iadd, 0, 0, 0, []), (65, .putfield 139, 6, 2, 0, [703]), (68, .iconst 0, 0, 0, 0, []), (69, .istore 6, 0, 0, 0, []), (71, .iload 6, 0, 0, 0, []), (73, .iconst 4, 0, 0, 0, []), (74, .if_icmp .ge 26, 100, 0, 0, []), (77, .iload_n 2, 0, 0, 0, []), (78, .invokestatic 130, 17, 1, 0, [1070, 1040]), (81, .istore_n 2, 0, 0, 0, []), (82, .aload_n 0, 0, 0, 0, []), (83, .iload_n 3, 0, 0, 0, []), (84, .iload 5, 0, 0, 0, []), (86, .bipush 60, 0, 0, 0, []), (88, .iload_n 2, 0, 0, 0, []), (89, .iadd, 0, 0, 0, []), (90, .invokevirtual 142, 151, 3, 1, [1071, 1072, 1073]), (93, .pop, 0, 0, 0, []), (94, .iinc 6 1, 0, 0, 0, []), (97, .goto (-26), 71, 0, 0, []), (100, .iconst 0, 0, 0, 0, []), (101, .istore 6, 0, 0, 0, []), (103, .iload 6, 0, 0, 0, []), (105, .iconst 3, 0, 0, 0, []), (106, .if_icmp .ge 27, 133, 0, 0, []), (109, .iload_n 2, 0, 0, 0, []), (110, .invokestatic 130, 17, 1, 0, [1070, 1040]), (113, .istore_n 2, 0, 0, 0, []), (114, .aload_n 0, 0, 0, 0, []), (115, .iload_n 3, 0, 0, 0, []), (116, .iload 5, 0, 0, 0, []), (118, .iconst 1, 0, 0, 0, []), (119, .iload_n 2, 0, 0, 0, []), (120, .iconst 3, 0, 0, 0, []), (121, .irem, 0, 0, 0, []), (122, .iadd, 0, 0, 0, []), (123, .invokevirtual 146, 152, 3, 1, [1075, 1076, 1077]), (126, .pop, 0, 0, 0, []), (127, .iinc 6 1, 0, 0, 0, []), (130, .goto (-27), 103, 0, 0, []), (133, .iinc 3 1, 0, 0, 0, []), (136, .goto (-132), 4, 0, 0, []), (139, .iload_n 2, 0, 0, 0, []), (140, .invokestatic 130, 17, 1, 0, [1070, 1040]), (143, .istore_n 2, 0, 0, 0, []), (144, .aload_n 0, 0, 0, 0, []), (145, .sipush 200, 0, 0, 0, []), (148, .iload_n 2, 0, 0, 0, []), (149, .iadd, 0, 0, 0, []), (150, .putfield 78, 1, 14, 0, [959]), (153, .iload_n 2, 0, 0, 0, []), (154, .invokestatic 130, 17, 1, 0, [1070, 1040]), (157, .istore_n 2, 0, 0, 0, []), (158, .aload_n 0, 0, 0, 0, []), (159, .iconst 5, 0, 0, 0, []), (160, .iload_n 2, 0, 0, 0, []), (161, .bipush 10, 0, 0, 0, []), (163, .irem, 0, 0, 0, []), (164, .iadd, 0, 0, 0, []), (165, .putfield 81, 1, 15, 0, [962]), (168, .iload_n 2, 0, 0, 0, []), (169, .invokestatic 130, 17, 1, 0, [1070, 1040]), (172, .istore_n 2, 0, 0, 0, []), (173, .aload_n 0, 0, 0, 0, []), (174, .getfield 49, 1, 6, 0, [942]), (177, .iconst 4, 0, 0, 0, []), (178, .iload_n 2, 0, 0, 0, []), (179, .bipush 8, 0, 0, 0, []), (181, .irem, 0, 0, 0, []), (182, .iadd, 0, 0, 0, []), (183, .putfield 84, 7, 4, 0, [761]), (186, .return_, 0, 0, 0, [])], 2, 46)
set_option maxRecDepth 20000 in
/-- 150: Siege_of -/
def zm_Siege_of : zM := (⟨"Siegelines$Siege", "of", "(I)LSiegelines$Side;"⟩, prog_12_method_5_code, 2, some ((.object "Siegelines$Side")), [], [(0, .iload_n 1, 0, 0, 0, []), (1, .iconst 1, 0, 0, 0, []), (2, .if_icmp .ne 10, 12, 0, 0, []), (5, .aload_n 0, 0, 0, 0, []), (6, .getfield 43, 1, 5, 0, [939]), (9, .goto 7, 16, 0, 0, []), (12, .aload_n 0, 0, 0, 0, []), (13, .getfield 39, 1, 4, 0, [934]), (16, .areturn, 0, 0, 0, [])], 0, 0)
set_option maxRecDepth 20000 in
/-- 151: Siege_placeCompany -/
def zm_Siege_placeCompany : zM := (⟨"Siegelines$Siege", "placeCompany", "(III)I"⟩, prog_12_method_10_code, 4, some (.int), [], [(0, .aload_n 0, 0, 0, 0, []), (1, .getfield 68, 1, 8, 0, [947]), (4, .ifCond .lt 12, 16, 0, 0, []), (7, .aload_n 0, 0, 0, 0, []), (8, .getfield 68, 1, 8, 0, [947]), (11, .bipush 12, 0, 0, 0, []), (13, .if_icmp .lt 5, 18, 0, 0, []), (16, .iconst (-1), 0, 0, 0, []), (17, .ireturn, 0, 0, 0, []), (18, .aload_n 0, 0, 0, 0, []), (19, .getfield 26, 1, 2, 0, [925]), (22, .aload_n 0, 0, 0, 0, []), (23, .getfield 68, 1, 8, 0, [947]), (26, .aaload, 0, 0, 0, []), (27, .iload_n 1, 0, 0, 0, []), (28, .iload_n 2, 0, 0, 0, []), (29, .iload_n 3, 0, 0, 0, []), (30, .invokevirtual 64, 36, 3, 4, [1023, 1024, 1025]), (33, .aload_n 0, 0, 0, 0, []), (34, .dup, 0, 0, 0, []), (35, .getfield 68, 1, 8, 0, [947]), (38, .iconst 1, 0, 0, 0, []), (39, .iadd, 0, 0, 0, []), (40, .putfield 68, 1, 8, 0, [947]), (43, .aload_n 0, 0, 0, 0, []), (44, .getfield 68, 1, 8, 0, [947]), (47, .iconst 1, 0, 0, 0, []), (48, .isub, 0, 0, 0, []), (49, .ireturn, 0, 0, 0, [])], 1, 23)
set_option maxRecDepth 20000 in
/-- 152: Siege_placeGun -/
def zm_Siege_placeGun : zM := (⟨"Siegelines$Siege", "placeGun", "(III)I"⟩, prog_12_method_9_code, 4, some (.int), [], [(0, .aload_n 0, 0, 0, 0, []), (1, .getfield 65, 1, 7, 0, [945]), (4, .ifCond .lt 12, 16, 0, 0, []), (7, .aload_n 0, 0, 0, 0, []), (8, .getfield 65, 1, 7, 0, [945]), (11, .bipush 16, 0, 0, 0, []), (13, .if_icmp .lt 5, 18, 0, 0, []), (16, .iconst (-1), 0, 0, 0, []), (17, .ireturn, 0, 0, 0, []), (18, .aload_n 0, 0, 0, 0, []), (19, .getfield 20, 1, 1, 0, [920]), (22, .aload_n 0, 0, 0, 0, []), (23, .getfield 65, 1, 7, 0, [945]), (26, .aaload, 0, 0, 0, []), (27, .iload_n 1, 0, 0, 0, []), (28, .iload_n 2, 0, 0, 0, []), (29, .iload_n 3, 0, 0, 0, []), (30, .invokevirtual 60, 85, 3, 3, [1019, 1020, 1021]), (33, .aload_n 0, 0, 0, 0, []), (34, .dup, 0, 0, 0, []), (35, .getfield 65, 1, 7, 0, [945]), (38, .iconst 1, 0, 0, 0, []), (39, .iadd, 0, 0, 0, []), (40, .putfield 65, 1, 7, 0, [945]), (43, .aload_n 0, 0, 0, 0, []), (44, .getfield 65, 1, 7, 0, [945]), (47, .iconst 1, 0, 0, 0, []), (48, .isub, 0, 0, 0, []), (49, .ireturn, 0, 0, 0, [])], 1, 23)
set_option maxRecDepth 20000 in
/-- 153: Siege_readyGunsOf -/
def zm_Siege_readyGunsOf : zM := (⟨"Siegelines$Siege", "readyGunsOf", "(I)I"⟩, prog_12_method_22_code, 7, some (.int), [], [(0, .iconst 0, 0, 0, 0, []), (1, .istore_n 2, 0, 0, 0, []), (2, .aload_n 0, 0, 0, 0, []), (3, .getfield 20, 1, 1, 0, [920]), (6, .astore_n 3, 0, 0, 0, []), (7, .aload_n 3, 0, 0, 0, []), (8, .arraylength, 0, 0, 0, []), (9, .istore 4, 0, 0, 0, []), (11, .iconst 0, 0, 0, 0, []), (12, .istore 5, 0, 0, 0, []), (14, .iload 5, 0, 0, 0, []), (16, .iload 4, 0, 0, 0, []), (18, .if_icmp .ge 27, 45, 0, 0, []), (21, .aload_n 3, 0, 0, 0, []), (22, .iload 5, 0, 0, 0, []), (24, .aaload, 0, 0, 0, []), (25, .astore 6, 0, 0, 0, []), (27, .aload 6, 0, 0, 0, []), (29, .iload_n 1, 0, 0, 0, []), (30, .invokevirtual 178, 84, 1, 3, [460, 279, 280]), (33, .ifCond .eq 6, 39, 0, 0, []), (36, .iinc 2 1, 0, 0, 0, []), (39, .iinc 5 1, 0, 0, 0, []), (42, .goto (-28), 14, 0, 0, []), (45, .iload_n 2, 0, 0, 0, []), (46, .ireturn, 0, 0, 0, [])], 1, 21)
set_option maxRecDepth 20000 in
/-- 154: Siege_sightFar -/
def zm_Siege_sightFar : zM := (⟨"Siegelines$Siege", "sightFar", "()I"⟩, prog_12_method_16_code, 1, some (.int), [], [(0, .aload_n 0, 0, 0, 0, []), (1, .invokevirtual 155, 143, 0, 1, [159, 160, 161]), (4, .ifCond .eq 7, 11, 0, 0, []), (7, .iconst 4, 0, 0, 0, []), (8, .goto 5, 13, 0, 0, []), (11, .bipush 9, 0, 0, 0, []), (13, .ireturn, 0, 0, 0, [])], 1, 21)
set_option maxRecDepth 20000 in
/-- 155: Siege_standsAtBreach -/
def zm_Siege_standsAtBreach : zM := (⟨"Siegelines$Siege", "standsAtBreach", "()Z"⟩, prog_12_method_34_code, 5, some (.boolean), [], [(0, .aload_n 0, 0, 0, 0, []), (1, .getfield 26, 1, 2, 0, [925]), (4, .astore_n 1, 0, 0, 0, []), (5, .aload_n 1, 0, 0, 0, []), (6, .arraylength, 0, 0, 0, []), (7, .istore_n 2, 0, 0, 0, []), (8, .iconst 0, 0, 0, 0, []), (9, .istore_n 3, 0, 0, 0, []), (10, .iload_n 3, 0, 0, 0, []), (11, .iload_n 2, 0, 0, 0, []), (12, .if_icmp .ge 49, 61, 0, 0, []), (15, .aload_n 1, 0, 0, 0, []), (16, .iload_n 3, 0, 0, 0, []), (17, .aaload, 0, 0, 0, []), (18, .astore 4, 0, 0, 0, []), (20, .aload 4, 0, 0, 0, []), (22, .getfield 172, 4, 2, 0, [848]), (25, .ifCond .le 30, 55, 0, 0, []), (28, .aload 4, 0, 0, 0, []), (30, .getfield 175, 4, 0, 0, [836]), (33, .ifCond .ne 22, 55, 0, 0, []), (36, .aload_n 0, 0, 0, 0, []), (37, .getfield 12, 1, 0, 0, [914]), (40, .aload 4, 0, 0, 0, []), (42, .getfield 287, 4, 1, 0, [842]), (45, .bipush 6, 0, 0, 0, []), (47, .invokevirtual 280, 80, 2, 2, [484, 485, 486]), (50, .ifCond .eq 5, 55, 0, 0, []), (53, .iconst 1, 0, 0, 0, []), (54, .ireturn, 0, 0, 0, []), (55, .iinc 3 1, 0, 0, 0, []), (58, .goto (-48), 10, 0, 0, []), (61, .aload_n 0, 0, 0, 0, []), (62, .bipush 6, 0, 0, 0, []), (64, .invokevirtual 265, 156, 1, 1, [474, 476, 6]), (67, .ireturn, 0, 0, 0, [])], 3, 67)
set_option maxRecDepth 20000 in
/-- 156: Siege_standsIn -/
def zm_Siege_standsIn : zM := (⟨"Siegelines$Siege", "standsIn", "(I)Z"⟩, prog_12_method_33_code, 6, some (.boolean), [], [(0, .aload_n 0, 0, 0, 0, []), (1, .getfield 26, 1, 2, 0, [925]), (4, .astore_n 2, 0, 0, 0, []), (5, .aload_n 2, 0, 0, 0, []), (6, .arraylength, 0, 0, 0, []), (7, .istore_n 3, 0, 0, 0, []), (8, .iconst 0, 0, 0, 0, []), (9, .istore 4, 0, 0, 0, []), (11, .iload 4, 0, 0, 0, []), (13, .iload_n 3, 0, 0, 0, []), (14, .if_icmp .ge 49, 63, 0, 0, []), (17, .aload_n 2, 0, 0, 0, []), (18, .iload 4, 0, 0, 0, []), (20, .aaload, 0, 0, 0, []), (21, .astore 5, 0, 0, 0, []), (23, .aload 5, 0, 0, 0, []), (25, .getfield 172, 4, 2, 0, [848]), (28, .ifCond .le 29, 57, 0, 0, []), (31, .aload 5, 0, 0, 0, []), (33, .getfield 175, 4, 0, 0, [836]), (36, .ifCond .ne 21, 57, 0, 0, []), (39, .aload_n 0, 0, 0, 0, []), (40, .getfield 12, 1, 0, 0, [914]), (43, .aload 5, 0, 0, 0, []), (45, .getfield 287, 4, 1, 0, [842]), (48, .invokevirtual 277, 81, 1, 2, [478, 220, 221]), (51, .iload_n 1, 0, 0, 0, []), (52, .if_icmp .ne 5, 57, 0, 0, []), (55, .iconst 1, 0, 0, 0, []), (56, .ireturn, 0, 0, 0, []), (57, .iinc 4 1, 0, 0, 0, []), (60, .goto (-49), 11, 0, 0, []), (63, .iconst 0, 0, 0, 0, []), (64, .ireturn, 0, 0, 0, [])], 2, 42)
set_option maxRecDepth 20000 in
/-- 157: Siege_startOver -/
def zm_Siege_startOver : zM := (⟨"Siegelines$Siege", "startOver", "()V"⟩, prog_12_method_2_code, 5, none, [], [(0, .aload_n 0, 0, 0, 0, []), (1, .getfield 20, 1, 1, 0, [920]), (4, .astore_n 1, 0, 0, 0, []), (5, .aload_n 1, 0, 0, 0, []), (6, .arraylength, 0, 0, 0, []), (7, .istore_n 2, 0, 0, 0, []), (8, .iconst 0, 0, 0, 0, []), (9, .istore_n 3, 0, 0, 0, []), (10, .iload_n 3, 0, 0, 0, []), (11, .iload_n 2, 0, 0, 0, []), (12, .if_icmp .ge 22, 34, 0, 0, []), (15, .aload_n 1, 0, 0, 0, []), (16, .iload_n 3, 0, 0, 0, []), (17, .aaload, 0, 0, 0, []), (18, .astore 4, 0, 0, 0, []), (20, .aload 4, 0, 0, 0, []), (22, .iconst (-1), 0, 0, 0, []), (23, .iconst (-1), 0, 0, 0, []), (24, .iconst 0, 0, 0, 0, []), (25, .invokevirtual 60, 85, 3, 3, [1019, 1020, 1021]), (28, .iinc 3 1, 0, 0, 0, []), (31, .goto (-21), 10, 0, 0, []), (34, .aload_n 0, 0, 0, 0, []), (35, .getfield 26, 1, 2, 0, [925]), (38, .astore_n 1, 0, 0, 0, []), (39, .aload_n 1, 0, 0, 0, []), (40, .arraylength, 0, 0, 0, []), (41, .istore_n 2, 0, 0, 0, []), (42, .iconst 0, 0, 0, 0, []), (43, .istore_n 3, 0, 0, 0, []), (44, .iload_n 3, 0, 0, 0, []), (45, .iload_n 2, 0, 0, 0, []), (46, .if_icmp .ge 22, 68, 0, 0, []), (49, .aload_n 1, 0, 0, 0, []), (50, .iload_n 3, 0, 0, 0, []), (51, .aaload, 0, 0, 0, []), (52, .astore 4, 0, 0, 0, []), (54, .aload 4, 0, 0, 0, []), (56, .iconst (-1), 0, 0, 0, []), (57, .iconst (-1), 0, 0, 0, []), (58, .iconst 0, 0, 0, 0, []), (59, .invokevirtual 64, 36, 3, 4, [1023, 1024, 1025]), (62, .iinc 3 1, 0, 0, 0, []), (65, .goto (-21), 44, 0, 0, []), (68, .aload_n 0, 0, 0, 0, []), (69, .iconst 0, 0, 0, 0, []), (70, .putfield 65, 1, 7, 0, [945]), (73, .aload_n 0, 0, 0, 0, []), (74, .iconst 0, 0, 0, 0, []), (75, .putfield 68, 1, 8, 0, [947]), (78, .aload_n 0, 0, 0, 0, []), (79, .getfield 39, 1, 4, 0, [934]), (82, .iconst 0, 0, 0, 0, []), (83, .iconst 0, 0, 0, 0, []), (84, .iconst 0, 0, 0, 0, []), (85, .bipush 60, 0, 0, 0, []), (87, .invokevirtual 71, 124, 4, 6, [1027, 1028, 1029]), (90, .aload_n 0, 0, 0, 0, []), (91, .getfield 43, 1, 5, 0, [939]), (94, .iconst 0, 0, 0, 0, []), (95, .iconst 0, 0, 0, 0, []), (96, .iconst 0, 0, 0, 0, []), (97, .bipush 60, 0, 0, 0, []), (99, .invokevirtual 71, 124, 4, 6, [1027, 1028, 1029]), (102, .aload_n 0, 0, 0, 0, []), (103, .iconst 0, 0, 0, 0, []), (104, .iconst 0, 0, 0, 0, []), (105, .bipush 10, 0, 0, 0, []), (107, .invokevirtual 75, 159, 3, 1, [1031, 1032, 1033]), (110, .return_, 0, 0, 0, [])], 1, 24)
set_option maxRecDepth 20000 in
/-- 158: Siege_takeMen -/
def zm_Siege_takeMen : zM := (⟨"Siegelines$Siege", "takeMen", "(LSiegelines$Company;I)I"⟩, prog_12_method_25_code, 4, some (.int), [], [(0, .iload_n 2, 0, 0, 0, []), (1, .aload_n 1, 0, 0, 0, []), (2, .getfield 172, 4, 2, 0, [848]), (5, .if_icmp .ge 7, 12, 0, 0, []), (8, .iload_n 2, 0, 0, 0, []), (9, .goto 7, 16, 0, 0, []), (12, .aload_n 1, 0, 0, 0, []), (13, .getfield 172, 4, 2, 0, [848]), (16, .istore_n 3, 0, 0, 0, []), (17, .aload_n 1, 0, 0, 0, []), (18, .dup, 0, 0, 0, []), (19, .getfield 172, 4, 2, 0, [848]), (22, .iload_n 3, 0, 0, 0, []), (23, .isub, 0, 0, 0, []), (24, .putfield 172, 4, 2, 0, [848]), (27, .aload_n 0, 0, 0, 0, []), (28, .aload_n 1, 0, 0, 0, []), (29, .getfield 175, 4, 0, 0, [836]), (32, .invokevirtual 122, 150, 1, 1, [237, 197, 198]), (35, .dup, 0, 0, 0, []), (36, .getfield 188, 6, 7, 0, [717]), (39, .iload_n 3, 0, 0, 0, []), (40, .iadd, 0, 0, 0, []), (41, .putfield 188, 6, 7, 0, [717]), (44, .iload_n 3, 0, 0, 0, []), (45, .ireturn, 0, 0, 0, [])], 1, 21)
set_option maxRecDepth 20000 in
/-- 159: Siege_tellTown -/
def zm_Siege_tellTown : zM := (⟨"Siegelines$Siege", "tellTown", "(III)V"⟩, prog_12_method_3_code, 4, none, [], [(0, .aload_n 0, 0, 0, 0, []), (1, .iload_n 1, 0, 0, 0, []), (2, .putfield 78, 1, 14, 0, [959]), (5, .aload_n 0, 0, 0, 0, []), (6, .iload_n 2, 0, 0, 0, []), (7, .putfield 81, 1, 15, 0, [962]), (10, .aload_n 0, 0, 0, 0, []), (11, .getfield 49, 1, 6, 0, [942]), (14, .iload_n 3, 0, 0, 0, []), (15, .putfield 84, 7, 4, 0, [761]), (18, .return_, 0, 0, 0, [])], 0, 0)
set_option maxRecDepth 20000 in
/-- 160: L_below -/
def zm_L_below : zM := (⟨"SiegelinesLaw", "below", "(II)I"⟩, method_2_code, 2, some (.int), [], [(0, .iload_n 0, 0, 0, 0, []), (1, .ldc 7, 2147483647, 0, 0, [588]), (3, .iand, 0, 0, 0, []), (4, .iload_n 1, 0, 0, 0, []), (5, .irem, 0, 0, 0, []), (6, .ireturn, 0, 0, 0, [])], 0, 0)
set_option maxRecDepth 20000 in
/-- 161: L_cell -/
def zm_L_cell : zM := (⟨"SiegelinesLaw", "cell", "([II)I"⟩, method_3_code, 2, some (.int), [], [(0, .iload_n 1, 0, 0, 0, []), (1, .aload_n 0, 0, 0, 0, []), (2, .arraylength, 0, 0, 0, []), (3, .if_icmp .ge 9, 12, 0, 0, []), (6, .aload_n 0, 0, 0, 0, []), (7, .iload_n 1, 0, 0, 0, []), (8, .iaload, 0, 0, 0, []), (9, .goto 9, 18, 0, 0, []), (12, .ldc 8, 790386105, 0, 0, [592]), (14, .iload_n 1, 0, 0, 0, []), (15, .iconst 3, 0, 0, 0, []), (16, .iadd, 0, 0, 0, []), (17, .imul, 0, 0, 0, []), (18, .ireturn, 0, 0, 0, [])], 0, 0)
set_option maxRecDepth 20000 in
/-- 162: L_count -/
def zm_L_count : zM := (⟨"SiegelinesLaw", "count", "(LSiegelines;II)I"⟩, method_8_code, 5, some (.int), [], [(0, .iconst 0, 0, 0, 0, []), (1, .istore_n 3, 0, 0, 0, []), (2, .iconst 0, 0, 0, 0, []), (3, .istore 4, 0, 0, 0, []), (5, .iload 4, 0, 0, 0, []), (7, .iload_n 1, 0, 0, 0, []), (8, .if_icmp .ge 28, 36, 0, 0, []), (11, .iload_n 3, 0, 0, 0, []), (12, .aload_n 0, 0, 0, 0, []), (13, .iload 4, 0, 0, 0, []), (15, .iconst 2, 0, 0, 0, []), (16, .invokevirtual 124, 23, 2, 0, [1462, 1463, 1464]), (19, .iload_n 2, 0, 0, 0, []), (20, .if_icmp .ne 7, 27, 0, 0, []), (23, .iconst 1, 0, 0, 0, []), (24, .goto 4, 28, 0, 0, []), (27, .iconst 0, 0, 0, 0, []), (28, .iadd, 0, 0, 0, []), (29, .istore_n 3, 0, 0, 0, []), (30, .iinc 4 1, 0, 0, 0, []), (33, .goto (-28), 5, 0, 0, []), (36, .iload_n 3, 0, 0, 0, []), (37, .ireturn, 0, 0, 0, [])], 7, 104)
set_option maxRecDepth 20000 in
/-- 163: L_isDone -/
def zm_L_isDone : zM := (⟨"SiegelinesLaw", "isDone", "(LSiegelines;II)Z"⟩, method_6_code, 7, some (.boolean), [(78, 396, 397, 86), (78, 396, 401, 43)], [(0, .iload_n 1, 0, 0, 0, []), (1, .iconst 5, 0, 0, 0, []), (2, .ishr, 0, 0, 0, []), (3, .bipush 8, 0, 0, 0, []), (5, .invokestatic 18, 160, 2, 0, [585, 586]), (8, .istore_n 3, 0, 0, 0, []), (9, .iload_n 1, 0, 0, 0, []), (10, .iconst 5, 0, 0, 0, []), (11, .ishr, 0, 0, 0, []), (12, .bipush 6, 0, 0, 0, []), (14, .invokestatic 18, 160, 2, 0, [585, 586]), (17, .istore 4, 0, 0, 0, []), (19, .iconst 0, 0, 0, 0, []), (20, .iload_n 2, 0, 0, 0, []), (21, .iconst 1, 0, 0, 0, []), (22, .isub, 0, 0, 0, []), (23, .aload_n 0, 0, 0, 0, []), (24, .iload_n 3, 0, 0, 0, []), (25, .iconst 1, 0, 0, 0, []), (26, .invokevirtual 45, 18, 2, 0, [1327, 1328, 1329]), (29, .iload_n 1, 0, 0, 0, []), (30, .bipush 8, 0, 0, 0, []), (32, .ishr, 0, 0, 0, []), (33, .iconst 2, 0, 0, 0, []), (34, .invokestatic 18, 160, 2, 0, [585, 586]), (37, .ifCond .ne 7, 44, 0, 0, []), (40, .iconst 1, 0, 0, 0, []), (41, .goto 11, 52, 0, 0, []), (44, .aload_n 0, 0, 0, 0, []), (45, .iconst 0, 0, 0, 0, []), (46, .invokevirtual 34, 0, 0, 2000, []), (52, .iload_n 1, 0, 0, 0, []), (53, .bipush 9, 0, 0, 0, []), (55, .ishr, 0, 0, 0, []), (56, .iconst 3, 0, 0, 0, []), (57, .invokestatic 18, 160, 2, 0, [585, 586]), (60, .ifCond .le 7, 67, 0, 0, []), (63, .iconst 1, 0, 0, 0, []), (64, .goto 4, 68, 0, 0, []), (67, .iconst (-1), 0, 0, 0, []), (68, .imul, 0, 0, 0, []), (69, .iadd, 0, 0, 0, []), (70, .invokestatic 48, 172, 2, 0, [1336, 1227]), (73, .invokestatic 53, 171, 2, 0, [1337, 175]), (76, .istore 5, 0, 0, 0, []), (78, .iload_n 1, 0, 0, 0, []), (79, .bipush 19, 0, 0, 0, []), (81, .invokestatic 18, 160, 2, 0, [585, 586]), (84, .tableswitch 306 0 17 #[88, 88, 88, 106, 106, 128, 139, 150, 162, 173, 173, 173, 189, 207, 236, 246, 263, 290], 0, 390, 88, [172, 172, 172, 190, 190, 212, 223, 234, 246, 257, 257, 257, 273, 291, 320, 330, 347, 374]), (172, .aload_n 0, 0, 0, 0, []), (173, .iload_n 3, 0, 0, 0, []), (174, .iconst 4, 0, 0, 0, []), (175, .iload_n 1, 0, 0, 0, []), (176, .bipush 10, 0, 0, 0, []), (178, .ishr, 0, 0, 0, []), (179, .iload_n 2, 0, 0, 0, []), (180, .invokestatic 18, 160, 2, 0, [585, 586]), (183, .invokevirtual 56, 24, 3, 0, [1338, 1339, 1340]), (186, .pop, 0, 0, 0, []), (187, .goto 208, 395, 0, 0, []), (190, .aload_n 0, 0, 0, 0, []), (191, .iload_n 3, 0, 0, 0, []), (192, .iload_n 3, 0, 0, 0, []), (193, .iconst 4, 0, 0, 0, []), (194, .if_icmp .ge 7, 201, 0, 0, []), (197, .iconst 1, 0, 0, 0, []), (198, .goto 5, 203, 0, 0, []), (201, .bipush 6, 0, 0, 0, []), (203, .iload 5, 0, 0, 0, []), (205, .invokevirtual 56, 24, 3, 0, [1338, 1339, 1340]), (208, .pop, 0, 0, 0, []), (209, .goto 186, 395, 0, 0, []), (212, .aload_n 0, 0, 0, 0, []), (213, .iload_n 3, 0, 0, 0, []), (214, .iconst 2, 0, 0, 0, []), (215, .iconst 0, 0, 0, 0, []), (216, .invokevirtual 56, 24, 3, 0, [1338, 1339, 1340]), (219, .pop, 0, 0, 0, []), (220, .goto 175, 395, 0, 0, []), (223, .aload_n 0, 0, 0, 0, []), (224, .iload_n 3, 0, 0, 0, []), (225, .iconst 3, 0, 0, 0, []), (226, .iconst 0, 0, 0, 0, []), (227, .invokevirtual 56, 24, 3, 0, [1338, 1339, 1340]), (230, .pop, 0, 0, 0, []), (231, .goto 164, 395, 0, 0, []), (234, .aload_n 0, 0, 0, 0, []), (235, .iload_n 3, 0, 0, 0, []), (236, .iconst 5, 0, 0, 0, []), (237, .iload 5, 0, 0, 0, []), (239, .invokevirtual 56, 24, 3, 0, [1338, 1339, 1340]), (242, .pop, 0, 0, 0, []), (243, .goto 152, 395, 0, 0, []), (246, .aload_n 0, 0, 0, 0, []), (247, .iload_n 3, 0, 0, 0, []), (248, .iconst 0, 0, 0, 0, []), (249, .iconst 0, 0, 0, 0, []), (250, .invokevirtual 56, 24, 3, 0, [1338, 1339, 1340]), (253, .pop, 0, 0, 0, []), (254, .goto 141, 395, 0, 0, []), (257, .aload_n 0, 0, 0, 0, []), (258, .iload 4, 0, 0, 0, []), (260, .aload_n 0, 0, 0, 0, []), (261, .iload 4, 0, 0, 0, []), (263, .invokevirtual 59, 31, 1, 0, [1346, 1347, 1348]), (266, .invokevirtual 62, 1, 2, 0, [1362, 1363, 1364]), (269, .pop, 0, 0, 0, []), (270, .goto 125, 395, 0, 0, []), (273, .aload_n 0, 0, 0, 0, []), (274, .iload 4, 0, 0, 0, []), (276, .iload_n 1, 0, 0, 0, []), (277, .bipush 10, 0, 0, 0, []), (279, .ishr, 0, 0, 0, []), (280, .iload_n 2, 0, 0, 0, []), (281, .invokestatic 18, 160, 2, 0, [585, 586]), (284, .invokevirtual 62, 1, 2, 0, [1362, 1363, 1364]), (287, .pop, 0, 0, 0, []), (288, .goto 107, 395, 0, 0, []), (291, .aload_n 0, 0, 0, 0, []), (292, .iload 4, 0, 0, 0, []), (294, .iconst 0, 0, 0, 0, []), (295, .iload_n 2, 0, 0, 0, []), (296, .iconst 1, 0, 0, 0, []), (297, .isub, 0, 0, 0, []), (298, .aload_n 0, 0, 0, 0, []), (299, .iload 4, 0, 0, 0, []), (301, .iconst 1, 0, 0, 0, []), (302, .invokevirtual 65, 19, 2, 0, [1368, 1369, 1370]), (305, .iconst 1, 0, 0, 0, []), (306, .iadd, 0, 0, 0, []), (307, .invokestatic 48, 172, 2, 0, [1336, 1227]), (310, .invokestatic 53, 171, 2, 0, [1337, 175]), (313, .invokevirtual 68, 8, 2, 0, [1372, 1373, 1374]), (316, .pop, 0, 0, 0, []), (317, .goto 78, 395, 0, 0, []), (320, .aload_n 0, 0, 0, 0, []), (321, .iload 4, 0, 0, 0, []), (323, .invokevirtual 71, 26, 1, 0, [1386, 1387, 1388]), (326, .pop, 0, 0, 0, []), (327, .goto 68, 395, 0, 0, []), (330, .aload_n 0, 0, 0, 0, []), (331, .iload_n 3, 0, 0, 0, []), (332, .iload_n 1, 0, 0, 0, []), (333, .bipush 10, 0, 0, 0, []), (335, .ishr, 0, 0, 0, []), (336, .iconst 4, 0, 0, 0, []), (337, .invokestatic 18, 160, 2, 0, [585, 586]), (340, .invokevirtual 74, 14, 2, 0, [1392, 1393, 1394]), (343, .pop, 0, 0, 0, []), (344, .goto 51, 395, 0, 0, []), (347, .aload_n 0, 0, 0, 0, []), (348, .iload_n 1, 0, 0, 0, []), (349, .bipush 8, 0, 0, 0, []), (351, .ishr, 0, 0, 0, []), (352, .iconst 3, 0, 0, 0, []), (353, .invokestatic 18, 160, 2, 0, [585, 586]), (356, .iconst 1, 0, 0, 0, []), (357, .iload_n 1, 0, 0, 0, []), (358, .bipush 10, 0, 0, 0, []), (360, .ishr, 0, 0, 0, []), (361, .bipush 30, 0, 0, 0, []), (363, .invokestatic 18, 160, 2, 0, [585, 586]), (366, .iadd, 0, 0, 0, []), (367, .invokevirtual 77, 4, 2, 0, [1409, 1410, 1411]), (370, .pop, 0, 0, 0, []), (371, .goto 24, 395, 0, 0, []), (374, .aload_n 0, 0, 0, 0, []), (375, .iload_n 1, 0, 0, 0, []), (376, .bipush 8, 0, 0, 0, []), (378, .ishr, 0, 0, 0, []), (379, .iconst 3, 0, 0, 0, []), (380, .invokestatic 18, 160, 2, 0, [585, 586]), (383, .invokevirtual 80, 3, 1, 0, [1421, 1422, 1423]), (386, .pop, 0, 0, 0, []), (387, .goto 8, 395, 0, 0, []), (390, .aload_n 0, 0, 0, 0, []), (391, .invokevirtual 83, 13, 0, 0, [1453, 1454, 1455]), (394, .pop, 0, 0, 0, []), (395, .iconst 1, 0, 0, 0, []), (396, .ireturn, 0, 0, 0, []), (397, .astore 6, 0, 0, 0, []), (399, .iconst 0, 0, 0, 0, []), (400, .ireturn, 0, 0, 0, []), (401, .astore 6, 0, 0, 0, []), (403, .iconst 0, 0, 0, 0, []), (404, .ireturn, 0, 0, 0, [])], 11, 438)
set_option maxRecDepth 20000 in
/-- 164: L_isRefused -/
def zm_L_isRefused : zM := (⟨"SiegelinesLaw", "isRefused", "(LSiegelines;)Z"⟩, method_9_code, 2, some (.boolean), [(26, 33, 34, 86)], [(0, .aload_n 0, 0, 0, 0, []), (1, .iconst 1, 0, 0, 0, []), (2, .invokevirtual 99, 22, 1, 0, [461, 462, 463]), (5, .iconst 1, 0, 0, 0, []), (6, .if_icmp .ne 20, 26, 0, 0, []), (9, .aload_n 0, 0, 0, 0, []), (10, .iconst 0, 0, 0, 0, []), (11, .invokevirtual 99, 22, 1, 0, [461, 462, 463]), (14, .sipush 2000, 0, 0, 0, []), (17, .if_icmp .le 7, 24, 0, 0, []), (20, .iconst 1, 0, 0, 0, []), (21, .goto 4, 25, 0, 0, []), (24, .iconst 0, 0, 0, 0, []), (25, .ireturn, 0, 0, 0, []), (26, .aload_n 0, 0, 0, 0, []), (27, .iconst 1, 0, 0, 0, []), (28, .invokevirtual 110, 25, 1, 0, [48, 49, 50]), (31, .pop, 0, 0, 0, []), (32, .iconst 0, 0, 0, 0, []), (33, .ireturn, 0, 0, 0, []), (34, .astore_n 1, 0, 0, 0, []), (35, .aload_n 0, 0, 0, 0, []), (36, .iconst 1, 0, 0, 0, []), (37, .invokevirtual 99, 22, 1, 0, [461, 462, 463]), (40, .iconst 2, 0, 0, 0, []), (41, .if_icmp .ne 7, 48, 0, 0, []), (44, .iconst 1, 0, 0, 0, []), (45, .goto 4, 49, 0, 0, []), (48, .iconst 0, 0, 0, 0, []), (49, .ireturn, 0, 0, 0, [])], 8, 200)
set_option maxRecDepth 20000 in
/-- 165: L_isSo -/
def zm_L_isSo : zM := (⟨"SiegelinesLaw", "isSo", "(LSiegelines;II)Z"⟩, method_10_code, 9, some (.boolean), [], [(0, .iconst 2, 0, 0, 0, []), (1, .newarray .int, 100, 0, 0, [679]), (3, .astore_n 3, 0, 0, 0, []), (4, .iconst 0, 0, 0, 0, []), (5, .istore 4, 0, 0, 0, []), (7, .iload 4, 0, 0, 0, []), (9, .iload_n 1, 0, 0, 0, []), (10, .if_icmp .ge 256, 266, 0, 0, []), (13, .aload_n 0, 0, 0, 0, []), (14, .iload 4, 0, 0, 0, []), (16, .iconst 2, 0, 0, 0, []), (17, .invokevirtual 124, 23, 2, 0, [1462, 1463, 1464]), (20, .istore 5, 0, 0, 0, []), (22, .aload_n 0, 0, 0, 0, []), (23, .iload 4, 0, 0, 0, []), (25, .bipush 7, 0, 0, 0, []), (27, .invokevirtual 124, 23, 2, 0, [1462, 1463, 1464]), (30, .istore 6, 0, 0, 0, []), (32, .iconst 2, 0, 0, 0, []), (33, .aload_n 0, 0, 0, 0, []), (34, .iload 4, 0, 0, 0, []), (36, .iconst 0, 0, 0, 0, []), (37, .invokevirtual 124, 23, 2, 0, [1462, 1463, 1464]), (40, .imul, 0, 0, 0, []), (41, .iload 5, 0, 0, 0, []), (43, .iconst 1, 0, 0, 0, []), (44, .if_icmp .ne 8, 52, 0, 0, []), (47, .bipush 6, 0, 0, 0, []), (49, .goto 54, 103, 0, 0, []), (52, .iload 5, 0, 0, 0, []), (54, .iconst 3, 0, 0, 0, []), (55, .if_icmp .ne 7, 62, 0, 0, []), (58, .iconst 4, 0, 0, 0, []), (59, .goto 44, 103, 0, 0, []), (62, .iload 5, 0, 0, 0, []), (64, .bipush 6, 0, 0, 0, []), (66, .if_icmp .eq 9, 75, 0, 0, []), (69, .iload 5, 0, 0, 0, []), (71, .iconst 4, 0, 0, 0, []), (72, .if_icmp .ne 7, 79, 0, 0, []), (75, .iconst 2, 0, 0, 0, []), (76, .goto 27, 103, 0, 0, []), (79, .iload 5, 0, 0, 0, []), (81, .iconst 2, 0, 0, 0, []), (82, .if_icmp .ne 8, 90, 0, 0, []), (85, .bipush (-4), 0, 0, 0, []), (87, .goto 16, 103, 0, 0, []), (90, .iload 5, 0, 0, 0, []), (92, .bipush 7, 0, 0, 0, []), (94, .if_icmp .ne 8, 102, 0, 0, []), (97, .bipush (-2), 0, 0, 0, []), (99, .goto 4, 103, 0, 0, []), (102, .iconst 0, 0, 0, 0, []), (103, .iadd, 0, 0, 0, []), (104, .istore 7, 0, 0, 0, []), (106, .aload_n 0, 0, 0, 0, []), (107, .iload 4, 0, 0, 0, []), (109, .iconst 5, 0, 0, 0, []), (110, .invokevirtual 124, 23, 2, 0, [1462, 1463, 1464]), (113, .iload 7, 0, 0, 0, []), (115, .if_icmp .ne 68, 183, 0, 0, []), (118, .aload_n 0, 0, 0, 0, []), (119, .iload 4, 0, 0, 0, []), (121, .bipush 6, 0, 0, 0, []), (123, .invokevirtual 124, 23, 2, 0, [1462, 1463, 1464]), (126, .iload 7, 0, 0, 0, []), (128, .iload 5, 0, 0, 0, []), (130, .iconst 5, 0, 0, 0, []), (131, .if_icmp .ne 8, 139, 0, 0, []), (134, .bipush (-2), 0, 0, 0, []), (136, .goto 4, 140, 0, 0, []), (139, .iconst 1, 0, 0, 0, []), (140, .iadd, 0, 0, 0, []), (141, .if_icmp .ne 42, 183, 0, 0, []), (144, .iload 5, 0, 0, 0, []), (146, .iconst 1, 0, 0, 0, []), (147, .if_icmp .ne 7, 154, 0, 0, []), (150, .iconst 1, 0, 0, 0, []), (151, .goto 4, 155, 0, 0, []), (154, .iconst 0, 0, 0, 0, []), (155, .aload_n 0, 0, 0, 0, []), (156, .iload 4, 0, 0, 0, []), (158, .iconst 3, 0, 0, 0, []), (159, .invokevirtual 124, 23, 2, 0, [1462, 1463, 1464]), (162, .ifCond .le 7, 169, 0, 0, []), (165, .iconst 1, 0, 0, 0, []), (166, .goto 4, 170, 0, 0, []), (169, .iconst 0, 0, 0, 0, []), (170, .if_icmp .ne 13, 183, 0, 0, []), (173, .aload_n 0, 0, 0, 0, []), (174, .iload 4, 0, 0, 0, []), (176, .iconst 4, 0, 0, 0, []), (177, .invokevirtual 124, 23, 2, 0, [1462, 1463, 1464]), (180, .ifCond .ge 5, 185, 0, 0, []), (183, .iconst 0, 0, 0, 0, []), (184, .ireturn, 0, 0, 0, []), (185, .iload 5, 0, 0, 0, []), (187, .iconst 1, 0, 0, 0, []), (188, .if_icmp .eq 9, 197, 0, 0, []), (191, .iload 5, 0, 0, 0, []), (193, .iconst 3, 0, 0, 0, []), (194, .if_icmp .ne 9, 203, 0, 0, []), (197, .iload 6, 0, 0, 0, []), (199, .iconst 1, 0, 0, 0, []), (200, .if_icmp .ne 30, 230, 0, 0, []), (203, .iload 5, 0, 0, 0, []), (205, .iconst 5, 0, 0, 0, []), (206, .if_icmp .eq 8, 214, 0, 0, []), (209, .iload 4, 0, 0, 0, []), (211, .ifCond .ne 8, 219, 0, 0, []), (214, .iload 6, 0, 0, 0, []), (216, .ifCond .ne 14, 230, 0, 0, []), (219, .aload_n 0, 0, 0, 0, []), (220, .iload 4, 0, 0, 0, []), (222, .iload 4, 0, 0, 0, []), (224, .invokevirtual 127, 27, 2, 0, [1473, 1474, 1475]), (227, .ifCond .ne 5, 232, 0, 0, []), (230, .iconst 0, 0, 0, 0, []), (231, .ireturn, 0, 0, 0, []), (232, .aload_n 3, 0, 0, 0, []), (233, .iconst 0, 0, 0, 0, []), (234, .dup2, 0, 0, 0, []), (235, .iaload, 0, 0, 0, []), (236, .aload_n 0, 0, 0, 0, []), (237, .iload 4, 0, 0, 0, []), (239, .bipush 8, 0, 0, 0, []), (241, .invokevirtual 124, 23, 2, 0, [1462, 1463, 1464]), (244, .iadd, 0, 0, 0, []), (245, .iastore, 0, 0, 0, []), (246, .aload_n 3, 0, 0, 0, []), (247, .iconst 1, 0, 0, 0, []), (248, .dup2, 0, 0, 0, []), (249, .iaload, 0, 0, 0, []), (250, .aload_n 0, 0, 0, 0, []), (251, .iload 4, 0, 0, 0, []), (253, .bipush 9, 0, 0, 0, []), (255, .invokevirtual 124, 23, 2, 0, [1462, 1463, 1464]), (258, .iadd, 0, 0, 0, []), (259, .iastore, 0, 0, 0, []), (260, .iinc 4 1, 0, 0, 0, []), (263, .goto (-256), 7, 0, 0, []), (266, .iconst 0, 0, 0, 0, []), (267, .istore 4, 0, 0, 0, []), (269, .iconst 0, 0, 0, 0, []), (270, .istore 5, 0, 0, 0, []), (272, .iload 5, 0, 0, 0, []), (274, .bipush 8, 0, 0, 0, []), (276, .if_icmp .ge 165, 441, 0, 0, []), (279, .aload_n 0, 0, 0, 0, []), (280, .iload 5, 0, 0, 0, []), (282, .iconst 2, 0, 0, 0, []), (283, .invokevirtual 45, 18, 2, 0, [1327, 1328, 1329]), (286, .istore 6, 0, 0, 0, []), (288, .aload_n 0, 0, 0, 0, []), (289, .iload 5, 0, 0, 0, []), (291, .iconst 4, 0, 0, 0, []), (292, .invokevirtual 45, 18, 2, 0, [1327, 1328, 1329]), (295, .istore 7, 0, 0, 0, []), (297, .iload 4, 0, 0, 0, []), (299, .iload 6, 0, 0, 0, []), (301, .ifCond .le 7, 308, 0, 0, []), (304, .iconst 1, 0, 0, 0, []), (305, .goto 4, 309, 0, 0, []), (308, .iconst 0, 0, 0, 0, []), (309, .iadd, 0, 0, 0, []), (310, .istore 4, 0, 0, 0, []), (312, .iload 6, 0, 0, 0, []), (314, .ifCond .lt 74, 388, 0, 0, []), (317, .iload 6, 0, 0, 0, []), (319, .sipush 200, 0, 0, 0, []), (322, .if_icmp .gt 66, 388, 0, 0, []), (325, .aload_n 0, 0, 0, 0, []), (326, .iload 5, 0, 0, 0, []), (328, .iconst 3, 0, 0, 0, []), (329, .invokevirtual 45, 18, 2, 0, [1327, 1328, 1329]), (332, .ifCond .lt 56, 388, 0, 0, []), (335, .aload_n 0, 0, 0, 0, []), (336, .iload 5, 0, 0, 0, []), (338, .iconst 3, 0, 0, 0, []), (339, .invokevirtual 45, 18, 2, 0, [1327, 1328, 1329]), (342, .bipush 12, 0, 0, 0, []), (344, .if_icmp .gt 44, 388, 0, 0, []), (347, .iload 7, 0, 0, 0, []), (349, .ifCond .eq 15, 364, 0, 0, []), (352, .iload 7, 0, 0, 0, []), (354, .iconst 2, 0, 0, 0, []), (355, .if_icmp .eq 9, 364, 0, 0, []), (358, .iload 7, 0, 0, 0, []), (360, .iconst 3, 0, 0, 0, []), (361, .if_icmp .ne 7, 368, 0, 0, []), (364, .iconst 1, 0, 0, 0, []), (365, .goto 4, 369, 0, 0, []), (368, .iconst 0, 0, 0, 0, []), (369, .aload_n 0, 0, 0, 0, []), (370, .iload 5, 0, 0, 0, []), (372, .iconst 5, 0, 0, 0, []), (373, .invokevirtual 45, 18, 2, 0, [1327, 1328, 1329]), (376, .iconst (-1), 0, 0, 0, []), (377, .if_icmp .ne 7, 384, 0, 0, []), (380, .iconst 1, 0, 0, 0, []), (381, .goto 4, 385, 0, 0, []), (384, .iconst 0, 0, 0, 0, []), (385, .if_icmp .eq 5, 390, 0, 0, []), (388, .iconst 0, 0, 0, 0, []), (389, .ireturn, 0, 0, 0, []), (390, .aload_n 0, 0, 0, 0, []), (391, .iload 5, 0, 0, 0, []), (393, .bipush 6, 0, 0, 0, []), (395, .invokevirtual 45, 18, 2, 0, [1327, 1328, 1329]), (398, .iload 6, 0, 0, 0, []), (400, .bipush 14, 0, 0, 0, []), (402, .aload_n 0, 0, 0, 0, []), (403, .iload 5, 0, 0, 0, []), (405, .iconst 3, 0, 0, 0, []), (406, .invokevirtual 45, 18, 2, 0, [1327, 1328, 1329]), (409, .isub, 0, 0, 0, []), (410, .imul, 0, 0, 0, []), (411, .aload_n 0, 0, 0, 0, []), (412, .aload_n 0, 0, 0, 0, []), (413, .iload 5, 0, 0, 0, []), (415, .iconst 0, 0, 0, 0, []), (416, .invokevirtual 45, 18, 2, 0, [1327, 1328, 1329]), (419, .iconst 3, 0, 0, 0, []), (420, .invokevirtual 96, 21, 2, 0, [440, 441, 442]), (423, .bipush 50, 0, 0, 0, []), (425, .iadd, 0, 0, 0, []), (426, .imul, 0, 0, 0, []), (427, .bipush 100, 0, 0, 0, []), (429, .idiv, 0, 0, 0, []), (430, .if_icmp .eq 5, 435, 0, 0, []), (433, .iconst 0, 0, 0, 0, []), (434, .ireturn, 0, 0, 0, []), (435, .iinc 5 1, 0, 0, 0, []), (438, .goto (-166), 272, 0, 0, []), (441, .iconst 0, 0, 0, 0, []), (442, .istore 5, 0, 0, 0, []), (444, .iconst 0, 0, 0, 0, []), (445, .istore 6, 0, 0, 0, []), (447, .iload 6, 0, 0, 0, []), (449, .bipush 6, 0, 0, 0, []), (451, .if_icmp .ge 126, 577, 0, 0, []), (454, .iload 5, 0, 0, 0, []), (456, .aload_n 0, 0, 0, 0, []), (457, .iload 6, 0, 0, 0, []), (459, .iconst 5, 0, 0, 0, []), (460, .invokevirtual 65, 19, 2, 0, [1368, 1369, 1370]), (463, .ifCond .ne 7, 470, 0, 0, []), (466, .iconst 1, 0, 0, 0, []), (467, .goto 4, 471, 0, 0, []), (470, .iconst 0, 0, 0, 0, []), (471, .iadd, 0, 0, 0, []), (472, .istore 5, 0, 0, 0, []), (474, .aload_n 0, 0, 0, 0, []), (475, .iload 6, 0, 0, 0, []), (477, .iconst 3, 0, 0, 0, []), (478, .invokevirtual 65, 19, 2, 0, [1368, 1369, 1370]), (481, .ifCond .lt 88, 569, 0, 0, []), (484, .aload_n 0, 0, 0, 0, []), (485, .iload 6, 0, 0, 0, []), (487, .iconst 3, 0, 0, 0, []), (488, .invokevirtual 65, 19, 2, 0, [1368, 1369, 1370]), (491, .iconst 3, 0, 0, 0, []), (492, .if_icmp .gt 77, 569, 0, 0, []), (495, .aload_n 0, 0, 0, 0, []), (496, .iload 6, 0, 0, 0, []), (498, .iconst 5, 0, 0, 0, []), (499, .invokevirtual 65, 19, 2, 0, [1368, 1369, 1370]), (502, .ifCond .ne 15, 517, 0, 0, []), (505, .aload_n 0, 0, 0, 0, []), (506, .iload 6, 0, 0, 0, []), (508, .iconst 4, 0, 0, 0, []), (509, .invokevirtual 65, 19, 2, 0, [1368, 1369, 1370]), (512, .bipush 9, 0, 0, 0, []), (514, .if_icmp .gt 55, 569, 0, 0, []), (517, .aload_n 0, 0, 0, 0, []), (518, .iload 6, 0, 0, 0, []), (520, .bipush 7, 0, 0, 0, []), (522, .invokevirtual 65, 19, 2, 0, [1368, 1369, 1370]), (525, .iconst 4, 0, 0, 0, []), (526, .aload_n 0, 0, 0, 0, []), (527, .iload 6, 0, 0, 0, []), (529, .iconst 3, 0, 0, 0, []), (530, .invokevirtual 65, 19, 2, 0, [1368, 1369, 1370]), (533, .isub, 0, 0, 0, []), (534, .if_icmp .gt 35, 569, 0, 0, []), (537, .aload_n 0, 0, 0, 0, []), (538, .iload 6, 0, 0, 0, []), (540, .bipush 7, 0, 0, 0, []), (542, .invokevirtual 65, 19, 2, 0, [1368, 1369, 1370]), (545, .ifCond .le 26, 571, 0, 0, []), (548, .aload_n 0, 0, 0, 0, []), (549, .iload 6, 0, 0, 0, []), (551, .iconst 5, 0, 0, 0, []), (552, .invokevirtual 65, 19, 2, 0, [1368, 1369, 1370]), (555, .ifCond .gt 14, 569, 0, 0, []), (558, .aload_n 0, 0, 0, 0, []), (559, .iload 6, 0, 0, 0, []), (561, .bipush 6, 0, 0, 0, []), (563, .invokevirtual 65, 19, 2, 0, [1368, 1369, 1370]), (566, .ifCond .ge 5, 571, 0, 0, []), (569, .iconst 0, 0, 0, 0, []), (570, .ireturn, 0, 0, 0, []), (571, .iinc 6 1, 0, 0, 0, []), (574, .goto (-127), 447, 0, 0, []), (577, .iconst 0, 0, 0, 0, []), (578, .istore 6, 0, 0, 0, []), (580, .iload 6, 0, 0, 0, []), (582, .aload_n 0, 0, 0, 0, []), (583, .bipush 12, 0, 0, 0, []), (585, .invokevirtual 99, 22, 1, 0, [461, 462, 463]), (588, .if_icmp .ge 83, 671, 0, 0, []), (591, .aload_n 0, 0, 0, 0, []), (592, .iload 6, 0, 0, 0, []), (594, .bipush 7, 0, 0, 0, []), (596, .invokevirtual 131, 20, 2, 0, [1479, 1480, 1481]), (599, .iconst 1, 0, 0, 0, []), (600, .if_icmp .lt 63, 663, 0, 0, []), (603, .aload_n 0, 0, 0, 0, []), (604, .iload 6, 0, 0, 0, []), (606, .bipush 7, 0, 0, 0, []), (608, .invokevirtual 131, 20, 2, 0, [1479, 1480, 1481]), (611, .bipush 6, 0, 0, 0, []), (613, .if_icmp .gt 50, 663, 0, 0, []), (616, .aload_n 0, 0, 0, 0, []), (617, .iload 6, 0, 0, 0, []), (619, .bipush 6, 0, 0, 0, []), (621, .invokevirtual 131, 20, 2, 0, [1479, 1480, 1481]), (624, .iconst 3, 0, 0, 0, []), (625, .if_icmp .gt 38, 663, 0, 0, []), (628, .aload_n 0, 0, 0, 0, []), (629, .iload 6, 0, 0, 0, []), (631, .bipush 8, 0, 0, 0, []), (633, .invokevirtual 131, 20, 2, 0, [1479, 1480, 1481]), (636, .iconst 1, 0, 0, 0, []), (637, .if_icmp .ne 28, 665, 0, 0, []), (640, .aload_n 0, 0, 0, 0, []), (641, .iload 6, 0, 0, 0, []), (643, .bipush 6, 0, 0, 0, []), (645, .invokevirtual 131, 20, 2, 0, [1479, 1480, 1481]), (648, .ifCond .ne 15, 663, 0, 0, []), (651, .aload_n 0, 0, 0, 0, []), (652, .iload 6, 0, 0, 0, []), (654, .bipush 7, 0, 0, 0, []), (656, .invokevirtual 131, 20, 2, 0, [1479, 1480, 1481]), (659, .iconst 2, 0, 0, 0, []), (660, .if_icmp .ge 5, 665, 0, 0, []), (663, .iconst 0, 0, 0, 0, []), (664, .ireturn, 0, 0, 0, []), (665, .iinc 6 1, 0, 0, 0, []), (668, .goto (-88), 580, 0, 0, []), (671, .iconst 0, 0, 0, 0, []), (672, .istore 6, 0, 0, 0, []), (674, .iload 6, 0, 0, 0, []), (676, .iconst 2, 0, 0, 0, []), (677, .if_icmp .ge 67, 744, 0, 0, []), (680, .aload_n 0, 0, 0, 0, []), (681, .iload 6, 0, 0, 0, []), (683, .iconst 5, 0, 0, 0, []), (684, .invokevirtual 96, 21, 2, 0, [440, 441, 442]), (687, .aload_n 3, 0, 0, 0, []), (688, .iload 6, 0, 0, 0, []), (690, .iaload, 0, 0, 0, []), (691, .if_icmp .ne 45, 736, 0, 0, []), (694, .aload_n 0, 0, 0, 0, []), (695, .iload 6, 0, 0, 0, []), (697, .iconst 3, 0, 0, 0, []), (698, .invokevirtual 96, 21, 2, 0, [440, 441, 442]), (701, .ifCond .lt 35, 736, 0, 0, []), (704, .aload_n 0, 0, 0, 0, []), (705, .iload 6, 0, 0, 0, []), (707, .iconst 3, 0, 0, 0, []), (708, .invokevirtual 96, 21, 2, 0, [440, 441, 442]), (711, .bipush 100, 0, 0, 0, []), (713, .if_icmp .gt 23, 736, 0, 0, []), (716, .aload_n 0, 0, 0, 0, []), (717, .iload 6, 0, 0, 0, []), (719, .iconst 1, 0, 0, 0, []), (720, .invokevirtual 96, 21, 2, 0, [440, 441, 442]), (723, .ifCond .lt 13, 736, 0, 0, []), (726, .aload_n 0, 0, 0, 0, []), (727, .iload 6, 0, 0, 0, []), (729, .iconst 2, 0, 0, 0, []), (730, .invokevirtual 96, 21, 2, 0, [440, 441, 442]), (733, .ifCond .ge 5, 738, 0, 0, []), (736, .iconst 0, 0, 0, 0, []), (737, .ireturn, 0, 0, 0, []), (738, .iinc 6 1, 0, 0, 0, []), (741, .goto (-67), 674, 0, 0, []), (744, .aload_n 0, 0, 0, 0, []), (745, .iconst 3, 0, 0, 0, []), (746, .invokevirtual 99, 22, 1, 0, [461, 462, 463]), (749, .istore 6, 0, 0, 0, []), (751, .aload_n 0, 0, 0, 0, []), (752, .iload_n 1, 0, 0, 0, []), (753, .bipush 6, 0, 0, 0, []), (755, .invokestatic 102, 162, 3, 0, [1459, 1460]), (758, .istore 7, 0, 0, 0, []), (760, .aload_n 0, 0, 0, 0, []), (761, .iconst 0, 0, 0, 0, []), (762, .bipush 6, 0, 0, 0, []), (764, .invokevirtual 96, 21, 2, 0, [440, 441, 442]), (767, .aload_n 0, 0, 0, 0, []), (768, .iconst 1, 0, 0, 0, []), (769, .bipush 6, 0, 0, 0, []), (771, .invokevirtual 96, 21, 2, 0, [440, 441, 442]), (774, .iadd, 0, 0, 0, []), (775, .iload 4, 0, 0, 0, []), (777, .if_icmp .ne 88, 865, 0, 0, []), (780, .aload_n 0, 0, 0, 0, []), (781, .iconst 0, 0, 0, 0, []), (782, .bipush 12, 0, 0, 0, []), (784, .invokevirtual 96, 21, 2, 0, [440, 441, 442]), (787, .aload_n 0, 0, 0, 0, []), (788, .iconst 1, 0, 0, 0, []), (789, .bipush 12, 0, 0, 0, []), (791, .invokevirtual 96, 21, 2, 0, [440, 441, 442]), (794, .iadd, 0, 0, 0, []), (795, .iload 5, 0, 0, 0, []), (797, .if_icmp .ne 68, 865, 0, 0, []), (800, .aload_n 0, 0, 0, 0, []), (801, .bipush 11, 0, 0, 0, []), (803, .invokevirtual 99, 22, 1, 0, [461, 462, 463]), (806, .aload_n 0, 0, 0, 0, []), (807, .iload_n 1, 0, 0, 0, []), (808, .iconst 5, 0, 0, 0, []), (809, .invokestatic 102, 162, 3, 0, [1459, 1460]), (812, .if_icmp .ne 53, 865, 0, 0, []), (815, .aload_n 0, 0, 0, 0, []), (816, .bipush 10, 0, 0, 0, []), (818, .invokevirtual 99, 22, 1, 0, [461, 462, 463]), (821, .iload 7, 0, 0, 0, []), (823, .if_icmp .ne 42, 865, 0, 0, []), (826, .iload 6, 0, 0, 0, []), (828, .ifCond .lt 37, 865, 0, 0, []), (831, .iload 6, 0, 0, 0, []), (833, .iconst 5, 0, 0, 0, []), (834, .if_icmp .gt 31, 865, 0, 0, []), (837, .iload 6, 0, 0, 0, []), (839, .iconst 3, 0, 0, 0, []), (840, .if_icmp .eq 9, 849, 0, 0, []), (843, .iload 6, 0, 0, 0, []), (845, .iconst 4, 0, 0, 0, []), (846, .if_icmp .ne 8, 854, 0, 0, []), (849, .iload 7, 0, 0, 0, []), (851, .ifCond .eq 14, 865, 0, 0, []), (854, .iload 7, 0, 0, 0, []), (856, .ifCond .le 11, 867, 0, 0, []), (859, .iload 6, 0, 0, 0, []), (861, .iconst 3, 0, 0, 0, []), (862, .if_icmp .ge 5, 867, 0, 0, []), (865, .iconst 0, 0, 0, 0, []), (866, .ireturn, 0, 0, 0, []), (867, .aload_n 0, 0, 0, 0, []), (868, .iload_n 1, 0, 0, 0, []), (869, .iconst 1, 0, 0, 0, []), (870, .invokestatic 102, 162, 3, 0, [1459, 1460]), (873, .aload_n 0, 0, 0, 0, []), (874, .iconst 4, 0, 0, 0, []), (875, .invokevirtual 99, 22, 1, 0, [461, 462, 463]), (878, .iadd, 0, 0, 0, []), (879, .iload_n 2, 0, 0, 0, []), (880, .isub, 0, 0, 0, []), (881, .istore 8, 0, 0, 0, []), (883, .iload 8, 0, 0, 0, []), (885, .ifCond .lt 42, 927, 0, 0, []), (888, .iload 8, 0, 0, 0, []), (890, .aload_n 0, 0, 0, 0, []), (891, .iconst 4, 0, 0, 0, []), (892, .invokevirtual 99, 22, 1, 0, [461, 462, 463]), (895, .if_icmp .gt 32, 927, 0, 0, []), (898, .aload_n 0, 0, 0, 0, []), (899, .iconst 1, 0, 0, 0, []), (900, .invokevirtual 99, 22, 1, 0, [461, 462, 463]), (903, .iconst 2, 0, 0, 0, []), (904, .if_icmp .eq 12, 916, 0, 0, []), (907, .aload_n 0, 0, 0, 0, []), (908, .iconst 2, 0, 0, 0, []), (909, .invokevirtual 99, 22, 1, 0, [461, 462, 463]), (912, .iconst (-1), 0, 0, 0, []), (913, .if_icmp .ne 14, 927, 0, 0, []), (916, .aload_n 0, 0, 0, 0, []), (917, .invokevirtual 134, 11, 0, 0, [1483, 1484, 1485]), (920, .ifCond .eq 7, 927, 0, 0, []), (923, .iconst 1, 0, 0, 0, []), (924, .goto 4, 928, 0, 0, []), (927, .iconst 0, 0, 0, 0, []), (928, .ireturn, 0, 0, 0, [])], 8, 165)
set_option maxRecDepth 20000 in
/-- 166: L_law -/
def zm_L_law : zM := (⟨"SiegelinesLaw", "law", "([I)Z"⟩, code, 14, some (.boolean), [], [(0, .aload_n 0, 0, 0, 0, []), (1, .invokestatic 88, 167, 1, 0, [593, 594]), (4, .astore_n 1, 0, 0, 0, []), (5, .aload_n 1, 0, 0, 0, []), (6, .invokestatic 92, 168, 1, 0, [1084, 1085]), (9, .istore_n 2, 0, 0, 0, []), (10, .iconst 2, 0, 0, 0, []), (11, .newarray .int, 100, 0, 0, [679]), (13, .dup, 0, 0, 0, []), (14, .iconst 0, 0, 0, 0, []), (15, .aload_n 1, 0, 0, 0, []), (16, .iconst 0, 0, 0, 0, []), (17, .iconst 5, 0, 0, 0, []), (18, .invokevirtual 96, 21, 2, 0, [440, 441, 442]), (21, .iastore, 0, 0, 0, []), (22, .dup, 0, 0, 0, []), (23, .iconst 1, 0, 0, 0, []), (24, .aload_n 1, 0, 0, 0, []), (25, .iconst 1, 0, 0, 0, []), (26, .iconst 5, 0, 0, 0, []), (27, .invokevirtual 96, 21, 2, 0, [440, 441, 442]), (30, .iastore, 0, 0, 0, []), (31, .astore_n 3, 0, 0, 0, []), (32, .aload_n 1, 0, 0, 0, []), (33, .iconst 5, 0, 0, 0, []), (34, .invokevirtual 99, 22, 1, 0, [461, 462, 463]), (37, .istore 4, 0, 0, 0, []), (39, .aload_n 1, 0, 0, 0, []), (40, .iload_n 2, 0, 0, 0, []), (41, .iconst 1, 0, 0, 0, []), (42, .invokestatic 102, 162, 3, 0, [1459, 1460]), (45, .istore 5, 0, 0, 0, []), (47, .iconst 0, 0, 0, 0, []), (48, .istore 6, 0, 0, 0, []), (50, .iload 6, 0, 0, 0, []), (52, .bipush 24, 0, 0, 0, []), (54, .if_icmp .ge 341, 395, 0, 0, []), (57, .aload_n 0, 0, 0, 0, []), (58, .iconst 3, 0, 0, 0, []), (59, .iload 6, 0, 0, 0, []), (61, .bipush 14, 0, 0, 0, []), (63, .irem, 0, 0, 0, []), (64, .iadd, 0, 0, 0, []), (65, .invokestatic 12, 161, 2, 0, [589, 590]), (68, .iload 6, 0, 0, 0, []), (70, .bipush 14, 0, 0, 0, []), (72, .idiv, 0, 0, 0, []), (73, .iconst 5, 0, 0, 0, []), (74, .imul, 0, 0, 0, []), (75, .ishr, 0, 0, 0, []), (76, .istore 7, 0, 0, 0, []), (78, .aload_n 1, 0, 0, 0, []), (79, .iconst 0, 0, 0, 0, []), (80, .invokevirtual 99, 22, 1, 0, [461, 462, 463]), (83, .istore 8, 0, 0, 0, []), (85, .aload_n 1, 0, 0, 0, []), (86, .iconst 4, 0, 0, 0, []), (87, .invokevirtual 99, 22, 1, 0, [461, 462, 463]), (90, .istore 9, 0, 0, 0, []), (92, .aload_n 1, 0, 0, 0, []), (93, .iconst 0, 0, 0, 0, []), (94, .iconst 5, 0, 0, 0, []), (95, .invokevirtual 96, 21, 2, 0, [440, 441, 442]), (98, .aload_n 1, 0, 0, 0, []), (99, .iconst 1, 0, 0, 0, []), (100, .iconst 5, 0, 0, 0, []), (101, .invokevirtual 96, 21, 2, 0, [440, 441, 442]), (104, .iadd, 0, 0, 0, []), (105, .istore 10, 0, 0, 0, []), (107, .aload_n 1, 0, 0, 0, []), (108, .iconst 1, 0, 0, 0, []), (109, .invokevirtual 99, 22, 1, 0, [461, 462, 463]), (112, .iconst 1, 0, 0, 0, []), (113, .if_icmp .ne 7, 120, 0, 0, []), (116, .iconst 1, 0, 0, 0, []), (117, .goto 4, 121, 0, 0, []), (120, .iconst 0, 0, 0, 0, []), (121, .istore 11, 0, 0, 0, []), (123, .aload_n 1, 0, 0, 0, []), (124, .iload 7, 0, 0, 0, []), (126, .iload_n 2, 0, 0, 0, []), (127, .invokestatic 106, 163, 3, 0, [1323, 1324]), (130, .ifCond .eq 8, 138, 0, 0, []), (133, .iload 11, 0, 0, 0, []), (135, .ifCond .eq 13, 148, 0, 0, []), (138, .aload_n 1, 0, 0, 0, []), (139, .iconst 0, 0, 0, 0, []), (140, .invokevirtual 99, 22, 1, 0, [461, 462, 463]), (143, .iload 8, 0, 0, 0, []), (145, .if_icmp .eq 5, 150, 0, 0, []), (148, .iconst 0, 0, 0, 0, []), (149, .ireturn, 0, 0, 0, []), (150, .iload 11, 0, 0, 0, []), (152, .ifCond .eq 98, 250, 0, 0, []), (155, .aload_n 1, 0, 0, 0, []), (156, .iconst 1, 0, 0, 0, []), (157, .invokevirtual 99, 22, 1, 0, [461, 462, 463]), (160, .iconst 1, 0, 0, 0, []), (161, .if_icmp .ne 89, 250, 0, 0, []), (164, .iload 8, 0, 0, 0, []), (166, .bipush 20, 0, 0, 0, []), (168, .iadd, 0, 0, 0, []), (169, .sipush 2400, 0, 0, 0, []), (172, .if_icmp .ge 78, 250, 0, 0, []), (175, .iconst 1, 0, 0, 0, []), (176, .iload 7, 0, 0, 0, []), (178, .bipush 13, 0, 0, 0, []), (180, .ishr, 0, 0, 0, []), (181, .iconst 4, 0, 0, 0, []), (182, .invokestatic 18, 160, 2, 0, [585, 586]), (185, .iload 7, 0, 0, 0, []), (187, .bipush 15, 0, 0, 0, []), (189, .ishr, 0, 0, 0, []), (190, .iconst 5, 0, 0, 0, []), (191, .invokestatic 18, 160, 2, 0, [585, 586]), (194, .imul, 0, 0, 0, []), (195, .iadd, 0, 0, 0, []), (196, .istore 12, 0, 0, 0, []), (198, .aload_n 1, 0, 0, 0, []), (199, .iload 12, 0, 0, 0, []), (201, .invokevirtual 110, 25, 1, 0, [48, 49, 50]), (204, .istore 13, 0, 0, 0, []), (206, .iload 13, 0, 0, 0, []), (208, .aload_n 1, 0, 0, 0, []), (209, .iconst 0, 0, 0, 0, []), (210, .invokevirtual 99, 22, 1, 0, [461, 462, 463]), (213, .if_icmp .ne 32, 245, 0, 0, []), (216, .iload 13, 0, 0, 0, []), (218, .iload 8, 0, 0, 0, []), (220, .iload 12, 0, 0, 0, []), (222, .iadd, 0, 0, 0, []), (223, .if_icmp .gt 22, 245, 0, 0, []), (226, .iload 13, 0, 0, 0, []), (228, .iload 8, 0, 0, 0, []), (230, .iload 12, 0, 0, 0, []), (232, .iadd, 0, 0, 0, []), (233, .if_icmp .ge 14, 247, 0, 0, []), (236, .aload_n 1, 0, 0, 0, []), (237, .iconst 1, 0, 0, 0, []), (238, .invokevirtual 99, 22, 1, 0, [461, 462, 463]), (241, .iconst 2, 0, 0, 0, []), (242, .if_icmp .eq 5, 247, 0, 0, []), (245, .iconst 0, 0, 0, 0, []), (246, .ireturn, 0, 0, 0, []), (247, .goto 12, 259, 0, 0, []), (250, .aload_n 1, 0, 0, 0, []), (251, .invokestatic 113, 164, 1, 0, [1467, 1468]), (254, .ifCond .ne 5, 259, 0, 0, []), (257, .iconst 0, 0, 0, 0, []), (258, .ireturn, 0, 0, 0, []), (259, .aload_n 1, 0, 0, 0, []), (260, .iconst 0, 0, 0, 0, []), (261, .iconst 5, 0, 0, 0, []), (262, .invokevirtual 96, 21, 2, 0, [440, 441, 442]), (265, .aload_n 1, 0, 0, 0, []), (266, .iconst 1, 0, 0, 0, []), (267, .iconst 5, 0, 0, 0, []), (268, .invokevirtual 96, 21, 2, 0, [440, 441, 442]), (271, .iadd, 0, 0, 0, []), (272, .iload 10, 0, 0, 0, []), (274, .if_icmp .gt 44, 318, 0, 0, []), (277, .aload_n 1, 0, 0, 0, []), (278, .iconst 4, 0, 0, 0, []), (279, .invokevirtual 99, 22, 1, 0, [461, 462, 463]), (282, .iload 9, 0, 0, 0, []), (284, .if_icmp .lt 34, 318, 0, 0, []), (287, .aload_n 1, 0, 0, 0, []), (288, .iconst 5, 0, 0, 0, []), (289, .invokevirtual 99, 22, 1, 0, [461, 462, 463]), (292, .iload 4, 0, 0, 0, []), (294, .if_icmp .eq 26, 320, 0, 0, []), (297, .aload_n 1, 0, 0, 0, []), (298, .iconst 1, 0, 0, 0, []), (299, .invokevirtual 99, 22, 1, 0, [461, 462, 463]), (302, .iconst 2, 0, 0, 0, []), (303, .if_icmp .ne 15, 318, 0, 0, []), (306, .aload_n 1, 0, 0, 0, []), (307, .iconst 5, 0, 0, 0, []), (308, .invokevirtual 99, 22, 1, 0, [461, 462, 463]), (311, .iload 4, 0, 0, 0, []), (313, .iconst 2, 0, 0, 0, []), (314, .idiv, 0, 0, 0, []), (315, .if_icmp .eq 5, 320, 0, 0, []), (318, .iconst 0, 0, 0, 0, []), (319, .ireturn, 0, 0, 0, []), (320, .iconst 0, 0, 0, 0, []), (321, .istore 12, 0, 0, 0, []), (323, .iload 12, 0, 0, 0, []), (325, .iconst 2, 0, 0, 0, []), (326, .if_icmp .ge 43, 369, 0, 0, []), (329, .aload_n 1, 0, 0, 0, []), (330, .iload 12, 0, 0, 0, []), (332, .iconst 5, 0, 0, 0, []), (333, .invokevirtual 96, 21, 2, 0, [440, 441, 442]), (336, .aload_n 1, 0, 0, 0, []), (337, .iload 12, 0, 0, 0, []), (339, .bipush 9, 0, 0, 0, []), (341, .invokevirtual 96, 21, 2, 0, [440, 441, 442]), (344, .iadd, 0, 0, 0, []), (345, .aload_n 1, 0, 0, 0, []), (346, .iload 12, 0, 0, 0, []), (348, .bipush 11, 0, 0, 0, []), (350, .invokevirtual 96, 21, 2, 0, [440, 441, 442]), (353, .iadd, 0, 0, 0, []), (354, .aload_n 3, 0, 0, 0, []), (355, .iload 12, 0, 0, 0, []), (357, .iaload, 0, 0, 0, []), (358, .if_icmp .eq 5, 363, 0, 0, []), (361, .iconst 0, 0, 0, 0, []), (362, .ireturn, 0, 0, 0, []), (363, .iinc 12 1, 0, 0, 0, []), (366, .goto (-43), 323, 0, 0, []), (369, .iload 6, 0, 0, 0, []), (371, .iconst 4, 0, 0, 0, []), (372, .irem, 0, 0, 0, []), (373, .iconst 3, 0, 0, 0, []), (374, .if_icmp .ne 15, 389, 0, 0, []), (377, .aload_n 1, 0, 0, 0, []), (378, .iload_n 2, 0, 0, 0, []), (379, .iload 5, 0, 0, 0, []), (381, .invokestatic 117, 165, 3, 0, [1470, 1471]), (384, .ifCond .ne 5, 389, 0, 0, []), (387, .iconst 0, 0, 0, 0, []), (388, .ireturn, 0, 0, 0, []), (389, .iinc 6 1, 0, 0, 0, []), (392, .goto (-342), 50, 0, 0, []), (395, .aload_n 1, 0, 0, 0, []), (396, .invokevirtual 120, 6, 0, 0, [495, 496, 497]), (399, .lstore 6, 0, 0, 0, []), (401, .aload_n 1, 0, 0, 0, []), (402, .iload_n 2, 0, 0, 0, []), (403, .iload 5, 0, 0, 0, []), (405, .invokestatic 117, 165, 3, 0, [1470, 1471]), (408, .ifCond .eq 17, 425, 0, 0, []), (411, .aload_n 1, 0, 0, 0, []), (412, .invokevirtual 120, 6, 0, 0, [495, 496, 497]), (415, .lload 6, 0, 0, 0, []), (417, .lcmp, 0, 0, 0, []), (418, .ifCond .ne 7, 425, 0, 0, []), (421, .iconst 1, 0, 0, 0, []), (422, .goto 4, 426, 0, 0, []), (425, .iconst 0, 0, 0, 0, []), (426, .ireturn, 0, 0, 0, [])], 12, 464)
set_option maxRecDepth 20000 in
/-- 167: L_siege -/
def zm_L_siege : zM := (⟨"SiegelinesLaw", "siege", "([I)LSiegelines;"⟩, method_4_code, 2, some ((.object "Siegelines")), [], [(0, .new 9, 0, 0, 0, [596]), (3, .dup, 0, 0, 0, []), (4, .invokespecial 11, 0, 0, 0, [597, 598]), (7, .astore_n 1, 0, 0, 0, []), (8, .aload_n 1, 0, 0, 0, []), (9, .bipush 8, 0, 0, 0, []), (11, .aload_n 0, 0, 0, 0, []), (12, .iconst 0, 0, 0, 0, []), (13, .invokestatic 12, 161, 2, 0, [589, 590]), (16, .iconst 5, 0, 0, 0, []), (17, .invokestatic 18, 160, 2, 0, [585, 586]), (20, .iadd, 0, 0, 0, []), (21, .bipush 8, 0, 0, 0, []), (23, .aload_n 0, 0, 0, 0, []), (24, .iconst 0, 0, 0, 0, []), (25, .invokestatic 12, 161, 2, 0, [589, 590]), (28, .iconst 3, 0, 0, 0, []), (29, .ishr, 0, 0, 0, []), (30, .iconst 5, 0, 0, 0, []), (31, .invokestatic 18, 160, 2, 0, [585, 586]), (34, .iadd, 0, 0, 0, []), (35, .aload_n 0, 0, 0, 0, []), (36, .iconst 1, 0, 0, 0, []), (37, .invokestatic 12, 161, 2, 0, [589, 590]), (40, .bipush 100, 0, 0, 0, []), (42, .invokestatic 18, 160, 2, 0, [585, 586]), (45, .invokevirtual 22, 12, 3, 0, [1009, 1010, 1011]), (48, .pop, 0, 0, 0, []), (49, .aload_n 1, 0, 0, 0, []), (50, .aload_n 0, 0, 0, 0, []), (51, .iconst 2, 0, 0, 0, []), (52, .invokestatic 12, 161, 2, 0, [589, 590]), (55, .bipush 100, 0, 0, 0, []), (57, .invokestatic 18, 160, 2, 0, [585, 586]), (60, .invokevirtual 26, 16, 1, 0, [1059, 1060, 1061]), (63, .pop, 0, 0, 0, []), (64, .aload_n 1, 0, 0, 0, []), (65, .invokevirtual 30, 2, 0, 0, [1079, 1080, 1081]), (68, .pop, 0, 0, 0, []), (69, .aload_n 1, 0, 0, 0, []), (70, .areturn, 0, 0, 0, [])], 7, 137)
set_option maxRecDepth 20000 in
/-- 168: L_size -/
def zm_L_size : zM := (⟨"SiegelinesLaw", "size", "(LSiegelines;)I"⟩, method_5_code, 4, some (.int), [(4, 27, 30, 43)], [(0, .iconst 0, 0, 0, 0, []), (1, .istore_n 1, 0, 0, 0, []), (2, .iconst 0, 0, 0, 0, []), (3, .istore_n 2, 0, 0, 0, []), (4, .iload_n 1, 0, 0, 0, []), (5, .bipush 13, 0, 0, 0, []), (7, .if_icmp .ge 20, 27, 0, 0, []), (10, .iload_n 2, 0, 0, 0, []), (11, .aload_n 0, 0, 0, 0, []), (12, .iload_n 1, 0, 0, 0, []), (13, .invokevirtual 34, 0, 0, 2000, []), (19, .iadd, 0, 0, 0, []), (20, .istore_n 2, 0, 0, 0, []), (21, .iinc 1 1, 0, 0, 0, []), (24, .goto (-20), 4, 0, 0, []), (27, .goto 6, 33, 0, 0, []), (30, .astore_n 3, 0, 0, 0, []), (31, .iload_n 2, 0, 0, 0, []), (32, .ireturn, 0, 0, 0, []), (33, .iload_n 2, 0, 0, 0, []), (34, .ireturn, 0, 0, 0, [])], 11, 441)
set_option maxRecDepth 20000 in
/-- 169: Math_abs -/
def zm_Math_abs : zM := (⟨"java/lang/Math", "abs", "(I)I"⟩, prog_25_method_59_code, 1, some (.int), [], [(0, .iload_n 0, 0, 0, 0, []), (1, .ifCond .ge 8, 9, 0, 0, []), (4, .iload_n 0, 0, 0, 0, []), (5, .ineg, 0, 0, 0, []), (6, .goto 4, 10, 0, 0, []), (9, .iload_n 0, 0, 0, 0, []), (10, .ireturn, 0, 0, 0, [])], 0, 0)
set_option maxRecDepth 20000 in
/-- 170: Math_floorDiv -/
def zm_Math_floorDiv : zM := (⟨"java/lang/Math", "floorDiv", "(II)I"⟩, prog_25_method_47_code, 3, some (.int), [], [(0, .iload_n 0, 0, 0, 0, []), (1, .iload_n 1, 0, 0, 0, []), (2, .idiv, 0, 0, 0, []), (3, .istore_n 2, 0, 0, 0, []), (4, .iload_n 0, 0, 0, 0, []), (5, .iload_n 1, 0, 0, 0, []), (6, .ixor, 0, 0, 0, []), (7, .ifCond .ge 14, 21, 0, 0, []), (10, .iload_n 2, 0, 0, 0, []), (11, .iload_n 1, 0, 0, 0, []), (12, .imul, 0, 0, 0, []), (13, .iload_n 0, 0, 0, 0, []), (14, .if_icmp .eq 7, 21, 0, 0, []), (17, .iload_n 2, 0, 0, 0, []), (18, .iconst 1, 0, 0, 0, []), (19, .isub, 0, 0, 0, []), (20, .ireturn, 0, 0, 0, []), (21, .iload_n 2, 0, 0, 0, []), (22, .ireturn, 0, 0, 0, [])], 0, 0)
set_option maxRecDepth 20000 in
/-- 171: Math_max -/
def zm_Math_max : zM := (⟨"java/lang/Math", "max", "(II)I"⟩, prog_25_method_65_code, 2, some (.int), [], [(0, .iload_n 0, 0, 0, 0, []), (1, .iload_n 1, 0, 0, 0, []), (2, .if_icmp .lt 7, 9, 0, 0, []), (5, .iload_n 0, 0, 0, 0, []), (6, .goto 4, 10, 0, 0, []), (9, .iload_n 1, 0, 0, 0, []), (10, .ireturn, 0, 0, 0, [])], 0, 0)
set_option maxRecDepth 20000 in
/-- 172: Math_min -/
def zm_Math_min : zM := (⟨"java/lang/Math", "min", "(II)I"⟩, prog_25_method_69_code, 2, some (.int), [], [(0, .iload_n 0, 0, 0, 0, []), (1, .iload_n 1, 0, 0, 0, []), (2, .if_icmp .gt 7, 9, 0, 0, []), (5, .iload_n 0, 0, 0, 0, []), (6, .goto 4, 10, 0, 0, []), (9, .iload_n 1, 0, 0, 0, []), (10, .ireturn, 0, 0, 0, [])], 0, 0)
/-- a number that no method bears -/
def zm_none : zM := (⟨"", "", ""⟩, code, 0, none, [], [], 0, 0)
def zProg : List zM := [zm_S_new, zm_S_aim, zm_S_begin, zm_S_blow, zm_S_charge, zm_S_companyFact, zm_S_digest, zm_S_gunFact, zm_S_haul, zm_S_isNoGunWork, zm_S_isSide, zm_S_isSound, zm_S_lay, zm_S_letter, zm_S_mine, zm_S_mineFact, zm_S_muster, zm_S_nextDrawn, zm_S_ofCompany, zm_S_ofGun, zm_S_ofMine, zm_S_ofSide, zm_S_ofSiege, zm_S_ofSquare, zm_S_order, zm_S_pass, zm_S_right, zm_S_sees, zm_S_sideFact, zm_S_siegeFact, zm_S_squareFact, zm_S_target, zm_Company_new, zm_Company_isAt, zm_Company_isOnGuard, zm_Company_isPlaced, zm_Company_place, zm_Company_restNow, zm_Duties_act, zm_Duties_assault, zm_Duties_attackOf, zm_Duties_barWays, zm_Duties_canAssault, zm_Duties_canDig, zm_Duties_defenceOf, zm_Duties_dig, zm_Duties_goOn, zm_Duties_makeGabions, zm_Duties_measureWays, zm_Duties_mend, zm_Duties_payForDefeat, zm_Duties_putToFlight, zm_Duties_quarterOf, zm_Duties_refugeFrom, zm_Duties_stepTo, zm_Duties_toilNeeded, zm_Ground_new, zm_Ground_alongLine, zm_Ground_belongsTo, zm_Ground_bodyOf, zm_Ground_bodyOverTop, zm_Ground_countOf, zm_Ground_digDitch, zm_Ground_far, zm_Ground_firmOf, zm_Ground_heightOf, zm_Ground_isNear, zm_Ground_isOn, zm_Ground_isRaked, zm_Ground_isSeen, zm_Ground_layOut, zm_Ground_next, zm_Ground_openGate, zm_Ground_raiseFort, zm_Ground_shape, zm_Ground_soilBy, zm_Ground_soilOf, zm_Ground_toilOf, zm_Ground_topOf, zm_Ground_touches, zm_Ground_touchesWork, zm_Ground_workOf, zm_Gun_new, zm_Gun_isPlaced, zm_Gun_isReadyOf, zm_Gun_place, zm_Gunnery_bestTarget, zm_Gunnery_canReach, zm_Gunnery_fire, zm_Gunnery_gunsSeeing, zm_Gunnery_lossBy, zm_Gunnery_pointsOf, zm_Gunnery_shotsOf, zm_Gunnery_strike, zm_Midnight_bringSupply, zm_Midnight_come, zm_Midnight_comeNearer, zm_Midnight_desert, zm_Midnight_eat, zm_Midnight_fallSick, zm_Midnight_guardsOf, zm_Mine_new, zm_Mine_goOn, zm_Mine_head, zm_Mine_isBegun, zm_Mine_isWhole, zm_Mine_mouth, zm_Mine_place, zm_Mining_advance, zm_Mining_blowUp, zm_Mining_comesNear, zm_Mining_crushOthers, zm_Mining_isHeard, zm_Mining_isMouth, zm_Mining_reachOf, zm_Mining_shake, zm_Mining_sink, zm_Post_new, zm_Post_comeThrough, zm_Post_loseDay, zm_Post_swim, zm_Side_new, zm_Side_changeMorale, zm_Side_spend, zm_Side_tell, zm_Siege_new, zm_Siege_areMenSound, zm_Siege_askWhetherOver, zm_Siege_batter, zm_Siege_beginMine, zm_Siege_companiesOf, zm_Siege_companyAt, zm_Siege_countFight, zm_Siege_depth, zm_Siege_end, zm_Siege_forceOf, zm_Siege_freshCompanyAt, zm_Siege_gunAt, zm_Siege_homeOf, zm_Siege_hourOfDay, zm_Siege_isAllSound, zm_Siege_isGroundSound, zm_Siege_isHeldBy, zm_Siege_isNight, zm_Siege_isSideSound, zm_Siege_letHourGo, zm_Siege_menAt, zm_Siege_menOf, zm_Siege_mineAt, zm_Siege_musterAll, zm_Siege_of, zm_Siege_placeCompany, zm_Siege_placeGun, zm_Siege_readyGunsOf, zm_Siege_sightFar, zm_Siege_standsAtBreach, zm_Siege_standsIn, zm_Siege_startOver, zm_Siege_takeMen, zm_Siege_tellTown, zm_L_below, zm_L_cell, zm_L_count, zm_L_isDone, zm_L_isRefused, zm_L_isSo, zm_L_law, zm_L_siege, zm_L_size, zm_Math_abs, zm_Math_floorDiv, zm_Math_max, zm_Math_min]
def zP (y : Nat) : zM := zProg.getD y zm_none
end
section
/-! the check of every instruction against the tables -/
def zAll (a n : Nat) : Bool := (List.range' a n).all fun y => (zmC (zP y)).all fun q => zok zCl zic zP y q.1 q.2
def zAlp (y a n : Nat) : Bool := (((zmC (zP y)).drop a).take n).all fun q => zok zCl zic zP y q.1 q.2
set_option maxRecDepth 100000 in
theorem zk_0 : zAll 0 6 = true := by decide +kernel
set_option maxRecDepth 100000 in
theorem zk_6 : zAll 6 1 = true := by decide +kernel
set_option maxRecDepth 100000 in
theorem zk_7 : zAll 7 8 = true := by decide +kernel
set_option maxRecDepth 100000 in
theorem zk_15 : zAll 15 10 = true := by decide +kernel
set_option maxRecDepth 100000 in
theorem zk_25 : zAll 25 5 = true := by decide +kernel
end
section
/-! the check of every instruction against the tables -/
set_option maxRecDepth 100000 in
theorem zk_30 : zAll 30 9 = true := by decide +kernel
set_option maxRecDepth 100000 in
theorem zk_39 : zAll 39 3 = true := by decide +kernel
set_option maxRecDepth 100000 in
theorem zk_42 : zAll 42 4 = true := by decide +kernel
set_option maxRecDepth 100000 in
theorem zk_46 : zAll 46 4 = true := by decide +kernel
set_option maxRecDepth 100000 in
theorem zk_50 : zAll 50 6 = true := by decide +kernel
end
section
/-! the check of every instruction against the tables -/
set_option maxRecDepth 100000 in
theorem zk_56 : zAll 56 10 = true := by decide +kernel
set_option maxRecDepth 100000 in
theorem zk_66 : zAll 66 4 = true := by decide +kernel
set_option maxRecDepth 100000 in
theorem zk_70 : zAll 70 3 = true := by decide +kernel
set_option maxRecDepth 100000 in
theorem zk_73 : zAll 73 8 = true := by decide +kernel
set_option maxRecDepth 100000 in
theorem zk_81 : zAll 81 10 = true := by decide +kernel
end
section
/-! the check of every instruction against the tables -/
set_option maxRecDepth 100000 in
theorem zk_91 : zAll 91 4 = true := by decide +kernel
set_option maxRecDepth 100000 in
theorem zk_95 : zAll 95 5 = true := by decide +kernel
set_option maxRecDepth 100000 in
theorem zk_100 : zAll 100 9 = true := by decide +kernel
set_option maxRecDepth 100000 in
theorem zk_109 : zAll 109 4 = true := by decide +kernel
set_option maxRecDepth 100000 in
theorem zk_113 : zAll 113 7 = true := by decide +kernel
end
section
/-! the check of every instruction against the tables -/
set_option maxRecDepth 100000 in
theorem zk_120 : zAll 120 8 = true := by decide +kernel
set_option maxRecDepth 100000 in
theorem zk_128 : zAll 128 8 = true := by decide +kernel
set_option maxRecDepth 100000 in
theorem zk_136 : zAll 136 9 = true := by decide +kernel
set_option maxRecDepth 100000 in
theorem zk_145 : zAll 145 4 = true := by decide +kernel
set_option maxRecDepth 100000 in
theorem zk_149 : zAll 149 7 = true := by decide +kernel
end
section
/-! the check of every instruction against the tables -/
set_option maxRecDepth 100000 in
theorem zk_156 : zAll 156 7 = true := by decide +kernel
set_option maxRecDepth 100000 in
theorem zk_163 : zAll 163 2 = true := by decide +kernel
set_option maxRecDepth 100000 in
theorem zk_165_0 : zAlp 165 0 125 = true := by decide +kernel
set_option maxRecDepth 100000 in
theorem zk_165_125 : zAlp 165 125 125 = true := by decide +kernel
set_option maxRecDepth 100000 in
theorem zk_165_250 : zAlp 165 250 125 = true := by decide +kernel
set_option maxRecDepth 100000 in
theorem zk_165_375 : zAlp 165 375 125 = true := by decide +kernel
set_option maxRecDepth 100000 in
theorem zk_166 : zAll 166 1 = true := by decide +kernel
set_option maxRecDepth 100000 in
theorem zk_167 : zAll 167 6 = true := by decide +kernel
end
section
/-! every method may be called; the classes are as the tables say (printed by program) -/
theorem zin_of {w : Cond} (k : Nat) (h : lw_tbl[k]? = some w) (g : goodWord w = true) : w ∈ zTb := List.mem_filter.mpr ⟨List.mem_of_getElem? h, g⟩
theorem ziw_of {w : Cond} (k : Nat) (h : lw_tbl[k]? = some w) (g : zWk w = true) : w ∈ zWs := List.mem_filter.mpr ⟨List.mem_of_getElem? h, g⟩
set_option maxRecDepth 100000 in
theorem zmk_S_new : zMk zm_S_new := ⟨zin_of 599 rfl rfl, zin_of 20 rfl rfl, by decide +kernel, by decide +kernel, by decide +kernel⟩
set_option maxRecDepth 100000 in
theorem zmk_S_aim : zMk zm_S_aim := ⟨zin_of 1365 rfl rfl, zin_of 20 rfl rfl, by decide +kernel, by decide +kernel, by decide +kernel⟩
set_option maxRecDepth 100000 in
theorem zmk_S_begin : zMk zm_S_begin := ⟨zin_of 1082 rfl rfl, zin_of 20 rfl rfl, by decide +kernel, by decide +kernel, by decide +kernel⟩
set_option maxRecDepth 100000 in
theorem zmk_S_blow : zMk zm_S_blow := ⟨zin_of 1424 rfl rfl, zin_of 20 rfl rfl, by decide +kernel, by decide +kernel, by decide +kernel⟩
set_option maxRecDepth 100000 in
theorem zmk_S_charge : zMk zm_S_charge := ⟨zin_of 1412 rfl rfl, zin_of 20 rfl rfl, by decide +kernel, by decide +kernel, by decide +kernel⟩
set_option maxRecDepth 100000 in
theorem zmk_S_companyFact : zMk zm_S_companyFact := ⟨zin_of 548 rfl rfl, zin_of 20 rfl rfl, by decide +kernel, by decide +kernel, by decide +kernel⟩
set_option maxRecDepth 100000 in
theorem zmk_S_digest : zMk zm_S_digest := ⟨zin_of 498 rfl rfl, zin_of 20 rfl rfl, by decide +kernel, by decide +kernel, by decide +kernel⟩
set_option maxRecDepth 100000 in
theorem zmk_S_gunFact : zMk zm_S_gunFact := ⟨zin_of 537 rfl rfl, zin_of 20 rfl rfl, by decide +kernel, by decide +kernel, by decide +kernel⟩
set_option maxRecDepth 100000 in
theorem zmk_S_haul : zMk zm_S_haul := ⟨zin_of 1375 rfl rfl, zin_of 20 rfl rfl, by decide +kernel, by decide +kernel, by decide +kernel⟩
set_option maxRecDepth 100000 in
theorem zmk_S_isNoGunWork : zMk zm_S_isNoGunWork := ⟨zin_of 1379 rfl rfl, zin_of 20 rfl rfl, by decide +kernel, by decide +kernel, by decide +kernel⟩
set_option maxRecDepth 100000 in
theorem zmk_S_isSide : zMk zm_S_isSide := ⟨zin_of 446 rfl rfl, zin_of 20 rfl rfl, by decide +kernel, by decide +kernel, by decide +kernel⟩
set_option maxRecDepth 100000 in
theorem zmk_S_isSound : zMk zm_S_isSound := ⟨zin_of 1486 rfl rfl, zin_of 20 rfl rfl, by decide +kernel, by decide +kernel, by decide +kernel⟩
set_option maxRecDepth 100000 in
theorem zmk_S_lay : zMk zm_S_lay := ⟨zin_of 1012 rfl rfl, zin_of 20 rfl rfl, by decide +kernel, by decide +kernel, by decide +kernel⟩
set_option maxRecDepth 100000 in
theorem zmk_S_letter : zMk zm_S_letter := ⟨zin_of 1456 rfl rfl, zin_of 20 rfl rfl, by decide +kernel, by decide +kernel, by decide +kernel⟩
set_option maxRecDepth 100000 in
theorem zmk_S_mine : zMk zm_S_mine := ⟨zin_of 1395 rfl rfl, zin_of 20 rfl rfl, by decide +kernel, by decide +kernel, by decide +kernel⟩
set_option maxRecDepth 100000 in
theorem zmk_S_mineFact : zMk zm_S_mineFact := ⟨zin_of 556 rfl rfl, zin_of 20 rfl rfl, by decide +kernel, by decide +kernel, by decide +kernel⟩
set_option maxRecDepth 100000 in
theorem zmk_S_muster : zMk zm_S_muster := ⟨zin_of 1062 rfl rfl, zin_of 20 rfl rfl, by decide +kernel, by decide +kernel, by decide +kernel⟩
set_option maxRecDepth 100000 in
theorem zmk_S_nextDrawn : zMk zm_S_nextDrawn := ⟨zin_of 1041 rfl rfl, zin_of 20 rfl rfl, by decide +kernel, by decide +kernel, by decide +kernel⟩
set_option maxRecDepth 100000 in
theorem zmk_S_ofCompany : zMk zm_S_ofCompany := ⟨zin_of 1330 rfl rfl, zin_of 20 rfl rfl, by decide +kernel, by decide +kernel, by decide +kernel⟩
set_option maxRecDepth 100000 in
theorem zmk_S_ofGun : zMk zm_S_ofGun := ⟨zin_of 1371 rfl rfl, zin_of 20 rfl rfl, by decide +kernel, by decide +kernel, by decide +kernel⟩
set_option maxRecDepth 100000 in
theorem zmk_S_ofMine : zMk zm_S_ofMine := ⟨zin_of 1482 rfl rfl, zin_of 20 rfl rfl, by decide +kernel, by decide +kernel, by decide +kernel⟩
set_option maxRecDepth 100000 in
theorem zmk_S_ofSide : zMk zm_S_ofSide := ⟨zin_of 443 rfl rfl, zin_of 20 rfl rfl, by decide +kernel, by decide +kernel, by decide +kernel⟩
set_option maxRecDepth 100000 in
theorem zmk_S_ofSiege : zMk zm_S_ofSiege := ⟨zin_of 464 rfl rfl, zin_of 20 rfl rfl, by decide +kernel, by decide +kernel, by decide +kernel⟩
set_option maxRecDepth 100000 in
theorem zmk_S_ofSquare : zMk zm_S_ofSquare := ⟨zin_of 1465 rfl rfl, zin_of 20 rfl rfl, by decide +kernel, by decide +kernel, by decide +kernel⟩
set_option maxRecDepth 100000 in
theorem zmk_S_order : zMk zm_S_order := ⟨zin_of 1341 rfl rfl, zin_of 20 rfl rfl, by decide +kernel, by decide +kernel, by decide +kernel⟩
set_option maxRecDepth 100000 in
theorem zmk_S_pass : zMk zm_S_pass := ⟨zin_of 51 rfl rfl, zin_of 20 rfl rfl, by decide +kernel, by decide +kernel, by decide +kernel⟩
set_option maxRecDepth 100000 in
theorem zmk_S_right : zMk zm_S_right := ⟨zin_of 1389 rfl rfl, zin_of 20 rfl rfl, by decide +kernel, by decide +kernel, by decide +kernel⟩
set_option maxRecDepth 100000 in
theorem zmk_S_sees : zMk zm_S_sees := ⟨zin_of 1476 rfl rfl, zin_of 20 rfl rfl, by decide +kernel, by decide +kernel, by decide +kernel⟩
set_option maxRecDepth 100000 in
theorem zmk_S_sideFact : zMk zm_S_sideFact := ⟨zin_of 452 rfl rfl, zin_of 20 rfl rfl, by decide +kernel, by decide +kernel, by decide +kernel⟩
set_option maxRecDepth 100000 in
theorem zmk_S_siegeFact : zMk zm_S_siegeFact := ⟨zin_of 469 rfl rfl, zin_of 20 rfl rfl, by decide +kernel, by decide +kernel, by decide +kernel⟩
set_option maxRecDepth 100000 in
theorem zmk_S_squareFact : zMk zm_S_squareFact := ⟨zin_of 506 rfl rfl, zin_of 20 rfl rfl, by decide +kernel, by decide +kernel, by decide +kernel⟩
set_option maxRecDepth 100000 in
theorem zmk_S_target : zMk zm_S_target := ⟨zin_of 1349 rfl rfl, zin_of 20 rfl rfl, by decide +kernel, by decide +kernel, by decide +kernel⟩
set_option maxRecDepth 100000 in
theorem zmk_Company_new : zMk zm_Company_new := ⟨zin_of 829 rfl rfl, zin_of 26 rfl rfl, by decide +kernel, by decide +kernel, by decide +kernel⟩
set_option maxRecDepth 100000 in
theorem zmk_Company_isAt : zMk zm_Company_isAt := ⟨zin_of 232 rfl rfl, zin_of 26 rfl rfl, by decide +kernel, by decide +kernel, by decide +kernel⟩
set_option maxRecDepth 100000 in
theorem zmk_Company_isOnGuard : zMk zm_Company_isOnGuard := ⟨zin_of 333 rfl rfl, zin_of 26 rfl rfl, by decide +kernel, by decide +kernel, by decide +kernel⟩
set_option maxRecDepth 100000 in
theorem zmk_Company_isPlaced : zMk zm_Company_isPlaced := ⟨zin_of 544 rfl rfl, zin_of 26 rfl rfl, by decide +kernel, by decide +kernel, by decide +kernel⟩
set_option maxRecDepth 100000 in
theorem zmk_Company_place : zMk zm_Company_place := ⟨zin_of 1026 rfl rfl, zin_of 26 rfl rfl, by decide +kernel, by decide +kernel, by decide +kernel⟩
set_option maxRecDepth 100000 in
theorem zmk_Company_restNow : zMk zm_Company_restNow := ⟨zin_of 285 rfl rfl, zin_of 26 rfl rfl, by decide +kernel, by decide +kernel, by decide +kernel⟩
set_option maxRecDepth 100000 in
theorem zmk_Duties_act : zMk zm_Duties_act := ⟨zin_of 258 rfl rfl, zin_of 46 rfl rfl, by decide +kernel, by decide +kernel, by decide +kernel⟩
set_option maxRecDepth 100000 in
theorem zmk_Duties_assault : zMk zm_Duties_assault := ⟨zin_of 314 rfl rfl, zin_of 46 rfl rfl, by decide +kernel, by decide +kernel, by decide +kernel⟩
set_option maxRecDepth 100000 in
theorem zmk_Duties_attackOf : zMk zm_Duties_attackOf := ⟨zin_of 320 rfl rfl, zin_of 46 rfl rfl, by decide +kernel, by decide +kernel, by decide +kernel⟩
set_option maxRecDepth 100000 in
theorem zmk_Duties_barWays : zMk zm_Duties_barWays := ⟨zin_of 298 rfl rfl, zin_of 46 rfl rfl, by decide +kernel, by decide +kernel, by decide +kernel⟩
set_option maxRecDepth 100000 in
theorem zmk_Duties_canAssault : zMk zm_Duties_canAssault := ⟨zin_of 317 rfl rfl, zin_of 46 rfl rfl, by decide +kernel, by decide +kernel, by decide +kernel⟩
set_option maxRecDepth 100000 in
theorem zmk_Duties_canDig : zMk zm_Duties_canDig := ⟨zin_of 265 rfl rfl, zin_of 46 rfl rfl, by decide +kernel, by decide +kernel, by decide +kernel⟩
set_option maxRecDepth 100000 in
theorem zmk_Duties_defenceOf : zMk zm_Duties_defenceOf := ⟨zin_of 328 rfl rfl, zin_of 46 rfl rfl, by decide +kernel, by decide +kernel, by decide +kernel⟩
set_option maxRecDepth 100000 in
theorem zmk_Duties_dig : zMk zm_Duties_dig := ⟨zin_of 261 rfl rfl, zin_of 46 rfl rfl, by decide +kernel, by decide +kernel, by decide +kernel⟩
set_option maxRecDepth 100000 in
theorem zmk_Duties_goOn : zMk zm_Duties_goOn := ⟨zin_of 292 rfl rfl, zin_of 46 rfl rfl, by decide +kernel, by decide +kernel, by decide +kernel⟩
set_option maxRecDepth 100000 in
theorem zmk_Duties_makeGabions : zMk zm_Duties_makeGabions := ⟨zin_of 288 rfl rfl, zin_of 46 rfl rfl, by decide +kernel, by decide +kernel, by decide +kernel⟩
set_option maxRecDepth 100000 in
theorem zmk_Duties_measureWays : zMk zm_Duties_measureWays := ⟨zin_of 305 rfl rfl, zin_of 46 rfl rfl, by decide +kernel, by decide +kernel, by decide +kernel⟩
set_option maxRecDepth 100000 in
theorem zmk_Duties_mend : zMk zm_Duties_mend := ⟨zin_of 358 rfl rfl, zin_of 46 rfl rfl, by decide +kernel, by decide +kernel, by decide +kernel⟩
set_option maxRecDepth 100000 in
theorem zmk_Duties_payForDefeat : zMk zm_Duties_payForDefeat := ⟨zin_of 340 rfl rfl, zin_of 46 rfl rfl, by decide +kernel, by decide +kernel, by decide +kernel⟩
set_option maxRecDepth 100000 in
theorem zmk_Duties_putToFlight : zMk zm_Duties_putToFlight := ⟨zin_of 347 rfl rfl, zin_of 46 rfl rfl, by decide +kernel, by decide +kernel, by decide +kernel⟩
set_option maxRecDepth 100000 in
theorem zmk_Duties_quarterOf : zMk zm_Duties_quarterOf := ⟨zin_of 344 rfl rfl, zin_of 46 rfl rfl, by decide +kernel, by decide +kernel, by decide +kernel⟩
set_option maxRecDepth 100000 in
theorem zmk_Duties_refugeFrom : zMk zm_Duties_refugeFrom := ⟨zin_of 350 rfl rfl, zin_of 46 rfl rfl, by decide +kernel, by decide +kernel, by decide +kernel⟩
set_option maxRecDepth 100000 in
theorem zmk_Duties_stepTo : zMk zm_Duties_stepTo := ⟨zin_of 295 rfl rfl, zin_of 46 rfl rfl, by decide +kernel, by decide +kernel, by decide +kernel⟩
set_option maxRecDepth 100000 in
theorem zmk_Duties_toilNeeded : zMk zm_Duties_toilNeeded := ⟨zin_of 274 rfl rfl, zin_of 46 rfl rfl, by decide +kernel, by decide +kernel, by decide +kernel⟩
set_option maxRecDepth 100000 in
theorem zmk_Ground_new : zMk zm_Ground_new := ⟨zin_of 609 rfl rfl, zin_of 22 rfl rfl, by decide +kernel, by decide +kernel, by decide +kernel⟩
set_option maxRecDepth 100000 in
theorem zmk_Ground_alongLine : zMk zm_Ground_alongLine := ⟨zin_of 188 rfl rfl, zin_of 22 rfl rfl, by decide +kernel, by decide +kernel, by decide +kernel⟩
set_option maxRecDepth 100000 in
theorem zmk_Ground_belongsTo : zMk zm_Ground_belongsTo := ⟨zin_of 302 rfl rfl, zin_of 22 rfl rfl, by decide +kernel, by decide +kernel, by decide +kernel⟩
set_option maxRecDepth 100000 in
theorem zmk_Ground_bodyOf : zMk zm_Ground_bodyOf := ⟨zin_of 525 rfl rfl, zin_of 22 rfl rfl, by decide +kernel, by decide +kernel, by decide +kernel⟩
set_option maxRecDepth 100000 in
theorem zmk_Ground_bodyOverTop : zMk zm_Ground_bodyOverTop := ⟨zin_of 185 rfl rfl, zin_of 22 rfl rfl, by decide +kernel, by decide +kernel, by decide +kernel⟩
set_option maxRecDepth 100000 in
theorem zmk_Ground_countOf : zMk zm_Ground_countOf := ⟨zin_of 418 rfl rfl, zin_of 22 rfl rfl, by decide +kernel, by decide +kernel, by decide +kernel⟩
set_option maxRecDepth 100000 in
theorem zmk_Ground_digDitch : zMk zm_Ground_digDitch := ⟨zin_of 1053 rfl rfl, zin_of 22 rfl rfl, by decide +kernel, by decide +kernel, by decide +kernel⟩
set_option maxRecDepth 100000 in
theorem zmk_Ground_far : zMk zm_Ground_far := ⟨zin_of 195 rfl rfl, zin_of 22 rfl rfl, by decide +kernel, by decide +kernel, by decide +kernel⟩
set_option maxRecDepth 100000 in
theorem zmk_Ground_firmOf : zMk zm_Ground_firmOf := ⟨zin_of 516 rfl rfl, zin_of 22 rfl rfl, by decide +kernel, by decide +kernel, by decide +kernel⟩
set_option maxRecDepth 100000 in
theorem zmk_Ground_heightOf : zMk zm_Ground_heightOf := ⟨zin_of 510 rfl rfl, zin_of 22 rfl rfl, by decide +kernel, by decide +kernel, by decide +kernel⟩
set_option maxRecDepth 100000 in
theorem zmk_Ground_isNear : zMk zm_Ground_isNear := ⟨zin_of 492 rfl rfl, zin_of 22 rfl rfl, by decide +kernel, by decide +kernel, by decide +kernel⟩
set_option maxRecDepth 100000 in
theorem zmk_Ground_isOn : zMk zm_Ground_isOn := ⟨zin_of 170 rfl rfl, zin_of 22 rfl rfl, by decide +kernel, by decide +kernel, by decide +kernel⟩
set_option maxRecDepth 100000 in
theorem zmk_Ground_isRaked : zMk zm_Ground_isRaked := ⟨zin_of 226 rfl rfl, zin_of 22 rfl rfl, by decide +kernel, by decide +kernel, by decide +kernel⟩
set_option maxRecDepth 100000 in
theorem zmk_Ground_isSeen : zMk zm_Ground_isSeen := ⟨zin_of 166 rfl rfl, zin_of 22 rfl rfl, by decide +kernel, by decide +kernel, by decide +kernel⟩
set_option maxRecDepth 100000 in
theorem zmk_Ground_layOut : zMk zm_Ground_layOut := ⟨zin_of 1038 rfl rfl, zin_of 22 rfl rfl, by decide +kernel, by decide +kernel, by decide +kernel⟩
set_option maxRecDepth 100000 in
theorem zmk_Ground_next : zMk zm_Ground_next := ⟨zin_of 309 rfl rfl, zin_of 22 rfl rfl, by decide +kernel, by decide +kernel, by decide +kernel⟩
set_option maxRecDepth 100000 in
theorem zmk_Ground_openGate : zMk zm_Ground_openGate := ⟨zin_of 1058 rfl rfl, zin_of 22 rfl rfl, by decide +kernel, by decide +kernel, by decide +kernel⟩
set_option maxRecDepth 100000 in
theorem zmk_Ground_raiseFort : zMk zm_Ground_raiseFort := ⟨zin_of 1049 rfl rfl, zin_of 22 rfl rfl, by decide +kernel, by decide +kernel, by decide +kernel⟩
set_option maxRecDepth 100000 in
theorem zmk_Ground_shape : zMk zm_Ground_shape := ⟨zin_of 362 rfl rfl, zin_of 22 rfl rfl, by decide +kernel, by decide +kernel, by decide +kernel⟩
set_option maxRecDepth 100000 in
theorem zmk_Ground_soilBy : zMk zm_Ground_soilBy := ⟨zin_of 1044 rfl rfl, zin_of 22 rfl rfl, by decide +kernel, by decide +kernel, by decide +kernel⟩
set_option maxRecDepth 100000 in
theorem zmk_Ground_soilOf : zMk zm_Ground_soilOf := ⟨zin_of 383 rfl rfl, zin_of 22 rfl rfl, by decide +kernel, by decide +kernel, by decide +kernel⟩
set_option maxRecDepth 100000 in
theorem zmk_Ground_toilOf : zMk zm_Ground_toilOf := ⟨zin_of 520 rfl rfl, zin_of 22 rfl rfl, by decide +kernel, by decide +kernel, by decide +kernel⟩
set_option maxRecDepth 100000 in
theorem zmk_Ground_topOf : zMk zm_Ground_topOf := ⟨zin_of 180 rfl rfl, zin_of 22 rfl rfl, by decide +kernel, by decide +kernel, by decide +kernel⟩
set_option maxRecDepth 100000 in
theorem zmk_Ground_touches : zMk zm_Ground_touches := ⟨zin_of 270 rfl rfl, zin_of 22 rfl rfl, by decide +kernel, by decide +kernel, by decide +kernel⟩
set_option maxRecDepth 100000 in
theorem zmk_Ground_touchesWork : zMk zm_Ground_touchesWork := ⟨zin_of 487 rfl rfl, zin_of 22 rfl rfl, by decide +kernel, by decide +kernel, by decide +kernel⟩
set_option maxRecDepth 100000 in
theorem zmk_Ground_workOf : zMk zm_Ground_workOf := ⟨zin_of 222 rfl rfl, zin_of 22 rfl rfl, by decide +kernel, by decide +kernel, by decide +kernel⟩
set_option maxRecDepth 100000 in
theorem zmk_Gun_new : zMk zm_Gun_new := ⟨zin_of 786 rfl rfl, zin_of 25 rfl rfl, by decide +kernel, by decide +kernel, by decide +kernel⟩
set_option maxRecDepth 100000 in
theorem zmk_Gun_isPlaced : zMk zm_Gun_isPlaced := ⟨zin_of 151 rfl rfl, zin_of 25 rfl rfl, by decide +kernel, by decide +kernel, by decide +kernel⟩
set_option maxRecDepth 100000 in
theorem zmk_Gun_isReadyOf : zMk zm_Gun_isReadyOf := ⟨zin_of 281 rfl rfl, zin_of 25 rfl rfl, by decide +kernel, by decide +kernel, by decide +kernel⟩
set_option maxRecDepth 100000 in
theorem zmk_Gun_place : zMk zm_Gun_place := ⟨zin_of 1022 rfl rfl, zin_of 25 rfl rfl, by decide +kernel, by decide +kernel, by decide +kernel⟩
set_option maxRecDepth 100000 in
theorem zmk_Gunnery_bestTarget : zMk zm_Gunnery_bestTarget := ⟨zin_of 1357 rfl rfl, zin_of 44 rfl rfl, by decide +kernel, by decide +kernel, by decide +kernel⟩
set_option maxRecDepth 100000 in
theorem zmk_Gunnery_canReach : zMk zm_Gunnery_canReach := ⟨zin_of 154 rfl rfl, zin_of 44 rfl rfl, by decide +kernel, by decide +kernel, by decide +kernel⟩
set_option maxRecDepth 100000 in
theorem zmk_Gunnery_fire : zMk zm_Gunnery_fire := ⟨zin_of 144 rfl rfl, zin_of 44 rfl rfl, by decide +kernel, by decide +kernel, by decide +kernel⟩
set_option maxRecDepth 100000 in
theorem zmk_Gunnery_gunsSeeing : zMk zm_Gunnery_gunsSeeing := ⟨zin_of 277 rfl rfl, zin_of 44 rfl rfl, by decide +kernel, by decide +kernel, by decide +kernel⟩
set_option maxRecDepth 100000 in
theorem zmk_Gunnery_lossBy : zMk zm_Gunnery_lossBy := ⟨zin_of 218 rfl rfl, zin_of 44 rfl rfl, by decide +kernel, by decide +kernel, by decide +kernel⟩
set_option maxRecDepth 100000 in
theorem zmk_Gunnery_pointsOf : zMk zm_Gunnery_pointsOf := ⟨zin_of 1360 rfl rfl, zin_of 44 rfl rfl, by decide +kernel, by decide +kernel, by decide +kernel⟩
set_option maxRecDepth 100000 in
theorem zmk_Gunnery_shotsOf : zMk zm_Gunnery_shotsOf := ⟨zin_of 147 rfl rfl, zin_of 44 rfl rfl, by decide +kernel, by decide +kernel, by decide +kernel⟩
set_option maxRecDepth 100000 in
theorem zmk_Gunnery_strike : zMk zm_Gunnery_strike := ⟨zin_of 206 rfl rfl, zin_of 44 rfl rfl, by decide +kernel, by decide +kernel, by decide +kernel⟩
set_option maxRecDepth 100000 in
theorem zmk_Midnight_bringSupply : zMk zm_Midnight_bringSupply := ⟨zin_of 414 rfl rfl, zin_of 47 rfl rfl, by decide +kernel, by decide +kernel, by decide +kernel⟩
set_option maxRecDepth 100000 in
theorem zmk_Midnight_come : zMk zm_Midnight_come := ⟨zin_of 394 rfl rfl, zin_of 47 rfl rfl, by decide +kernel, by decide +kernel, by decide +kernel⟩
set_option maxRecDepth 100000 in
theorem zmk_Midnight_comeNearer : zMk zm_Midnight_comeNearer := ⟨zin_of 438 rfl rfl, zin_of 47 rfl rfl, by decide +kernel, by decide +kernel, by decide +kernel⟩
set_option maxRecDepth 100000 in
theorem zmk_Midnight_desert : zMk zm_Midnight_desert := ⟨zin_of 410 rfl rfl, zin_of 47 rfl rfl, by decide +kernel, by decide +kernel, by decide +kernel⟩
set_option maxRecDepth 100000 in
theorem zmk_Midnight_eat : zMk zm_Midnight_eat := ⟨zin_of 397 rfl rfl, zin_of 47 rfl rfl, by decide +kernel, by decide +kernel, by decide +kernel⟩
set_option maxRecDepth 100000 in
theorem zmk_Midnight_fallSick : zMk zm_Midnight_fallSick := ⟨zin_of 406 rfl rfl, zin_of 47 rfl rfl, by decide +kernel, by decide +kernel, by decide +kernel⟩
set_option maxRecDepth 100000 in
theorem zmk_Midnight_guardsOf : zMk zm_Midnight_guardsOf := ⟨zin_of 421 rfl rfl, zin_of 47 rfl rfl, by decide +kernel, by decide +kernel, by decide +kernel⟩
set_option maxRecDepth 100000 in
theorem zmk_Mine_new : zMk zm_Mine_new := ⟨zin_of 876 rfl rfl, zin_of 27 rfl rfl, by decide +kernel, by decide +kernel, by decide +kernel⟩
set_option maxRecDepth 100000 in
theorem zmk_Mine_goOn : zMk zm_Mine_goOn := ⟨zin_of 387 rfl rfl, zin_of 27 rfl rfl, by decide +kernel, by decide +kernel, by decide +kernel⟩
set_option maxRecDepth 100000 in
theorem zmk_Mine_head : zMk zm_Mine_head := ⟨zin_of 378 rfl rfl, zin_of 27 rfl rfl, by decide +kernel, by decide +kernel, by decide +kernel⟩
set_option maxRecDepth 100000 in
theorem zmk_Mine_isBegun : zMk zm_Mine_isBegun := ⟨zin_of 369 rfl rfl, zin_of 27 rfl rfl, by decide +kernel, by decide +kernel, by decide +kernel⟩
set_option maxRecDepth 100000 in
theorem zmk_Mine_isWhole : zMk zm_Mine_isWhole := ⟨zin_of 566 rfl rfl, zin_of 27 rfl rfl, by decide +kernel, by decide +kernel, by decide +kernel⟩
set_option maxRecDepth 100000 in
theorem zmk_Mine_mouth : zMk zm_Mine_mouth := ⟨zin_of 373 rfl rfl, zin_of 27 rfl rfl, by decide +kernel, by decide +kernel, by decide +kernel⟩
set_option maxRecDepth 100000 in
theorem zmk_Mine_place : zMk zm_Mine_place := ⟨zin_of 1408 rfl rfl, zin_of 27 rfl rfl, by decide +kernel, by decide +kernel, by decide +kernel⟩
set_option maxRecDepth 100000 in
theorem zmk_Mining_advance : zMk zm_Mining_advance := ⟨zin_of 365 rfl rfl, zin_of 45 rfl rfl, by decide +kernel, by decide +kernel, by decide +kernel⟩
set_option maxRecDepth 100000 in
theorem zmk_Mining_blowUp : zMk zm_Mining_blowUp := ⟨zin_of 1428 rfl rfl, zin_of 45 rfl rfl, by decide +kernel, by decide +kernel, by decide +kernel⟩
set_option maxRecDepth 100000 in
theorem zmk_Mining_comesNear : zMk zm_Mining_comesNear := ⟨zin_of 1439 rfl rfl, zin_of 45 rfl rfl, by decide +kernel, by decide +kernel, by decide +kernel⟩
set_option maxRecDepth 100000 in
theorem zmk_Mining_crushOthers : zMk zm_Mining_crushOthers := ⟨zin_of 1436 rfl rfl, zin_of 45 rfl rfl, by decide +kernel, by decide +kernel, by decide +kernel⟩
set_option maxRecDepth 100000 in
theorem zmk_Mining_isHeard : zMk zm_Mining_isHeard := ⟨zin_of 561 rfl rfl, zin_of 45 rfl rfl, by decide +kernel, by decide +kernel, by decide +kernel⟩
set_option maxRecDepth 100000 in
theorem zmk_Mining_isMouth : zMk zm_Mining_isMouth := ⟨zin_of 1399 rfl rfl, zin_of 45 rfl rfl, by decide +kernel, by decide +kernel, by decide +kernel⟩
set_option maxRecDepth 100000 in
theorem zmk_Mining_reachOf : zMk zm_Mining_reachOf := ⟨zin_of 1431 rfl rfl, zin_of 45 rfl rfl, by decide +kernel, by decide +kernel, by decide +kernel⟩
set_option maxRecDepth 100000 in
theorem zmk_Mining_shake : zMk zm_Mining_shake := ⟨zin_of 1443 rfl rfl, zin_of 45 rfl rfl, by decide +kernel, by decide +kernel, by decide +kernel⟩
set_option maxRecDepth 100000 in
theorem zmk_Mining_sink : zMk zm_Mining_sink := ⟨zin_of 1450 rfl rfl, zin_of 45 rfl rfl, by decide +kernel, by decide +kernel, by decide +kernel⟩
set_option maxRecDepth 100000 in
theorem zmk_Post_new : zMk zm_Post_new := ⟨zin_of 752 rfl rfl, zin_of 24 rfl rfl, by decide +kernel, by decide +kernel, by decide +kernel⟩
set_option maxRecDepth 100000 in
theorem zmk_Post_comeThrough : zMk zm_Post_comeThrough := ⟨zin_of 431 rfl rfl, zin_of 24 rfl rfl, by decide +kernel, by decide +kernel, by decide +kernel⟩
set_option maxRecDepth 100000 in
theorem zmk_Post_loseDay : zMk zm_Post_loseDay := ⟨zin_of 435 rfl rfl, zin_of 24 rfl rfl, by decide +kernel, by decide +kernel, by decide +kernel⟩
set_option maxRecDepth 100000 in
theorem zmk_Post_swim : zMk zm_Post_swim := ⟨zin_of 426 rfl rfl, zin_of 24 rfl rfl, by decide +kernel, by decide +kernel, by decide +kernel⟩
set_option maxRecDepth 100000 in
theorem zmk_Side_new : zMk zm_Side_new := ⟨zin_of 690 rfl rfl, zin_of 23 rfl rfl, by decide +kernel, by decide +kernel, by decide +kernel⟩
set_option maxRecDepth 100000 in
theorem zmk_Side_changeMorale : zMk zm_Side_changeMorale := ⟨zin_of 215 rfl rfl, zin_of 23 rfl rfl, by decide +kernel, by decide +kernel, by decide +kernel⟩
set_option maxRecDepth 100000 in
theorem zmk_Side_spend : zMk zm_Side_spend := ⟨zin_of 203 rfl rfl, zin_of 23 rfl rfl, by decide +kernel, by decide +kernel, by decide +kernel⟩
set_option maxRecDepth 100000 in
theorem zmk_Side_tell : zMk zm_Side_tell := ⟨zin_of 1030 rfl rfl, zin_of 23 rfl rfl, by decide +kernel, by decide +kernel, by decide +kernel⟩
set_option maxRecDepth 100000 in
theorem zmk_Siege_new : zMk zm_Siege_new := ⟨zin_of 604 rfl rfl, zin_of 21 rfl rfl, by decide +kernel, by decide +kernel, by decide +kernel⟩
set_option maxRecDepth 100000 in
theorem zmk_Siege_areMenSound : zMk zm_Siege_areMenSound := ⟨zin_of 579 rfl rfl, zin_of 21 rfl rfl, by decide +kernel, by decide +kernel, by decide +kernel⟩
set_option maxRecDepth 100000 in
theorem zmk_Siege_askWhetherOver : zMk zm_Siege_askWhetherOver := ⟨zin_of 241 rfl rfl, zin_of 21 rfl rfl, by decide +kernel, by decide +kernel, by decide +kernel⟩
set_option maxRecDepth 100000 in
theorem zmk_Siege_batter : zMk zm_Siege_batter := ⟨zin_of 210 rfl rfl, zin_of 21 rfl rfl, by decide +kernel, by decide +kernel, by decide +kernel⟩
set_option maxRecDepth 100000 in
theorem zmk_Siege_beginMine : zMk zm_Siege_beginMine := ⟨zin_of 1404 rfl rfl, zin_of 21 rfl rfl, by decide +kernel, by decide +kernel, by decide +kernel⟩
set_option maxRecDepth 100000 in
theorem zmk_Siege_companiesOf : zMk zm_Siege_companiesOf := ⟨zin_of 255 rfl rfl, zin_of 21 rfl rfl, by decide +kernel, by decide +kernel, by decide +kernel⟩
set_option maxRecDepth 100000 in
theorem zmk_Siege_companyAt : zMk zm_Siege_companyAt := ⟨zin_of 1334 rfl rfl, zin_of 21 rfl rfl, by decide +kernel, by decide +kernel, by decide +kernel⟩
set_option maxRecDepth 100000 in
theorem zmk_Siege_countFight : zMk zm_Siege_countFight := ⟨zin_of 337 rfl rfl, zin_of 21 rfl rfl, by decide +kernel, by decide +kernel, by decide +kernel⟩
set_option maxRecDepth 100000 in
theorem zmk_Siege_depth : zMk zm_Siege_depth := ⟨zin_of 473 rfl rfl, zin_of 21 rfl rfl, by decide +kernel, by decide +kernel, by decide +kernel⟩
set_option maxRecDepth 100000 in
theorem zmk_Siege_end : zMk zm_Siege_end := ⟨zin_of 251 rfl rfl, zin_of 21 rfl rfl, by decide +kernel, by decide +kernel, by decide +kernel⟩
set_option maxRecDepth 100000 in
theorem zmk_Siege_forceOf : zMk zm_Siege_forceOf := ⟨zin_of 324 rfl rfl, zin_of 21 rfl rfl, by decide +kernel, by decide +kernel, by decide +kernel⟩
set_option maxRecDepth 100000 in
theorem zmk_Siege_freshCompanyAt : zMk zm_Siege_freshCompanyAt := ⟨zin_of 1384 rfl rfl, zin_of 21 rfl rfl, by decide +kernel, by decide +kernel, by decide +kernel⟩
set_option maxRecDepth 100000 in
theorem zmk_Siege_gunAt : zMk zm_Siege_gunAt := ⟨zin_of 1353 rfl rfl, zin_of 21 rfl rfl, by decide +kernel, by decide +kernel, by decide +kernel⟩
set_option maxRecDepth 100000 in
theorem zmk_Siege_homeOf : zMk zm_Siege_homeOf := ⟨zin_of 354 rfl rfl, zin_of 21 rfl rfl, by decide +kernel, by decide +kernel, by decide +kernel⟩
set_option maxRecDepth 100000 in
theorem zmk_Siege_hourOfDay : zMk zm_Siege_hourOfDay := ⟨zin_of 391 rfl rfl, zin_of 21 rfl rfl, by decide +kernel, by decide +kernel, by decide +kernel⟩
set_option maxRecDepth 100000 in
theorem zmk_Siege_isAllSound : zMk zm_Siege_isAllSound := ⟨zin_of 570 rfl rfl, zin_of 21 rfl rfl, by decide +kernel, by decide +kernel, by decide +kernel⟩
set_option maxRecDepth 100000 in
theorem zmk_Siege_isGroundSound : zMk zm_Siege_isGroundSound := ⟨zin_of 583 rfl rfl, zin_of 21 rfl rfl, by decide +kernel, by decide +kernel, by decide +kernel⟩
set_option maxRecDepth 100000 in
theorem zmk_Siege_isHeldBy : zMk zm_Siege_isHeldBy := ⟨zin_of 245 rfl rfl, zin_of 21 rfl rfl, by decide +kernel, by decide +kernel, by decide +kernel⟩
set_option maxRecDepth 100000 in
theorem zmk_Siege_isNight : zMk zm_Siege_isNight := ⟨zin_of 162 rfl rfl, zin_of 21 rfl rfl, by decide +kernel, by decide +kernel, by decide +kernel⟩
set_option maxRecDepth 100000 in
theorem zmk_Siege_isSideSound : zMk zm_Siege_isSideSound := ⟨zin_of 574 rfl rfl, zin_of 21 rfl rfl, by decide +kernel, by decide +kernel, by decide +kernel⟩
set_option maxRecDepth 100000 in
theorem zmk_Siege_letHourGo : zMk zm_Siege_letHourGo := ⟨zin_of 141 rfl rfl, zin_of 21 rfl rfl, by decide +kernel, by decide +kernel, by decide +kernel⟩
set_option maxRecDepth 100000 in
theorem zmk_Siege_menAt : zMk zm_Siege_menAt := ⟨zin_of 530 rfl rfl, zin_of 21 rfl rfl, by decide +kernel, by decide +kernel, by decide +kernel⟩
set_option maxRecDepth 100000 in
theorem zmk_Siege_menOf : zMk zm_Siege_menOf := ⟨zin_of 402 rfl rfl, zin_of 21 rfl rfl, by decide +kernel, by decide +kernel, by decide +kernel⟩
set_option maxRecDepth 100000 in
theorem zmk_Siege_mineAt : zMk zm_Siege_mineAt := ⟨zin_of 1416 rfl rfl, zin_of 21 rfl rfl, by decide +kernel, by decide +kernel, by decide +kernel⟩
set_option maxRecDepth 100000 in
theorem zmk_Siege_musterAll : zMk zm_Siege_musterAll := ⟨zin_of 1068 rfl rfl, zin_of 21 rfl rfl, by decide +kernel, by decide +kernel, by decide +kernel⟩
set_option maxRecDepth 100000 in
theorem zmk_Siege_of : zMk zm_Siege_of := ⟨zin_of 199 rfl rfl, zin_of 21 rfl rfl, by decide +kernel, by decide +kernel, by decide +kernel⟩
set_option maxRecDepth 100000 in
theorem zmk_Siege_placeCompany : zMk zm_Siege_placeCompany := ⟨zin_of 1074 rfl rfl, zin_of 21 rfl rfl, by decide +kernel, by decide +kernel, by decide +kernel⟩
set_option maxRecDepth 100000 in
theorem zmk_Siege_placeGun : zMk zm_Siege_placeGun := ⟨zin_of 1078 rfl rfl, zin_of 21 rfl rfl, by decide +kernel, by decide +kernel, by decide +kernel⟩
set_option maxRecDepth 100000 in
theorem zmk_Siege_readyGunsOf : zMk zm_Siege_readyGunsOf := ⟨zin_of 459 rfl rfl, zin_of 21 rfl rfl, by decide +kernel, by decide +kernel, by decide +kernel⟩
set_option maxRecDepth 100000 in
theorem zmk_Siege_sightFar : zMk zm_Siege_sightFar := ⟨zin_of 158 rfl rfl, zin_of 21 rfl rfl, by decide +kernel, by decide +kernel, by decide +kernel⟩
set_option maxRecDepth 100000 in
theorem zmk_Siege_standsAtBreach : zMk zm_Siege_standsAtBreach := ⟨zin_of 483 rfl rfl, zin_of 21 rfl rfl, by decide +kernel, by decide +kernel, by decide +kernel⟩
set_option maxRecDepth 100000 in
theorem zmk_Siege_standsIn : zMk zm_Siege_standsIn := ⟨zin_of 477 rfl rfl, zin_of 21 rfl rfl, by decide +kernel, by decide +kernel, by decide +kernel⟩
set_option maxRecDepth 100000 in
theorem zmk_Siege_startOver : zMk zm_Siege_startOver := ⟨zin_of 1018 rfl rfl, zin_of 21 rfl rfl, by decide +kernel, by decide +kernel, by decide +kernel⟩
set_option maxRecDepth 100000 in
theorem zmk_Siege_takeMen : zMk zm_Siege_takeMen := ⟨zin_of 236 rfl rfl, zin_of 21 rfl rfl, by decide +kernel, by decide +kernel, by decide +kernel⟩
set_option maxRecDepth 100000 in
theorem zmk_Siege_tellTown : zMk zm_Siege_tellTown := ⟨zin_of 1034 rfl rfl, zin_of 21 rfl rfl, by decide +kernel, by decide +kernel, by decide +kernel⟩
set_option maxRecDepth 100000 in
theorem zmk_L_below : zMk zm_L_below := ⟨zin_of 587 rfl rfl, zin_of 19 rfl rfl, by decide +kernel, by decide +kernel, by decide +kernel⟩
set_option maxRecDepth 100000 in
theorem zmk_L_cell : zMk zm_L_cell := ⟨zin_of 591 rfl rfl, zin_of 19 rfl rfl, by decide +kernel, by decide +kernel, by decide +kernel⟩
set_option maxRecDepth 100000 in
theorem zmk_L_count : zMk zm_L_count := ⟨zin_of 1461 rfl rfl, zin_of 19 rfl rfl, by decide +kernel, by decide +kernel, by decide +kernel⟩
set_option maxRecDepth 100000 in
theorem zmk_L_isDone : zMk zm_L_isDone := ⟨zin_of 1325 rfl rfl, zin_of 19 rfl rfl, by decide +kernel, by decide +kernel, by decide +kernel⟩
set_option maxRecDepth 100000 in
theorem zmk_L_isRefused : zMk zm_L_isRefused := ⟨zin_of 1469 rfl rfl, zin_of 19 rfl rfl, by decide +kernel, by decide +kernel, by decide +kernel⟩
set_option maxRecDepth 100000 in
theorem zmk_L_isSo : zMk zm_L_isSo := ⟨zin_of 1472 rfl rfl, zin_of 19 rfl rfl, by decide +kernel, by decide +kernel, by decide +kernel⟩
set_option maxRecDepth 100000 in
theorem zmk_L_siege : zMk zm_L_siege := ⟨zin_of 595 rfl rfl, zin_of 19 rfl rfl, by decide +kernel, by decide +kernel, by decide +kernel⟩
set_option maxRecDepth 100000 in
theorem zmk_L_size : zMk zm_L_size := ⟨zin_of 1086 rfl rfl, zin_of 19 rfl rfl, by decide +kernel, by decide +kernel, by decide +kernel⟩
set_option maxRecDepth 100000 in
theorem zmk_Math_abs : zMk zm_Math_abs := ⟨zin_of 173 rfl rfl, zin_of 41 rfl rfl, by decide +kernel, by decide +kernel, by decide +kernel⟩
set_option maxRecDepth 100000 in
theorem zmk_Math_floorDiv : zMk zm_Math_floorDiv := ⟨zin_of 191 rfl rfl, zin_of 41 rfl rfl, by decide +kernel, by decide +kernel, by decide +kernel⟩
set_option maxRecDepth 100000 in
theorem zmk_Math_max : zMk zm_Math_max := ⟨zin_of 176 rfl rfl, zin_of 41 rfl rfl, by decide +kernel, by decide +kernel, by decide +kernel⟩
set_option maxRecDepth 100000 in
theorem zmk_Math_min : zMk zm_Math_min := ⟨zin_of 1228 rfl rfl, zin_of 41 rfl rfl, by decide +kernel, by decide +kernel, by decide +kernel⟩
set_option maxRecDepth 100000 in
theorem zmk_all : ∀ q ∈ zProg, zmF q ≠ 12 → zMk q := by
  intro q hq h12
  unfold zProg at hq
  rcases List.mem_cons.mp hq with rfl | hq
  · exact zmk_S_new
  rcases List.mem_cons.mp hq with rfl | hq
  · exact zmk_S_aim
  rcases List.mem_cons.mp hq with rfl | hq
  · exact zmk_S_begin
  rcases List.mem_cons.mp hq with rfl | hq
  · exact zmk_S_blow
  rcases List.mem_cons.mp hq with rfl | hq
  · exact zmk_S_charge
  rcases List.mem_cons.mp hq with rfl | hq
  · exact zmk_S_companyFact
  rcases List.mem_cons.mp hq with rfl | hq
  · exact zmk_S_digest
  rcases List.mem_cons.mp hq with rfl | hq
  · exact zmk_S_gunFact
  rcases List.mem_cons.mp hq with rfl | hq
  · exact zmk_S_haul
  rcases List.mem_cons.mp hq with rfl | hq
  · exact zmk_S_isNoGunWork
  rcases List.mem_cons.mp hq with rfl | hq
  · exact zmk_S_isSide
  rcases List.mem_cons.mp hq with rfl | hq
  · exact zmk_S_isSound
  rcases List.mem_cons.mp hq with rfl | hq
  · exact zmk_S_lay
  rcases List.mem_cons.mp hq with rfl | hq
  · exact zmk_S_letter
  rcases List.mem_cons.mp hq with rfl | hq
  · exact zmk_S_mine
  rcases List.mem_cons.mp hq with rfl | hq
  · exact zmk_S_mineFact
  rcases List.mem_cons.mp hq with rfl | hq
  · exact zmk_S_muster
  rcases List.mem_cons.mp hq with rfl | hq
  · exact zmk_S_nextDrawn
  rcases List.mem_cons.mp hq with rfl | hq
  · exact zmk_S_ofCompany
  rcases List.mem_cons.mp hq with rfl | hq
  · exact zmk_S_ofGun
  rcases List.mem_cons.mp hq with rfl | hq
  · exact zmk_S_ofMine
  rcases List.mem_cons.mp hq with rfl | hq
  · exact zmk_S_ofSide
  rcases List.mem_cons.mp hq with rfl | hq
  · exact zmk_S_ofSiege
  rcases List.mem_cons.mp hq with rfl | hq
  · exact zmk_S_ofSquare
  rcases List.mem_cons.mp hq with rfl | hq
  · exact zmk_S_order
  rcases List.mem_cons.mp hq with rfl | hq
  · exact zmk_S_pass
  rcases List.mem_cons.mp hq with rfl | hq
  · exact zmk_S_right
  rcases List.mem_cons.mp hq with rfl | hq
  · exact zmk_S_sees
  rcases List.mem_cons.mp hq with rfl | hq
  · exact zmk_S_sideFact
  rcases List.mem_cons.mp hq with rfl | hq
  · exact zmk_S_siegeFact
  rcases List.mem_cons.mp hq with rfl | hq
  · exact zmk_S_squareFact
  rcases List.mem_cons.mp hq with rfl | hq
  · exact zmk_S_target
  rcases List.mem_cons.mp hq with rfl | hq
  · exact zmk_Company_new
  rcases List.mem_cons.mp hq with rfl | hq
  · exact zmk_Company_isAt
  rcases List.mem_cons.mp hq with rfl | hq
  · exact zmk_Company_isOnGuard
  rcases List.mem_cons.mp hq with rfl | hq
  · exact zmk_Company_isPlaced
  rcases List.mem_cons.mp hq with rfl | hq
  · exact zmk_Company_place
  rcases List.mem_cons.mp hq with rfl | hq
  · exact zmk_Company_restNow
  rcases List.mem_cons.mp hq with rfl | hq
  · exact zmk_Duties_act
  rcases List.mem_cons.mp hq with rfl | hq
  · exact zmk_Duties_assault
  rcases List.mem_cons.mp hq with rfl | hq
  · exact zmk_Duties_attackOf
  rcases List.mem_cons.mp hq with rfl | hq
  · exact zmk_Duties_barWays
  rcases List.mem_cons.mp hq with rfl | hq
  · exact zmk_Duties_canAssault
  rcases List.mem_cons.mp hq with rfl | hq
  · exact zmk_Duties_canDig
  rcases List.mem_cons.mp hq with rfl | hq
  · exact zmk_Duties_defenceOf
  rcases List.mem_cons.mp hq with rfl | hq
  · exact zmk_Duties_dig
  rcases List.mem_cons.mp hq with rfl | hq
  · exact zmk_Duties_goOn
  rcases List.mem_cons.mp hq with rfl | hq
  · exact zmk_Duties_makeGabions
  rcases List.mem_cons.mp hq with rfl | hq
  · exact zmk_Duties_measureWays
  rcases List.mem_cons.mp hq with rfl | hq
  · exact zmk_Duties_mend
  rcases List.mem_cons.mp hq with rfl | hq
  · exact zmk_Duties_payForDefeat
  rcases List.mem_cons.mp hq with rfl | hq
  · exact zmk_Duties_putToFlight
  rcases List.mem_cons.mp hq with rfl | hq
  · exact zmk_Duties_quarterOf
  rcases List.mem_cons.mp hq with rfl | hq
  · exact zmk_Duties_refugeFrom
  rcases List.mem_cons.mp hq with rfl | hq
  · exact zmk_Duties_stepTo
  rcases List.mem_cons.mp hq with rfl | hq
  · exact zmk_Duties_toilNeeded
  rcases List.mem_cons.mp hq with rfl | hq
  · exact zmk_Ground_new
  rcases List.mem_cons.mp hq with rfl | hq
  · exact zmk_Ground_alongLine
  rcases List.mem_cons.mp hq with rfl | hq
  · exact zmk_Ground_belongsTo
  rcases List.mem_cons.mp hq with rfl | hq
  · exact zmk_Ground_bodyOf
  rcases List.mem_cons.mp hq with rfl | hq
  · exact zmk_Ground_bodyOverTop
  rcases List.mem_cons.mp hq with rfl | hq
  · exact zmk_Ground_countOf
  rcases List.mem_cons.mp hq with rfl | hq
  · exact zmk_Ground_digDitch
  rcases List.mem_cons.mp hq with rfl | hq
  · exact zmk_Ground_far
  rcases List.mem_cons.mp hq with rfl | hq
  · exact zmk_Ground_firmOf
  rcases List.mem_cons.mp hq with rfl | hq
  · exact zmk_Ground_heightOf
  rcases List.mem_cons.mp hq with rfl | hq
  · exact zmk_Ground_isNear
  rcases List.mem_cons.mp hq with rfl | hq
  · exact zmk_Ground_isOn
  rcases List.mem_cons.mp hq with rfl | hq
  · exact zmk_Ground_isRaked
  rcases List.mem_cons.mp hq with rfl | hq
  · exact zmk_Ground_isSeen
  rcases List.mem_cons.mp hq with rfl | hq
  · exact zmk_Ground_layOut
  rcases List.mem_cons.mp hq with rfl | hq
  · exact zmk_Ground_next
  rcases List.mem_cons.mp hq with rfl | hq
  · exact zmk_Ground_openGate
  rcases List.mem_cons.mp hq with rfl | hq
  · exact zmk_Ground_raiseFort
  rcases List.mem_cons.mp hq with rfl | hq
  · exact zmk_Ground_shape
  rcases List.mem_cons.mp hq with rfl | hq
  · exact zmk_Ground_soilBy
  rcases List.mem_cons.mp hq with rfl | hq
  · exact zmk_Ground_soilOf
  rcases List.mem_cons.mp hq with rfl | hq
  · exact zmk_Ground_toilOf
  rcases List.mem_cons.mp hq with rfl | hq
  · exact zmk_Ground_topOf
  rcases List.mem_cons.mp hq with rfl | hq
  · exact zmk_Ground_touches
  rcases List.mem_cons.mp hq with rfl | hq
  · exact zmk_Ground_touchesWork
  rcases List.mem_cons.mp hq with rfl | hq
  · exact zmk_Ground_workOf
  rcases List.mem_cons.mp hq with rfl | hq
  · exact zmk_Gun_new
  rcases List.mem_cons.mp hq with rfl | hq
  · exact zmk_Gun_isPlaced
  rcases List.mem_cons.mp hq with rfl | hq
  · exact zmk_Gun_isReadyOf
  rcases List.mem_cons.mp hq with rfl | hq
  · exact zmk_Gun_place
  rcases List.mem_cons.mp hq with rfl | hq
  · exact zmk_Gunnery_bestTarget
  rcases List.mem_cons.mp hq with rfl | hq
  · exact zmk_Gunnery_canReach
  rcases List.mem_cons.mp hq with rfl | hq
  · exact zmk_Gunnery_fire
  rcases List.mem_cons.mp hq with rfl | hq
  · exact zmk_Gunnery_gunsSeeing
  rcases List.mem_cons.mp hq with rfl | hq
  · exact zmk_Gunnery_lossBy
  rcases List.mem_cons.mp hq with rfl | hq
  · exact zmk_Gunnery_pointsOf
  rcases List.mem_cons.mp hq with rfl | hq
  · exact zmk_Gunnery_shotsOf
  rcases List.mem_cons.mp hq with rfl | hq
  · exact zmk_Gunnery_strike
  rcases List.mem_cons.mp hq with rfl | hq
  · exact zmk_Midnight_bringSupply
  rcases List.mem_cons.mp hq with rfl | hq
  · exact zmk_Midnight_come
  rcases List.mem_cons.mp hq with rfl | hq
  · exact zmk_Midnight_comeNearer
  rcases List.mem_cons.mp hq with rfl | hq
  · exact zmk_Midnight_desert
  rcases List.mem_cons.mp hq with rfl | hq
  · exact zmk_Midnight_eat
  rcases List.mem_cons.mp hq with rfl | hq
  · exact zmk_Midnight_fallSick
  rcases List.mem_cons.mp hq with rfl | hq
  · exact zmk_Midnight_guardsOf
  rcases List.mem_cons.mp hq with rfl | hq
  · exact zmk_Mine_new
  rcases List.mem_cons.mp hq with rfl | hq
  · exact zmk_Mine_goOn
  rcases List.mem_cons.mp hq with rfl | hq
  · exact zmk_Mine_head
  rcases List.mem_cons.mp hq with rfl | hq
  · exact zmk_Mine_isBegun
  rcases List.mem_cons.mp hq with rfl | hq
  · exact zmk_Mine_isWhole
  rcases List.mem_cons.mp hq with rfl | hq
  · exact zmk_Mine_mouth
  rcases List.mem_cons.mp hq with rfl | hq
  · exact zmk_Mine_place
  rcases List.mem_cons.mp hq with rfl | hq
  · exact zmk_Mining_advance
  rcases List.mem_cons.mp hq with rfl | hq
  · exact zmk_Mining_blowUp
  rcases List.mem_cons.mp hq with rfl | hq
  · exact zmk_Mining_comesNear
  rcases List.mem_cons.mp hq with rfl | hq
  · exact zmk_Mining_crushOthers
  rcases List.mem_cons.mp hq with rfl | hq
  · exact zmk_Mining_isHeard
  rcases List.mem_cons.mp hq with rfl | hq
  · exact zmk_Mining_isMouth
  rcases List.mem_cons.mp hq with rfl | hq
  · exact zmk_Mining_reachOf
  rcases List.mem_cons.mp hq with rfl | hq
  · exact zmk_Mining_shake
  rcases List.mem_cons.mp hq with rfl | hq
  · exact zmk_Mining_sink
  rcases List.mem_cons.mp hq with rfl | hq
  · exact zmk_Post_new
  rcases List.mem_cons.mp hq with rfl | hq
  · exact zmk_Post_comeThrough
  rcases List.mem_cons.mp hq with rfl | hq
  · exact zmk_Post_loseDay
  rcases List.mem_cons.mp hq with rfl | hq
  · exact zmk_Post_swim
  rcases List.mem_cons.mp hq with rfl | hq
  · exact zmk_Side_new
  rcases List.mem_cons.mp hq with rfl | hq
  · exact zmk_Side_changeMorale
  rcases List.mem_cons.mp hq with rfl | hq
  · exact zmk_Side_spend
  rcases List.mem_cons.mp hq with rfl | hq
  · exact zmk_Side_tell
  rcases List.mem_cons.mp hq with rfl | hq
  · exact zmk_Siege_new
  rcases List.mem_cons.mp hq with rfl | hq
  · exact zmk_Siege_areMenSound
  rcases List.mem_cons.mp hq with rfl | hq
  · exact zmk_Siege_askWhetherOver
  rcases List.mem_cons.mp hq with rfl | hq
  · exact zmk_Siege_batter
  rcases List.mem_cons.mp hq with rfl | hq
  · exact zmk_Siege_beginMine
  rcases List.mem_cons.mp hq with rfl | hq
  · exact zmk_Siege_companiesOf
  rcases List.mem_cons.mp hq with rfl | hq
  · exact zmk_Siege_companyAt
  rcases List.mem_cons.mp hq with rfl | hq
  · exact zmk_Siege_countFight
  rcases List.mem_cons.mp hq with rfl | hq
  · exact zmk_Siege_depth
  rcases List.mem_cons.mp hq with rfl | hq
  · exact zmk_Siege_end
  rcases List.mem_cons.mp hq with rfl | hq
  · exact zmk_Siege_forceOf
  rcases List.mem_cons.mp hq with rfl | hq
  · exact zmk_Siege_freshCompanyAt
  rcases List.mem_cons.mp hq with rfl | hq
  · exact zmk_Siege_gunAt
  rcases List.mem_cons.mp hq with rfl | hq
  · exact zmk_Siege_homeOf
  rcases List.mem_cons.mp hq with rfl | hq
  · exact zmk_Siege_hourOfDay
  rcases List.mem_cons.mp hq with rfl | hq
  · exact zmk_Siege_isAllSound
  rcases List.mem_cons.mp hq with rfl | hq
  · exact zmk_Siege_isGroundSound
  rcases List.mem_cons.mp hq with rfl | hq
  · exact zmk_Siege_isHeldBy
  rcases List.mem_cons.mp hq with rfl | hq
  · exact zmk_Siege_isNight
  rcases List.mem_cons.mp hq with rfl | hq
  · exact zmk_Siege_isSideSound
  rcases List.mem_cons.mp hq with rfl | hq
  · exact zmk_Siege_letHourGo
  rcases List.mem_cons.mp hq with rfl | hq
  · exact zmk_Siege_menAt
  rcases List.mem_cons.mp hq with rfl | hq
  · exact zmk_Siege_menOf
  rcases List.mem_cons.mp hq with rfl | hq
  · exact zmk_Siege_mineAt
  rcases List.mem_cons.mp hq with rfl | hq
  · exact zmk_Siege_musterAll
  rcases List.mem_cons.mp hq with rfl | hq
  · exact zmk_Siege_of
  rcases List.mem_cons.mp hq with rfl | hq
  · exact zmk_Siege_placeCompany
  rcases List.mem_cons.mp hq with rfl | hq
  · exact zmk_Siege_placeGun
  rcases List.mem_cons.mp hq with rfl | hq
  · exact zmk_Siege_readyGunsOf
  rcases List.mem_cons.mp hq with rfl | hq
  · exact zmk_Siege_sightFar
  rcases List.mem_cons.mp hq with rfl | hq
  · exact zmk_Siege_standsAtBreach
  rcases List.mem_cons.mp hq with rfl | hq
  · exact zmk_Siege_standsIn
  rcases List.mem_cons.mp hq with rfl | hq
  · exact zmk_Siege_startOver
  rcases List.mem_cons.mp hq with rfl | hq
  · exact zmk_Siege_takeMen
  rcases List.mem_cons.mp hq with rfl | hq
  · exact zmk_Siege_tellTown
  rcases List.mem_cons.mp hq with rfl | hq
  · exact zmk_L_below
  rcases List.mem_cons.mp hq with rfl | hq
  · exact zmk_L_cell
  rcases List.mem_cons.mp hq with rfl | hq
  · exact zmk_L_count
  rcases List.mem_cons.mp hq with rfl | hq
  · exact zmk_L_isDone
  rcases List.mem_cons.mp hq with rfl | hq
  · exact zmk_L_isRefused
  rcases List.mem_cons.mp hq with rfl | hq
  · exact zmk_L_isSo
  rcases List.mem_cons.mp hq with rfl | hq
  · exact absurd rfl h12
  rcases List.mem_cons.mp hq with rfl | hq
  · exact zmk_L_siege
  rcases List.mem_cons.mp hq with rfl | hq
  · exact zmk_L_size
  rcases List.mem_cons.mp hq with rfl | hq
  · exact zmk_Math_abs
  rcases List.mem_cons.mp hq with rfl | hq
  · exact zmk_Math_floorDiv
  rcases List.mem_cons.mp hq with rfl | hq
  · exact zmk_Math_max
  rcases List.mem_cons.mp hq with rfl | hq
  · exact zmk_Math_min
  cases hq
theorem zP_in (y : Nat) (h : zmC (zP y) ≠ []) : zP y ∈ zProg ∧ y < 173 := by
  unfold zP at h ⊢
  rcases Nat.lt_or_ge y zProg.length with q | q
  · refine ⟨?_, q⟩
    rw [List.getD_eq_getElem?_getD, List.getElem?_eq_getElem q]
    exact List.getElem_mem q
  · rw [List.getD_eq_getElem?_getD, List.getElem?_eq_none q] at h
    exact absurd rfl h
theorem zu_Main : ((List.range 2).all fun j => zmem (([1004, 1006] : List Nat).getD j 0) (u_lay "Siegelines" F_Main j)) = true := by decide +kernel
theorem zd_Main : ∀ j, j < 2 → parseFieldDescriptor (F_Main j).2.2.1 = some (zT_Main.getD j .int) ∧ zty1 (zT_Main.getD j .int) = true := by decide +kernel
theorem zn_Main : ∀ a, a < 2 → ∀ b, b < 2 → a ≠ b → (F_Main a).2.1 ≠ (F_Main b).2.1 := by decide +kernel
theorem zu_Siege : ((List.range 17).all fun j => zmem (([967, 969, 971, 973, 975, 977, 979, 981, 983, 985, 987, 989, 991, 993, 995, 997, 999] : List Nat).getD j 0) (u_lay "Siegelines$Siege" F_Siege j)) = true := by decide +kernel
theorem zd_Siege : ∀ j, j < 17 → parseFieldDescriptor (F_Siege j).2.2.1 = some (zT_Siege.getD j .int) ∧ zty1 (zT_Siege.getD j .int) = true := by decide +kernel
theorem zn_Siege : ∀ a, a < 17 → ∀ b, b < 17 → a ≠ b → (F_Siege a).2.1 ≠ (F_Siege b).2.1 := by decide +kernel
theorem zu_Ground : ((List.range 14).all fun j => zmem (([650, 652, 654, 656, 658, 660, 662, 664, 666, 668, 670, 672, 674, 676] : List Nat).getD j 0) (u_lay "Siegelines$Ground" F_Ground j)) = true := by decide +kernel
theorem zd_Ground : ∀ j, j < 14 → parseFieldDescriptor (F_Ground j).2.2.1 = some (zT_Ground.getD j .int) ∧ zty1 (zT_Ground.getD j .int) = true := by decide +kernel
theorem zn_Ground : ∀ a, a < 14 → ∀ b, b < 14 → a ≠ b → (F_Ground a).2.1 ≠ (F_Ground b).2.1 := by decide +kernel
theorem zu_Gun : ((List.range 7).all fun j => zmem (([811, 813, 815, 817, 819, 821, 823] : List Nat).getD j 0) (u_lay "Siegelines$Gun" F_Gun j)) = true := by decide +kernel
theorem zd_Gun : ∀ j, j < 7 → parseFieldDescriptor (F_Gun j).2.2.1 = some (zT_Gun.getD j .int) ∧ zty1 (zT_Gun.getD j .int) = true := by decide +kernel
theorem zn_Gun : ∀ a, a < 7 → ∀ b, b < 7 → a ≠ b → (F_Gun a).2.1 ≠ (F_Gun b).2.1 := by decide +kernel
theorem zu_Company : ((List.range 6).all fun j => zmem (([860, 862, 864, 866, 868, 870] : List Nat).getD j 0) (u_lay "Siegelines$Company" F_Company j)) = true := by decide +kernel
theorem zd_Company : ∀ j, j < 6 → parseFieldDescriptor (F_Company j).2.2.1 = some (zT_Company.getD j .int) ∧ zty1 (zT_Company.getD j .int) = true := by decide +kernel
theorem zn_Company : ∀ a, a < 6 → ∀ b, b < 6 → a ≠ b → (F_Company a).2.1 ≠ (F_Company b).2.1 := by decide +kernel
theorem zu_Mine : ((List.range 7).all fun j => zmem (([899, 901, 903, 905, 907, 909, 911] : List Nat).getD j 0) (u_lay "Siegelines$Mine" F_Mine j)) = true := by decide +kernel
theorem zd_Mine : ∀ j, j < 7 → parseFieldDescriptor (F_Mine j).2.2.1 = some (zT_Mine.getD j .int) ∧ zty1 (zT_Mine.getD j .int) = true := by decide +kernel
theorem zn_Mine : ∀ a, a < 7 → ∀ b, b < 7 → a ≠ b → (F_Mine a).2.1 ≠ (F_Mine b).2.1 := by decide +kernel
theorem zu_Side : ((List.range 11).all fun j => zmem (([726, 728, 730, 732, 734, 736, 738, 740, 742, 744, 746] : List Nat).getD j 0) (u_lay "Siegelines$Side" F_Side j)) = true := by decide +kernel
theorem zd_Side : ∀ j, j < 11 → parseFieldDescriptor (F_Side j).2.2.1 = some (zT_Side.getD j .int) ∧ zty1 (zT_Side.getD j .int) = true := by decide +kernel
theorem zn_Side : ∀ a, a < 11 → ∀ b, b < 11 → a ≠ b → (F_Side a).2.1 ≠ (F_Side b).2.1 := by decide +kernel
theorem zu_Post : ((List.range 7).all fun j => zmem (([768, 770, 772, 774, 776, 778, 780] : List Nat).getD j 0) (u_lay "Siegelines$Post" F_Post j)) = true := by decide +kernel
theorem zd_Post : ∀ j, j < 7 → parseFieldDescriptor (F_Post j).2.2.1 = some (zT_Post.getD j .int) ∧ zty1 (zT_Post.getD j .int) = true := by decide +kernel
theorem zn_Post : ∀ a, a < 7 → ∀ b, b < 7 → a ≠ b → (F_Post a).2.1 ≠ (F_Post b).2.1 := by decide +kernel
theorem zu_of {C : String} {T : u_T} {N : Nat} {l : List Nat} (h : ((List.range N).all fun j => zmem (l.getD j 0) (u_lay C T j)) = true) : ∀ w ∈ u_ws C T N, w ∈ zTb := by
  intro w hw
  obtain ⟨j, hj, rfl⟩ := List.mem_map.mp hw
  exact zmem_in (List.all_eq_true.mp h j hj)
set_option maxRecDepth 100000 in
theorem zCls_ok : zCls zCl zFt zTb := by
  intro k C T N hk
  match k, hk with
  | 0, hk => cases hk; exact ⟨by decide, rfl, zu_of zu_Main, zd_Main, zn_Main, zin_of 451 rfl rfl, zin_of 20 rfl rfl⟩
  | 1, hk => cases hk; exact ⟨by decide, rfl, zu_of zu_Siege, zd_Siege, zn_Siege, zin_of 250 rfl rfl, zin_of 21 rfl rfl⟩
  | 2, hk => cases hk; exact ⟨by decide, rfl, zu_of zu_Ground, zd_Ground, zn_Ground, zin_of 184 rfl rfl, zin_of 22 rfl rfl⟩
  | 3, hk => cases hk; exact ⟨by decide, rfl, zu_of zu_Gun, zd_Gun, zn_Gun, zin_of 783 rfl rfl, zin_of 25 rfl rfl⟩
  | 4, hk => cases hk; exact ⟨by decide, rfl, zu_of zu_Company, zd_Company, zn_Company, zin_of 826 rfl rfl, zin_of 26 rfl rfl⟩
  | 5, hk => cases hk; exact ⟨by decide, rfl, zu_of zu_Mine, zd_Mine, zn_Mine, zin_of 873 rfl rfl, zin_of 27 rfl rfl⟩
  | 6, hk => cases hk; exact ⟨by decide, rfl, zu_of zu_Side, zd_Side, zn_Side, zin_of 687 rfl rfl, zin_of 23 rfl rfl⟩
  | 7, hk => cases hk; exact ⟨by decide, rfl, zu_of zu_Post, zd_Post, zn_Post, zin_of 430 rfl rfl, zin_of 24 rfl rfl⟩
  | n + 8, hk => cases hk
set_option maxRecDepth 100000 in
theorem zh_L_isDone : ∀ x ∈ zmH zm_L_isDone, (x.2.2.2 = 86 ∨ x.2.2.2 = 43) ∧ Cond.classLink (zmN zm_L_isDone).cls x.2.2.2 (zEx x.2.2.2) ∈ zTb := by
  intro x hx
  simp only [zmH, zm_L_isDone, List.mem_cons, List.not_mem_nil, or_false] at hx
  rcases hx with rfl | rfl
  · exact ⟨by decide, zin_of 1326 rfl rfl⟩
  · exact ⟨by decide, zin_of 1087 rfl rfl⟩
set_option maxRecDepth 100000 in
theorem zh_L_isRefused : ∀ x ∈ zmH zm_L_isRefused, (x.2.2.2 = 86 ∨ x.2.2.2 = 43) ∧ Cond.classLink (zmN zm_L_isRefused).cls x.2.2.2 (zEx x.2.2.2) ∈ zTb := by
  intro x hx
  simp only [zmH, zm_L_isRefused, List.mem_cons, List.not_mem_nil, or_false] at hx
  rcases hx with rfl
  · exact ⟨by decide, zin_of 1326 rfl rfl⟩
set_option maxRecDepth 100000 in
theorem zh_L_size : ∀ x ∈ zmH zm_L_size, (x.2.2.2 = 86 ∨ x.2.2.2 = 43) ∧ Cond.classLink (zmN zm_L_size).cls x.2.2.2 (zEx x.2.2.2) ∈ zTb := by
  intro x hx
  simp only [zmH, zm_L_size, List.mem_cons, List.not_mem_nil, or_false] at hx
  rcases hx with rfl
  · exact ⟨by decide, zin_of 1087 rfl rfl⟩
end
section
/-! every instruction is as the tables say -/
set_option maxRecDepth 100000 in
theorem zok_all : ∀ y, ∀ q ∈ zmC (zP y), zok zCl zic zP y q.1 q.2 = true := by
  intro y q hq
  have hy := (zP_in y (fun e => by rw [e] at hq; cases hq)).2
  have go : ∀ a n, zAll a n = true → a ≤ y → y < a + n → zok zCl zic zP y q.1 q.2 = true := fun a n h h1 h2 => List.all_eq_true.mp (List.all_eq_true.mp h y (List.mem_range'_1.mpr ⟨h1, h2⟩)) q hq
  rcases Nat.lt_or_ge y 6 with h0 | h0
  · exact go 0 6 zk_0 (by omega) (by omega)
  rcases Nat.lt_or_ge y 7 with h1 | h1
  · exact go 6 1 zk_6 (by omega) (by omega)
  rcases Nat.lt_or_ge y 15 with h2 | h2
  · exact go 7 8 zk_7 (by omega) (by omega)
  rcases Nat.lt_or_ge y 25 with h3 | h3
  · exact go 15 10 zk_15 (by omega) (by omega)
  rcases Nat.lt_or_ge y 30 with h4 | h4
  · exact go 25 5 zk_25 (by omega) (by omega)
  rcases Nat.lt_or_ge y 39 with h5 | h5
  · exact go 30 9 zk_30 (by omega) (by omega)
  rcases Nat.lt_or_ge y 42 with h6 | h6
  · exact go 39 3 zk_39 (by omega) (by omega)
  rcases Nat.lt_or_ge y 46 with h7 | h7
  · exact go 42 4 zk_42 (by omega) (by omega)
  rcases Nat.lt_or_ge y 50 with h8 | h8
  · exact go 46 4 zk_46 (by omega) (by omega)
  rcases Nat.lt_or_ge y 56 with h9 | h9
  · exact go 50 6 zk_50 (by omega) (by omega)
  rcases Nat.lt_or_ge y 66 with h10 | h10
  · exact go 56 10 zk_56 (by omega) (by omega)
  rcases Nat.lt_or_ge y 70 with h11 | h11
  · exact go 66 4 zk_66 (by omega) (by omega)
  rcases Nat.lt_or_ge y 73 with h12 | h12
  · exact go 70 3 zk_70 (by omega) (by omega)
  rcases Nat.lt_or_ge y 81 with h13 | h13
  · exact go 73 8 zk_73 (by omega) (by omega)
  rcases Nat.lt_or_ge y 91 with h14 | h14
  · exact go 81 10 zk_81 (by omega) (by omega)
  rcases Nat.lt_or_ge y 95 with h15 | h15
  · exact go 91 4 zk_91 (by omega) (by omega)
  rcases Nat.lt_or_ge y 100 with h16 | h16
  · exact go 95 5 zk_95 (by omega) (by omega)
  rcases Nat.lt_or_ge y 109 with h17 | h17
  · exact go 100 9 zk_100 (by omega) (by omega)
  rcases Nat.lt_or_ge y 113 with h18 | h18
  · exact go 109 4 zk_109 (by omega) (by omega)
  rcases Nat.lt_or_ge y 120 with h19 | h19
  · exact go 113 7 zk_113 (by omega) (by omega)
  rcases Nat.lt_or_ge y 128 with h20 | h20
  · exact go 120 8 zk_120 (by omega) (by omega)
  rcases Nat.lt_or_ge y 136 with h21 | h21
  · exact go 128 8 zk_128 (by omega) (by omega)
  rcases Nat.lt_or_ge y 145 with h22 | h22
  · exact go 136 9 zk_136 (by omega) (by omega)
  rcases Nat.lt_or_ge y 149 with h23 | h23
  · exact go 145 4 zk_145 (by omega) (by omega)
  rcases Nat.lt_or_ge y 156 with h24 | h24
  · exact go 149 7 zk_149 (by omega) (by omega)
  rcases Nat.lt_or_ge y 163 with h25 | h25
  · exact go 156 7 zk_156 (by omega) (by omega)
  rcases Nat.lt_or_ge y 165 with h26 | h26
  · exact go 163 2 zk_163 (by omega) (by omega)
  rcases Nat.lt_or_ge y 166 with h27 | h27
  · have hy9 : y = 165 := by omega
    subst hy9
    have pc : ∀ (l : List (Nat × zI)) (n : Nat), q ∈ l → q ∈ l.take n ∨ q ∈ l.drop n := fun l n hq => List.mem_append.mp (by rw [List.take_append_drop]; exact hq)
    have hq0 : q ∈ (zmC (zP 165)).drop 0 := hq
    rcases pc _ 125 hq0 with h9 | hq1
    · exact List.all_eq_true.mp zk_165_0 q h9
    rw [List.drop_drop] at hq1
    rcases pc _ 125 hq1 with h9 | hq2
    · exact List.all_eq_true.mp zk_165_125 q h9
    rw [List.drop_drop] at hq2
    rcases pc _ 125 hq2 with h9 | hq3
    · exact List.all_eq_true.mp zk_165_250 q h9
    rw [List.drop_drop] at hq3
    rcases pc _ 125 hq3 with h9 | hq4
    · exact List.all_eq_true.mp zk_165_375 q h9
    rw [List.drop_drop] at hq4
    exact absurd (show q ∈ ([] : List (Nat × zI)) from hq4) List.not_mem_nil
  rcases Nat.lt_or_ge y 167 with h28 | h28
  · exact go 166 1 zk_166 (by omega) (by omega)
  exact go 167 6 zk_167 (by omega) (by omega)
end
section
/-! what the statement gives of the start (printed by program) -/
def zRa : List (List Int32) := [[0, 3, 1, 2], [2, 3, 4, 5], [1, 3, 4, 5, 6, 7], [1, 2, 3, 4, 5, 6], [2, 4, 5, 6, 7, 8]]
def zRl : List Nat := [4, 4, 6, 6, 6]
/-- what the cells hold that nobody writes: the statics' rows, the script -/
def zRO (L : Nat) (xs : Nat → Int32) : (Nat → Nat → Int32) × (Nat → Nat) := (fun p j => if p < 5 then (zRa.getD p []).getD j 0 else xs j, fun p => if p < 5 then zRl.getD p 0 else L)
theorem zfl {args : Array Value} {s : State} (h : (Jvm.Cond.and given_1 narrow_1).before args s = true) {w : Cond} (k : Nat) (e : (flatC (Jvm.Cond.and given_1 narrow_1))[k]? = some w) : w.before args s = true := flat_of_before _ h w (List.mem_of_getElem? e)
set_option maxRecDepth 100000 in
theorem zT_0 {args : Array Value} {s : State} {A : Nat → Prop} (L : Nat) (xs : Nat → Int32) (h : (Jvm.Cond.and given_1 narrow_1).before args s = true) (hA : ∀ a : Nat, a < s.heap.size → ¬ A a) : ∃ t : Nat, (Term.static "Siegelines" "BY_NUMBERS" "[I").eval args s none [] s = some (.ref t) ∧ va_T .int t ((zRO L xs).2 0) (fun j => .int ((zRO L xs).1 0 j)) A s s.heap :=
  va_Tof (N := 4) (by decide) (zfl h 7 rfl) (va_eqt (zfl h 8 rfl)) (fun j hj => match j, hj with
    | 0, _ => va_eqt (zfl h 9 rfl)
    | 1, _ => va_eqt (zfl h 10 rfl)
    | 2, _ => va_eqt (zfl h 11 rfl)
    | 3, _ => va_eqt (zfl h 12 rfl)
    | n + 4, h9 => absurd h9 (by omega)) hA
set_option maxRecDepth 100000 in
theorem zT_1 {args : Array Value} {s : State} {A : Nat → Prop} (L : Nat) (xs : Nat → Int32) (h : (Jvm.Cond.and given_1 narrow_1).before args s = true) (hA : ∀ a : Nat, a < s.heap.size → ¬ A a) : ∃ t : Nat, (Term.static "Siegelines" "SQUARE_FACTS" "[I").eval args s none [] s = some (.ref t) ∧ va_T .int t ((zRO L xs).2 1) (fun j => .int ((zRO L xs).1 1 j)) A s s.heap :=
  va_Tof (N := 4) (by decide) (zfl h 14 rfl) (va_eqt (zfl h 15 rfl)) (fun j hj => match j, hj with
    | 0, _ => va_eqt (zfl h 16 rfl)
    | 1, _ => va_eqt (zfl h 17 rfl)
    | 2, _ => va_eqt (zfl h 18 rfl)
    | 3, _ => va_eqt (zfl h 19 rfl)
    | n + 4, h9 => absurd h9 (by omega)) hA
set_option maxRecDepth 100000 in
theorem zT_2 {args : Array Value} {s : State} {A : Nat → Prop} (L : Nat) (xs : Nat → Int32) (h : (Jvm.Cond.and given_1 narrow_1).before args s = true) (hA : ∀ a : Nat, a < s.heap.size → ¬ A a) : ∃ t : Nat, (Term.static "Siegelines" "GUN_FACTS" "[I").eval args s none [] s = some (.ref t) ∧ va_T .int t ((zRO L xs).2 2) (fun j => .int ((zRO L xs).1 2 j)) A s s.heap :=
  va_Tof (N := 6) (by decide) (zfl h 21 rfl) (va_eqt (zfl h 22 rfl)) (fun j hj => match j, hj with
    | 0, _ => va_eqt (zfl h 23 rfl)
    | 1, _ => va_eqt (zfl h 24 rfl)
    | 2, _ => va_eqt (zfl h 25 rfl)
    | 3, _ => va_eqt (zfl h 26 rfl)
    | 4, _ => va_eqt (zfl h 27 rfl)
    | 5, _ => va_eqt (zfl h 28 rfl)
    | n + 6, h9 => absurd h9 (by omega)) hA
set_option maxRecDepth 100000 in
theorem zT_3 {args : Array Value} {s : State} {A : Nat → Prop} (L : Nat) (xs : Nat → Int32) (h : (Jvm.Cond.and given_1 narrow_1).before args s = true) (hA : ∀ a : Nat, a < s.heap.size → ¬ A a) : ∃ t : Nat, (Term.static "Siegelines" "COMPANY_FACTS" "[I").eval args s none [] s = some (.ref t) ∧ va_T .int t ((zRO L xs).2 3) (fun j => .int ((zRO L xs).1 3 j)) A s s.heap :=
  va_Tof (N := 6) (by decide) (zfl h 30 rfl) (va_eqt (zfl h 31 rfl)) (fun j hj => match j, hj with
    | 0, _ => va_eqt (zfl h 32 rfl)
    | 1, _ => va_eqt (zfl h 33 rfl)
    | 2, _ => va_eqt (zfl h 34 rfl)
    | 3, _ => va_eqt (zfl h 35 rfl)
    | 4, _ => va_eqt (zfl h 36 rfl)
    | 5, _ => va_eqt (zfl h 37 rfl)
    | n + 6, h9 => absurd h9 (by omega)) hA
set_option maxRecDepth 100000 in
theorem zT_4 {args : Array Value} {s : State} {A : Nat → Prop} (L : Nat) (xs : Nat → Int32) (h : (Jvm.Cond.and given_1 narrow_1).before args s = true) (hA : ∀ a : Nat, a < s.heap.size → ¬ A a) : ∃ t : Nat, (Term.static "Siegelines" "MINE_FACTS" "[I").eval args s none [] s = some (.ref t) ∧ va_T .int t ((zRO L xs).2 4) (fun j => .int ((zRO L xs).1 4 j)) A s s.heap :=
  va_Tof (N := 6) (by decide) (zfl h 39 rfl) (va_eqt (zfl h 40 rfl)) (fun j hj => match j, hj with
    | 0, _ => va_eqt (zfl h 41 rfl)
    | 1, _ => va_eqt (zfl h 42 rfl)
    | 2, _ => va_eqt (zfl h 43 rfl)
    | 3, _ => va_eqt (zfl h 44 rfl)
    | 4, _ => va_eqt (zfl h 45 rfl)
    | 5, _ => va_eqt (zfl h 46 rfl)
    | n + 6, h9 => absurd h9 (by omega)) hA
set_option maxRecDepth 100000 in
theorem zStr_ok {args : Array Value} {s : State} (hts : ∀ w ∈ lw_tbl, w.before args s = true) (h : (Jvm.Cond.and given_1 narrow_1).before args s = true) : ∀ x ∈ zStr, ∃ sa, vk_R x.1 x.2.1 x.2.2 sa s := by
  have go : ∀ (k : Nat) (t : String), Cond.stringRef "Siegelines" k t ∈ lw_tbl → (Cond.exactly (.string "Siegelines" k) "java/lang/String").before args s = true → ∃ sa, vk_R "Siegelines" k t sa s := fun k t h1 h2 => by
    obtain ⟨a, c, cell, kk, e, -⟩ := Cond.exactly_spec h2
    exact ⟨a, vk_R.of (hts _ h1) e⟩
  have key : ∀ (k : Nat) (t : String), ("Siegelines", k, t) ∈ zStr → Cond.stringRef "Siegelines" k t ∈ lw_tbl := fun k t hx => by
    obtain ⟨w, hw, e⟩ := List.mem_filterMap.mp hx
    cases w <;> first | (cases e; done) | (cases e; exact hw)
  have all : ∀ x ∈ zStr, x.1 = "Siegelines" ∧ (Cond.exactly (.string "Siegelines" x.2.1) "java/lang/String").before args s = true := by
    have e : zStr = [("Siegelines", 312, "no such hours"), ("Siegelines", 317, "no siege goes on, or no time is left"), ("Siegelines", 335, "no such side or question"), ("Siegelines", 322, "no such question"), ("Siegelines", 21, "no such map"), ("Siegelines", 32, "not the setting"), ("Siegelines", 141, "no such seed"), ("Siegelines", 146, "not the setting, no map, or not empty"), ("Siegelines", 158, "not the setting, or a side without companies"), ("Siegelines", 367, "no such row"), ("Siegelines", 566, ".#~Tc=/u"), ("Siegelines", 134, "no such company"), ("Siegelines", 177, "no such company or square"), ("Siegelines", 184, "no such order"), ("Siegelines", 189, "no siege goes on, or the company is gone"), ("Siegelines", 126, "no such gun"), ("Siegelines", 201, "no such gun or square"), ("Siegelines", 203, "no siege goes on"), ("Siegelines", 217, "no siege goes on, or the gun can not go there"), ("Siegelines", 224, "no company to haul it"), ("Siegelines", 232, "no siege goes on, or the gun is ready"), ("Siegelines", 234, "no company to set it right"), ("Siegelines", 242, "no such direction"), ("Siegelines", 253, "no siege goes on, or no mine can be begun"), ("Siegelines", 262, "no such mine"), ("Siegelines", 264, "no such charge"), ("Siegelines", 273, "no siege goes on, no such mine any more, or no powder"), ("Siegelines", 278, "no siege goes on, or the mine can not be blown"), ("Siegelines", 299, "no siege goes on, no night, or no further letter"), ("Siegelines", 58, "no such square")] := rfl
    intro x hx
    rw [e] at hx
    rcases List.mem_cons.mp hx with rfl | hx
    · exact ⟨rfl, zfl h 115 rfl⟩
    rcases List.mem_cons.mp hx with rfl | hx
    · exact ⟨rfl, zfl h 132 rfl⟩
    rcases List.mem_cons.mp hx with rfl | hx
    · exact ⟨rfl, zfl h 172 rfl⟩
    rcases List.mem_cons.mp hx with rfl | hx
    · exact ⟨rfl, zfl h 200 rfl⟩
    rcases List.mem_cons.mp hx with rfl | hx
    · exact ⟨rfl, zfl h 220 rfl⟩
    rcases List.mem_cons.mp hx with rfl | hx
    · exact ⟨rfl, zfl h 235 rfl⟩
    rcases List.mem_cons.mp hx with rfl | hx
    · exact ⟨rfl, zfl h 254 rfl⟩
    rcases List.mem_cons.mp hx with rfl | hx
    · exact ⟨rfl, zfl h 270 rfl⟩
    rcases List.mem_cons.mp hx with rfl | hx
    · exact ⟨rfl, zfl h 311 rfl⟩
    rcases List.mem_cons.mp hx with rfl | hx
    · exact ⟨rfl, zfl h 359 rfl⟩
    rcases List.mem_cons.mp hx with rfl | hx
    · exact ⟨rfl, zfl h 374 rfl⟩
    rcases List.mem_cons.mp hx with rfl | hx
    · exact ⟨rfl, zfl h 386 rfl⟩
    rcases List.mem_cons.mp hx with rfl | hx
    · exact ⟨rfl, zfl h 405 rfl⟩
    rcases List.mem_cons.mp hx with rfl | hx
    · exact ⟨rfl, zfl h 434 rfl⟩
    rcases List.mem_cons.mp hx with rfl | hx
    · exact ⟨rfl, zfl h 451 rfl⟩
    rcases List.mem_cons.mp hx with rfl | hx
    · exact ⟨rfl, zfl h 495 rfl⟩
    rcases List.mem_cons.mp hx with rfl | hx
    · exact ⟨rfl, zfl h 510 rfl⟩
    rcases List.mem_cons.mp hx with rfl | hx
    · exact ⟨rfl, zfl h 535 rfl⟩
    rcases List.mem_cons.mp hx with rfl | hx
    · exact ⟨rfl, zfl h 555 rfl⟩
    rcases List.mem_cons.mp hx with rfl | hx
    · exact ⟨rfl, zfl h 604 rfl⟩
    rcases List.mem_cons.mp hx with rfl | hx
    · exact ⟨rfl, zfl h 629 rfl⟩
    rcases List.mem_cons.mp hx with rfl | hx
    · exact ⟨rfl, zfl h 670 rfl⟩
    rcases List.mem_cons.mp hx with rfl | hx
    · exact ⟨rfl, zfl h 700 rfl⟩
    rcases List.mem_cons.mp hx with rfl | hx
    · exact ⟨rfl, zfl h 721 rfl⟩
    rcases List.mem_cons.mp hx with rfl | hx
    · exact ⟨rfl, zfl h 766 rfl⟩
    rcases List.mem_cons.mp hx with rfl | hx
    · exact ⟨rfl, zfl h 782 rfl⟩
    rcases List.mem_cons.mp hx with rfl | hx
    · exact ⟨rfl, zfl h 800 rfl⟩
    rcases List.mem_cons.mp hx with rfl | hx
    · exact ⟨rfl, zfl h 857 rfl⟩
    rcases List.mem_cons.mp hx with rfl | hx
    · exact ⟨rfl, zfl h 907 rfl⟩
    rcases List.mem_cons.mp hx with rfl | hx
    · exact ⟨rfl, zfl h 959 rfl⟩
    cases hx
  intro x hx
  obtain ⟨a, k, t⟩ := x
  obtain ⟨rfl, h2⟩ := all _ hx
  exact go k t (key k t hx) h2
set_option maxRecDepth 100000 in
theorem zNcs_ok {args : Array Value} {s : State} (h : (Jvm.Cond.and given_1 narrow_1).before args s = true) : ∀ x ∈ zNcs, va_Nc x.1 x.2 s := by
  intro x hx
  unfold zNcs at hx
  rcases List.mem_cons.mp hx with rfl | hx
  · exact va_Nc.of (zfl h 61 rfl)
  rcases List.mem_cons.mp hx with rfl | hx
  · exact va_Nc.of (zfl h 73 rfl)
  rcases List.mem_cons.mp hx with rfl | hx
  · exact va_Nc.of (zfl h 60 rfl)
  rcases List.mem_cons.mp hx with rfl | hx
  · exact va_Nc.of (zfl h 72 rfl)
  cases hx
theorem zTb_sub {args : Array Value} {s : State} (hts : ∀ w ∈ lw_tbl, w.before args s = true) : ∀ w ∈ zTb, w.before args s = true := fun w hw => hts w (List.mem_filter.mp hw).1
set_option maxRecDepth 100000 in
theorem zZq_ok {args : Array Value} {s : State} {A : Nat → Prop} (hts : ∀ w ∈ lw_tbl, w.before args s = true) (h : (Jvm.Cond.and given_1 narrow_1).before args s = true) (hA : ∀ a : Nat, a < s.heap.size → ¬ A a) : vx_Zq Bundle.tN "UNASSIGNED_STACK" Bundle.steD A s s.heap ∧ vx_Zq Bundle.tN "SUPPRESSED_SENTINEL" Bundle.listD A s s.heap :=
  ⟨vx_Zqof (hts _ (List.mem_of_getElem? (i := 81) rfl)) (hts _ (List.mem_of_getElem? (i := 28) rfl)) (zfl h 4 rfl) hA, vx_Zqof (hts _ (List.mem_of_getElem? (i := 83) rfl)) (hts _ (List.mem_of_getElem? (i := 28) rfl)) (zfl h 5 rfl) hA⟩
set_option maxRecDepth 100000 in
theorem zZ_0 {args : Array Value} {s : State} {A : Nat → Prop} {t : Nat} (hts : ∀ w ∈ lw_tbl, w.before args s = true) (hA : ∀ a : Nat, a < s.heap.size → ¬ A a) (hv : (Term.static "Siegelines" "BY_NUMBERS" "[I").eval args s none [] s = some (.ref t)) : va_Z "Siegelines" (zSN 0) "[I" (.ref t) A s s.heap := va_Zof (hts _ (List.mem_of_getElem? (i := 311) rfl)) (hts _ (List.mem_of_getElem? (i := 20) rfl)) hv hA
set_option maxRecDepth 100000 in
theorem zZ_1 {args : Array Value} {s : State} {A : Nat → Prop} {t : Nat} (hts : ∀ w ∈ lw_tbl, w.before args s = true) (hA : ∀ a : Nat, a < s.heap.size → ¬ A a) (hv : (Term.static "Siegelines" "SQUARE_FACTS" "[I").eval args s none [] s = some (.ref t)) : va_Z "Siegelines" (zSN 1) "[I" (.ref t) A s s.heap := va_Zof (hts _ (List.mem_of_getElem? (i := 502) rfl)) (hts _ (List.mem_of_getElem? (i := 20) rfl)) hv hA
set_option maxRecDepth 100000 in
theorem zZ_2 {args : Array Value} {s : State} {A : Nat → Prop} {t : Nat} (hts : ∀ w ∈ lw_tbl, w.before args s = true) (hA : ∀ a : Nat, a < s.heap.size → ¬ A a) (hv : (Term.static "Siegelines" "GUN_FACTS" "[I").eval args s none [] s = some (.ref t)) : va_Z "Siegelines" (zSN 2) "[I" (.ref t) A s s.heap := va_Zof (hts _ (List.mem_of_getElem? (i := 532) rfl)) (hts _ (List.mem_of_getElem? (i := 20) rfl)) hv hA
set_option maxRecDepth 100000 in
theorem zZ_3 {args : Array Value} {s : State} {A : Nat → Prop} {t : Nat} (hts : ∀ w ∈ lw_tbl, w.before args s = true) (hA : ∀ a : Nat, a < s.heap.size → ¬ A a) (hv : (Term.static "Siegelines" "COMPANY_FACTS" "[I").eval args s none [] s = some (.ref t)) : va_Z "Siegelines" (zSN 3) "[I" (.ref t) A s s.heap := va_Zof (hts _ (List.mem_of_getElem? (i := 540) rfl)) (hts _ (List.mem_of_getElem? (i := 20) rfl)) hv hA
set_option maxRecDepth 100000 in
theorem zZ_4 {args : Array Value} {s : State} {A : Nat → Prop} {t : Nat} (hts : ∀ w ∈ lw_tbl, w.before args s = true) (hA : ∀ a : Nat, a < s.heap.size → ¬ A a) (hv : (Term.static "Siegelines" "MINE_FACTS" "[I").eval args s none [] s = some (.ref t)) : va_Z "Siegelines" (zSN 4) "[I" (.ref t) A s s.heap := va_Zof (hts _ (List.mem_of_getElem? (i := 551) rfl)) (hts _ (List.mem_of_getElem? (i := 20) rfl)) hv hA
set_option maxRecDepth 100000 in
theorem zAO_ok {args : Array Value} {s : State} (hts : ∀ w ∈ lw_tbl, w.before args s = true) : ∀ k, k = 103 ∨ k = 104 ∨ k = 105 → va_AO (zAC k) s := by
  intro k hk
  rcases hk with rfl | rfl | rfl
  · exact va_AO.of (hts (Cond.arrayOver (.object "Siegelines$Gun")) (List.mem_of_getElem? (i := 681) rfl))
  · exact va_AO.of (hts (Cond.arrayOver (.object "Siegelines$Company")) (List.mem_of_getElem? (i := 683) rfl))
  · exact va_AO.of (hts (Cond.arrayOver (.object "Siegelines$Mine")) (List.mem_of_getElem? (i := 685) rfl))
def zArI : Nat := 679
end
section
/-! the law's entry: one run of the interpreter is enough -/
def zs0 (L : Nat) (xs : Nat → Int32) : zS := ([(200, 4), (200, 4), (200, 6), (200, 6), (200, 6), (200, L)], (zRO L xs).1, fun _ _ => none, fun _ _ => 0, 0, 0)
theorem zKn_ok {args : Array Value} {s : State} (hts : ∀ w ∈ zTb, w.before args s = true) (hcl : zCls zCl zFt zTb) : ∃ (dC : Nat → ClassId) (dI : Nat → Nat → Nat), ∀ (k : Nat) (q : vw_C), zCl[k]? = some q → u_Kn s q.1 q.2.1 q.2.2 (dC k) (dI k) := by
  have h : ∀ k : Nat, ∃ r : ClassId × (Nat → Nat), ∀ q : vw_C, zCl[k]? = some q → u_Kn s q.1 q.2.1 q.2.2 r.1 r.2 := by
    intro k
    cases hk : zCl[k]? with
    | none => exact ⟨(0, fun _ => 0), fun q hq => by cases hq⟩
    | some q0 =>
      obtain ⟨C, T, N⟩ := q0
      obtain ⟨a1, a2, a3, a4, a5, a6, a7⟩ := hcl k C T N hk
      obtain ⟨cC, iS, hK⟩ := u_known (C := C) (T := T) (N := N) hts a3 (hts _ a6)
      exact ⟨(cC, iS), fun q hq => by cases hq; exact hK⟩
  exact ⟨fun k => (Classical.choose (h k)).1, fun k => (Classical.choose (h k)).2, fun k q hq => Classical.choose_spec (h k) q hq⟩
theorem zAr_ok {args : Array Value} {s : State} (hts : ∀ w ∈ lw_tbl, w.before args s = true) (ha : Cond.arrayClass .int ∈ lw_tbl) (hao : ∀ k, k = 103 ∨ k = 104 ∨ k = 105 → va_AO (zAC k) s) : ∃ cA : Nat → ClassId, ∀ (k : Nat) (q : ClassId × FieldType), (zTys cA)[k]? = some q → ArrOfT s q.1 q.2 ∧ va_RA s q.1 q.2 := by
  obtain ⟨c0, k0, comp0, a1, a2, a3⟩ := Cond.arrayClass_spec (hts _ ha)
  obtain ⟨p3, c3, k3, b1, -, b2, b3, b4⟩ := Cond.arrayOver_spec (va_AO.use (A := #[]) (hao 103 (Or.inl rfl)))
  obtain ⟨p4, c4, k4, d1, -, d2, d3, d4⟩ := Cond.arrayOver_spec (va_AO.use (A := #[]) (hao 104 (Or.inr (Or.inl rfl))))
  obtain ⟨p5, c5, k5, e1, -, e2, e3, e4⟩ := Cond.arrayOver_spec (va_AO.use (A := #[]) (hao 105 (Or.inr (Or.inr rfl))))
  refine ⟨fun k => if k = 0 then c0 else if k = 3 then c3 else if k = 4 then c4 else c5, fun k q hq => ?_⟩
  match k, hq with
  | 0, hq => cases hq; exact ⟨fun n z => ⟨fun k h => (by cases h), k0, a2, comp0, a3⟩, a1⟩
  | 1, hq => cases hq; exact ⟨fun n z => ⟨fun k h => (by cases h), k3, b2, p3, b3⟩, k3, p3, b2, b3, b1, b4⟩
  | 2, hq => cases hq; exact ⟨fun n z => ⟨fun k h => (by cases h), k4, d2, p4, d3⟩, k4, p4, d2, d3, d1, d4⟩
  | 3, hq => cases hq; exact ⟨fun n z => ⟨fun k h => (by cases h), k5, e2, p5, e3⟩, k5, p5, e2, e3, e1, e4⟩
  | n + 4, hq => cases hq
theorem zQ_end {below : List Frame} {a : Array Value} {s t : State} {Y : zY} {A : Nat → Prop} {L0 : List Nat} {σ' : zS} {mc ms : Nat} (hA : ∀ q, A q → s.heap.size ≤ q) (hc : mc ≤ room_1.cells) (hs : ms ≤ room_1.slots) (h : vx_MQ below (zQc Y A L0 (.inl (some (.int 1))) σ') (zXc Y A L0 (.inl (some (.int 1))) σ') a s mc ms A t) : ∃ o, t.status = .running ∧ Ended t below o ∧ o = .returned (some (.int 1)) ∧ Framed s o t [] room_1.cells room_1.slots := by
  obtain ⟨o, h1, h2, h3⟩ := h
  rcases h3 with ⟨⟨⟨Lf, v, hv, ho, -⟩, -⟩, Ls, ⟨⟨w, hw⟩, hW, hsm⟩, hf⟩ | ⟨q, -, E, ce, Ls, ⟨⟨Lf, k, hk, -⟩, -⟩, -⟩
  · cases hv
    refine ⟨o, h1, h2, ho, ⟨w, hw⟩, hW, hsm.weaken (fun y hy hlt => absurd hlt (Nat.not_lt.mpr (hA _ (hf y hy)))) hc hs⟩
  · cases hk
set_option maxRecDepth 100000 in
set_option maxHeartbeats 4000000 in
theorem zlaw {p : Program} {e : Env} {s : State} {m : MethodId} {below : List Frame} {meth : Method} {c : Code} (l : Launch) (hl : l.stackTraces = false) {b L : Nat} {xs : Nat → Int32} (hx : p.tables.exec = Jvm.exec) (hb : c.code = code) (hr : meth.sig.returnType = ret) (hml : c.maxLocals = 14) (hown : s.vm.findClass "SiegelinesLaw" = some m.cls) (hts : ∀ w ∈ lw_tbl, w.before #[Value.ref b] s = true) (hX : va_X b L xs s s.heap) (hbl : b < s.heap.size) (hlocks : meth.locks = false) (hgv : (Jvm.Cond.and given_1 narrow_1).before #[Value.ref b] s = true) (hcd : (Jvm.Cond.code x code 14 ret).before #[Value.ref b] s = true) (hex : c.exceptionTable.toList = [])
    (hcls : zCls zCl zFt zTb) (ro : Nat → Int32 → zS → Option (zO × zS)) (Hy : ∀ Y : zY, Y.1.2.1 = zCl → Y.1.2.2.1 = zFt → zHyp l Y zP zic ro) {n : Nat} {σ' : zS} (hz : zx zP zFt ro n 166 0 (zfst [.ref 5] 14) [] (zs0 L xs) = some (.inl (some (.int 1)), σ')) (hc : znc σ' ≤ room_1.cells) (hs : zns σ' ≤ room_1.slots) : W p l e room_1 s m #[Value.ref b] below meth c s.heap [] 0 0 (fun t => ∃ o, t.status = .running ∧ Ended t below o ∧ o = .returned (some (.int 1)) ∧ Framed s o t [] room_1.cells room_1.slots) (entryFrame m ([Value.ref b] : List Value).toArray 14) := by
  have hAn : ∀ a : Nat, a < s.heap.size → ¬ (fun q : Nat => s.heap.size ≤ q) a := fun a h => Nat.not_le.mpr h
  obtain ⟨t0, e0, T0⟩ := zT_0 L xs hgv hAn
  obtain ⟨t1, e1, T1⟩ := zT_1 L xs hgv hAn
  obtain ⟨t2, e2, T2⟩ := zT_2 L xs hgv hAn
  obtain ⟨t3, e3, T3⟩ := zT_3 L xs hgv hAn
  obtain ⟨t4, e4, T4⟩ := zT_4 L xs hgv hAn
  have hao := zAO_ok hts
  obtain ⟨dC, dI, hKn⟩ := zKn_ok (zTb_sub hts) hcls
  obtain ⟨cA, hAr⟩ := zAr_ok hts (List.mem_of_getElem? (i := zArI) rfl) hao
  have hZq := zZq_ok hts hgv hAn
  have hvm : zVm (((dC, dI), zCl, zFt, cA), (6, zRO L xs)) [t0, t1, t2, t3, t4, b] (fun q : Nat => s.heap.size ≤ q) s s.heap := by
    refine ⟨fun q hq => ?_, fun k hk => ?_, hZq.1, hZq.2, zStr_ok hts hgv, zNcs_ok hgv, fun w hw => va_Nw.of (zWk_tabs (List.mem_filter.mp hw).2) (hts w (List.mem_filter.mp hw).1), hao, hKn, hAr⟩
    · match q, hq with
      | 0, _ => exact T0
      | 1, _ => exact T1
      | 2, _ => exact T2
      | 3, _ => exact T3
      | 4, _ => exact T4
      | 5, _ =>
        obtain ⟨scr, h1, h2, h3, h4, h5⟩ := hX
        exact ⟨scr, h1, h2, h3, Nat.le_of_eq h4.symm, by rw [h4]; rfl, fun j hj => h5 j hj, hAn b hbl⟩
      | n + 6, h9 => exact absurd h9 (by show ¬ n + 6 < 6; omega)
    · match k, hk with
      | 0, _ => exact zZ_0 hts hAn e0
      | 1, _ => exact zZ_1 hts hAn e1
      | 2, _ => exact zZ_2 hts hAn e2
      | 3, _ => exact zZ_3 hts hAn e3
      | 4, _ => exact zZ_4 hts hAn e4
      | n + 5, h9 => exact absurd h9 (by omega)
  have hzw : zw zFt cA 6 [t0, t1, t2, t3, t4, b] (zs0 L xs) = [] := rfl
  have k := zx_sim (Hy (((dC, dI), zCl, zFt, cA), (6, zRO L xs)) rfl rfl) n ((p, l, e, room_1, s, m, #[Value.ref b], below, meth, c, vx_MQ below (zQc (((dC, dI), zCl, zFt, cA), (6, zRO L xs)) (fun q : Nat => s.heap.size ≤ q) [t0, t1, t2, t3, t4, b] (.inl (some (.int 1))) σ') (zXc (((dC, dI), zCl, zFt, cA), (6, zRO L xs)) (fun q : Nat => s.heap.size ≤ q) [t0, t1, t2, t3, t4, b] (.inl (some (.int 1))) σ') #[Value.ref b] s room_1.cells room_1.slots (fun q : Nat => s.heap.size ≤ q)), ((dC, dI), zCl, zFt, cA), (6, 14, 0, 0, (fun q : Nat => s.heap.size ≤ q), [t0, t1, t2, t3, t4, b], zRO L xs), (code, "SiegelinesLaw", zws zm_L_law)) 166 0 (zfst [.ref 5] 14) [] (zs0 L xs) (.inl (some (.int 1))) σ'
    ⟨hx, hb, hml, hown, (fun w hw => by
      rcases List.mem_cons.mp hw with h | h
      · rw [h]; exact hcd
      · exact zTb_sub hts w h), ⟨hKn, hAr⟩, (fun q hq => hq), hcls.mono (fun w hw => List.mem_cons_of_mem _ hw), hvm.1⟩
    ⟨rfl, rfl, rfl, rfl, hlocks, hr, (fun q => absurd q (by decide)), hex, rfl, rfl, hl⟩ rfl rfl ⟨Nat.le_refl 6, Nat.le_refl 6, hvm⟩ rfl hc hs hz
    [t0, t1, t2, t3, t4, b] _ s.heap []
    ⟨List.prefix_refl _, rfl, Nat.le_refl 6, (fun a j q h9 => nomatch h9), ⟨Nat.le_refl 6, fun q k n9 hq => by
      match q, hq with
      | 0, hq => cases hq; exact ⟨fun _ => (by decide : 0 < 6), fun _ => rfl⟩
      | 1, hq => cases hq; exact ⟨fun _ => (by decide : 1 < 6), fun _ => rfl⟩
      | 2, hq => cases hq; exact ⟨fun _ => (by decide : 2 < 6), fun _ => rfl⟩
      | 3, hq => cases hq; exact ⟨fun _ => (by decide : 3 < 6), fun _ => rfl⟩
      | 4, hq => cases hq; exact ⟨fun _ => (by decide : 4 < 6), fun _ => rfl⟩
      | 5, hq => cases hq; exact ⟨fun _ => (by decide : 5 < 6), fun _ => rfl⟩
      | n + 6, hq => cases hq⟩, (fun k q hq => by rw [hzw] at hq; cases hq), ⟨(fun i j q1 q2 h1 h2 _ => by rw [hzw] at h1; cases h1), (fun k q hq => by rw [hzw] at hq; cases hq)⟩, va_S.rf, (fun q hq => ⟨rfl, by
      match q, hq with
      | 0, _ => rfl
      | 1, _ => rfl
      | 2, _ => rfl
      | 3, _ => rfl
      | 4, _ => rfl
      | 5, _ => rfl
      | n + 6, h9 => exact absurd h9 (by show ¬ n + 6 < 6; omega)⟩), Nat.le_refl 0, Nat.le_refl 0⟩
    (zfst_lv [t0, t1, t2, t3, t4, b] (vs := [.ref 5]) (n := 14) (by decide)) (zfst_ok (n := 6) (fun v hv => by rw [List.mem_singleton.mp hv]; exact (by decide : 5 < 6))) (fun v hv => nomatch hv)
  rw [lg_entry_eq]
  intro T hT XX
  obtain ⟨t, a1, a2⟩ := k T hT XX
  exact ⟨t, a1, zQ_end (fun q hq => hq) (Nat.le_refl _) (Nat.le_refl _) a2⟩
end
section
/-! runs of the interpreter, told by what they come to -/
section ZWP
variable {P : Nat → zM} {ft : Nat → List FieldType} {ro : Nat → Int32 → zS → Option (zO × zS)}
set_option maxHeartbeats 4000000 in
theorem zst_mono {rec rec2 : zR} (hrec : ∀ y pc ls st σ r, rec y pc ls st σ = some r → rec2 y pc ls st σ = some r) {y pc : Nat} {ls : zLs} {st : List Value} {σ : zS} {e : zI} {r : zO × zS} (h : zst P ft ro rec y pc ls st σ e = some r) : zst P ft ro rec2 y pc ls st σ e = some r := by
  obtain ⟨i, r1, r2, r3, tg⟩ := e
  cases i <;> dsimp only [zst] at h ⊢
  all_goals first | (cases h; done) | exact hrec _ _ _ _ _ _ h | exact h | skip
  all_goals repeat' split at h
  all_goals first
    | (cases h; done)
    | exact hrec _ _ _ _ _ _ h
    | exact h
    | (rw [if_neg (by assumption)]; exact h)
    | (simp only [*, if_true, if_false, ite_true, ite_false, reduceIte, not_false_eq_true, not_true_eq_false, and_self]; first | exact h | exact hrec _ _ _ _ _ _ h | exact zback_mono hrec (fun r hr => hr) h | exact zback_mono hrec (fun r hr => hrec _ _ _ _ _ _ hr) h | exact zback_mono hrec (fun r hr => by first | (split at hr; exact hrec _ _ _ _ _ _ hr; cases hr) | exact hrec _ _ _ _ _ _ hr) h)
    | skip
end ZWP
section ZWU
variable {P : Nat → zM} {ft : Nat → List FieldType} {ro : Nat → Int32 → zS → Option (zO × zS)}
theorem zx_up : ∀ {n m y pc : Nat} {ls : zLs} {st : List Value} {σ : zS} {r : zO × zS}, zx P ft ro n y pc ls st σ = some r → n ≤ m → zx P ft ro m y pc ls st σ = some r
  | 0, _, _, _, _, _, _, _, h, _ => by cases h
  | n + 1, 0, _, _, _, _, _, _, _, hm => absurd hm (Nat.not_succ_le_zero n)
  | n + 1, m + 1, y, pc, ls, st, σ, r, h, hm => by
    unfold zx at h ⊢
    split at h
    · cases h
    · exact zst_mono (fun y pc ls st σ r h9 => zx_up h9 (Nat.le_of_succ_le_succ hm)) h
end ZWU
end
section
/-! runs, and the rules by which they are told -/
def zW (ro : Nat → Int32 → zS → Option (zO × zS)) (y pc : Nat) (ls : zLs) (st : List Value) (σ : zS) (Q : zO → zS → Prop) : Prop := ∃ (n : Nat) (o : zO) (σ' : zS), zx zP zFt ro n y pc ls st σ = some (o, σ') ∧ Q o σ'
/-- behind a call -/
def zKt (ro : Nat → Int32 → zS → Option (zO × zS)) (y pc : Nat) (ls : zLs) (rest : List Value) (Q : zO → zS → Prop) (o : zO) (σ1 : zS) : Prop := match o with
  | .inl v => zW ro y (pc + 3) ls (v.toList ++ rest) σ1 Q
  | .inr E => match zcat (zmH (zP y)) pc E with
    | none => Q (.inr E) σ1
    | some h => match zlk (zmC (zP y)) h with
      | some (.astore k, _) => k < ls.length ∧ zW ro y (h + 2) ((zkl ls k).set k none) [] σ1 Q
      | some (.astore_n k, _) => (k : Nat) < ls.length ∧ zW ro y (h + 1) ((zkl ls k).set k none) [] σ1 Q
      | _ => False
section ZR
variable {ro : Nat → Int32 → zS → Option (zO × zS)} {y pc r1 r2 r3 : Nat} {ls : zLs} {st rest : List Value} {σ : zS} {Q : zO → zS → Prop} {tg : List Nat}
theorem zx_at {n : Nat} {e : zI} (he : zlk (zmC (zP y)) pc = some e) : zx zP zFt ro (n + 1) y pc ls st σ = zst zP zFt ro (zx zP zFt ro n) y pc ls st σ e := by
  show (match zlk (zmC (zP y)) pc with | none => none | some e => zst zP zFt ro (zx zP zFt ro n) y pc ls st σ e) = _
  rw [he]
theorem zW.go {e : zI} {pc' : Nat} {ls' : zLs} {st' : List Value} {σ' : zS} (he : zlk (zmC (zP y)) pc = some e) (hs : ∀ rec : zR, zst zP zFt ro rec y pc ls st σ e = rec y pc' ls' st' σ') (k : zW ro y pc' ls' st' σ' Q) : zW ro y pc ls st σ Q := by
  obtain ⟨n, o, σ2, h, hq⟩ := k
  exact ⟨n + 1, o, σ2, by rw [zx_at he, hs]; exact h, hq⟩
theorem zW.end_ {e : zI} {o : zO} {σ' : zS} (he : zlk (zmC (zP y)) pc = some e) (hs : ∀ rec : zR, zst zP zFt ro rec y pc ls st σ e = some (o, σ')) (hq : Q o σ') : zW ro y pc ls st σ Q := ⟨1, o, σ', by rw [zx_at he, hs], hq⟩
theorem zW.mono {Q2 : zO → zS → Prop} (k : zW ro y pc ls st σ Q) (h : ∀ o σ', Q o σ' → Q2 o σ') : zW ro y pc ls st σ Q2 := by
  obtain ⟨n, o, σ2, h1, hq⟩ := k
  exact ⟨n, o, σ2, h1, h _ _ hq⟩
/-- many plain instructions at once -/
theorem zW.run (k : Nat) {pc' : Nat} {ls' : zLs} {st' : List Value} {σ' : zS} (h : ∀ n, zx zP zFt ro (n + k) y pc ls st σ = zx zP zFt ro n y pc' ls' st' σ') (q : zW ro y pc' ls' st' σ' Q) : zW ro y pc ls st σ Q := by
  obtain ⟨n, o, σ2, h1, hq⟩ := q
  exact ⟨n + k, o, σ2, by rw [h]; exact h1, hq⟩
theorem zback_kt {n : Nat} {o1 : zO} {σ1 : zS} (k : zKt ro y pc ls rest Q o1 σ1) : ∃ m o σ', (∀ n, m ≤ n → zback zP (zx zP zFt ro n) y pc ls rest (some (o1, σ1)) = some (o, σ')) ∧ Q o σ' := by
  have up : ∀ {m : Nat} {y pc : Nat} {ls : zLs} {st : List Value} {σ : zS} {r : zO × zS}, zx zP zFt ro m y pc ls st σ = some r → ∀ n, m ≤ n → zx zP zFt ro n y pc ls st σ = some r := fun h n hn => zx_up h hn
  cases o1 with
  | inl v =>
    obtain ⟨m, o, σ', h, hq⟩ := k
    exact ⟨m, o, σ', fun n hn => up h n hn, hq⟩
  | inr E =>
    dsimp only [zKt] at k
    cases hc : zcat (zmH (zP y)) pc E with
    | none =>
      rw [hc] at k
      exact ⟨0, .inr E, σ1, fun n _ => by dsimp only [zback]; rw [hc], k⟩
    | some h9 =>
      rw [hc] at k
      dsimp only at k
      split at k
      · rename_i kk q hl
        obtain ⟨k1, m, o, σ', h, hq⟩ := k
        exact ⟨m, o, σ', fun n hn => by dsimp only [zback]; rw [hc]; dsimp only; rw [hl]; dsimp only; rw [if_pos k1]; exact up h n hn, hq⟩
      · rename_i kk q hl
        obtain ⟨k1, m, o, σ', h, hq⟩ := k
        exact ⟨m, o, σ', fun n hn => by dsimp only [zback]; rw [hc]; dsimp only; rw [hl]; dsimp only; rw [if_pos k1]; exact up h n hn, hq⟩
      · exact k.elim
theorem zW.callS {x : Nat} {vs : List Value} (he : zlk (zmC (zP y)) pc = some (.invokestatic x, r1, r2, r3, tg)) (hd : st.drop r2 = rest) (hv : (st.take r2).reverse = vs) (hl : (st.take r2).length = r2) (hlow : zlow rest = true) (hent : (zent vs).length ≤ zmL (zP r1)) (k : zW ro r1 0 (zfst vs (zmL (zP r1))) [] σ (zKt ro y pc ls rest Q)) : zW ro y pc ls st σ Q := by
  obtain ⟨n1, o1, σ1, h1, hk⟩ := k
  obtain ⟨m, o, σ', h2, hq⟩ := zback_kt (n := 0) hk
  refine ⟨(n1 + m) + 1, o, σ', ?_, hq⟩
  rw [zx_at he]
  dsimp only [zst]
  rw [hd, hv, if_pos hlow, if_pos ⟨hl, hent⟩, zx_up h1 (Nat.le_add_right n1 m)]
  exact h2 _ (Nat.le_add_left m n1)
theorem zW.callV {x b m : Nat} {vs : List Value} (he : zlk (zmC (zP y)) pc = some (.invokevirtual x, r1, r2, r3, tg)) (h3 : r3 ≠ 2000) (hd : st.drop r2 = .ref b :: rest) (hv : (st.take r2).reverse = vs) (hl : (st.take r2).length = r2) (hlow : zlow rest = true) (hk : σ.1[b]? = some (r3, m)) (hent : (zent (.ref b :: vs)).length ≤ zmL (zP r1)) (k : zW ro r1 0 (zfst (.ref b :: vs) (zmL (zP r1))) [] σ (zKt ro y pc ls rest Q)) : zW ro y pc ls st σ Q := by
  obtain ⟨n1, o1, σ1, h1, hkt⟩ := k
  obtain ⟨m2, o, σ', h2, hq⟩ := zback_kt (n := 0) hkt
  refine ⟨(n1 + m2) + 1, o, σ', ?_, hq⟩
  rw [zx_at he]
  dsimp only [zst]
  rw [if_neg h3, hd]
  dsimp only
  rw [if_pos hlow, hk]
  dsimp only
  rw [if_pos rfl, hv, if_pos ⟨hl, hent⟩, zx_up h1 (Nat.le_add_right n1 m2)]
  exact h2 _ (Nat.le_add_left m2 n1)
theorem zW.callI {x b m : Nat} {vs : List Value} (he : zlk (zmC (zP y)) pc = some (.invokespecial x, r1, r2, r3, tg)) (h3 : r3 ≠ 1000) (hd : st.drop r2 = .ref b :: rest) (hv : (st.take r2).reverse = vs) (hl : (st.take r2).length = r2) (hlow : zlow rest = true) (hk : σ.1[b]? = some (r3, m)) (hent : (zent (.ref b :: vs)).length ≤ zmL (zP r1)) (k : zW ro r1 0 (zfst (.ref b :: vs) (zmL (zP r1))) [] σ (zKt ro y pc ls rest Q)) : zW ro y pc ls st σ Q := by
  obtain ⟨n1, o1, σ1, h1, hkt⟩ := k
  obtain ⟨m2, o, σ', h2, hq⟩ := zback_kt (n := 0) hkt
  refine ⟨(n1 + m2) + 1, o, σ', ?_, hq⟩
  rw [zx_at he]
  dsimp only [zst]
  rw [hd]
  dsimp only
  rw [if_neg h3, if_pos hlow, hk]
  dsimp only
  rw [if_pos rfl, hv, if_pos ⟨hl, hent⟩, zx_up h1 (Nat.le_add_right n1 m2)]
  exact h2 _ (Nat.le_add_left m2 n1)
theorem zW.getf {x a k m j : Nat} {v : Value} (he : zlk (zmC (zP y)) pc = some (.getfield x, k, j, r3, tg)) (hk : σ.1[a]? = some (k, m)) (hv : zfv ((zFt k).getD j .int) σ a j = v) (q : zW ro y (pc + 3) ls (v :: st) σ Q) : zW ro y pc ls (.ref a :: st) σ Q := by
  refine zW.go he (fun rec => ?_) q
  dsimp only [zst]
  rw [hk]
  dsimp only
  rw [if_pos rfl, hv]
theorem zW.putf {x a k m j : Nat} {v : Value} {σ1 : zS} (he : zlk (zmC (zP y)) pc = some (.putfield x, k, j, r3, tg)) (hk : σ.1[a]? = some (k, m)) (hn : narrow ((zFt k).getD j .int) v = v) (hf : fits ((zFt k).getD j .int) v = true) (hv : zfp σ a j v = some σ1) (q : zW ro y (pc + 3) ls st σ1 Q) : zW ro y pc ls (v :: .ref a :: st) σ Q := by
  refine zW.go he (fun rec => ?_) q
  dsimp only [zst]
  rw [hk]
  dsimp only
  rw [if_pos ⟨rfl, hn, hf⟩, hv]
theorem zW.iald {a k n : Nat} {i : Int32} {v : Int32} (he : zlk (zmC (zP y)) pc = some (.iaload, r1, r2, r3, tg)) (hk : σ.1[a]? = some (k, n)) (hkk : k = 100 ∨ k = 200) (hi : zin i n = true) (hv : σ.2.1 a i.toNatClampNeg = v) (q : zW ro y (pc + 1) ls (.int v :: st) σ Q) : zW ro y pc ls (.int i :: .ref a :: st) σ Q := by
  refine zW.go he (fun rec => ?_) q
  dsimp only [zst]
  rw [hk]
  dsimp only
  rw [if_pos ⟨hkk, hi⟩, hv]
theorem zW.iast {a n : Nat} {i w : Int32} (he : zlk (zmC (zP y)) pc = some (.iastore, r1, r2, r3, tg)) (hk : σ.1[a]? = some (100, n)) (hi : zin i n = true) (q : zW ro y (pc + 1) ls st (σ.1, zup σ.2.1 a i.toNatClampNeg w, σ.2.2) Q) : zW ro y pc ls (.int w :: .int i :: .ref a :: st) σ Q := by
  refine zW.go he (fun rec => ?_) q
  dsimp only [zst]
  rw [hk]
  dsimp only
  rw [if_pos ⟨rfl, hi⟩]
theorem zW.aald {a k n : Nat} {i : Int32} {v : Value} (he : zlk (zmC (zP y)) pc = some (.aaload, r1, r2, r3, tg)) (hk : σ.1[a]? = some (k, n)) (hkk : k = 103 ∨ k = 104 ∨ k = 105) (hi : zin i n = true) (hv : va_rf (σ.2.2.1 a i.toNatClampNeg) = v) (q : zW ro y (pc + 1) ls (v :: st) σ Q) : zW ro y pc ls (.int i :: .ref a :: st) σ Q := by
  refine zW.go he (fun rec => ?_) q
  dsimp only [zst]
  rw [hk]
  dsimp only
  rw [if_pos ⟨hkk, hi⟩, hv]
theorem zW.alen {a k n : Nat} (he : zlk (zmC (zP y)) pc = some (.arraylength, r1, r2, r3, tg)) (hk : σ.1[a]? = some (k, n)) (hkk : k = 100 ∨ k = 103 ∨ k = 104 ∨ k = 105 ∨ k = 200) (q : zW ro y (pc + 1) ls (.int (Int32.ofNat n) :: st) σ Q) : zW ro y pc ls (.ref a :: st) σ Q := by
  refine zW.go he (fun rec => ?_) q
  dsimp only [zst]
  rw [hk]
  dsimp only
  rw [if_pos hkk]
theorem zW.idiv {a b : Int32} (he : zlk (zmC (zP y)) pc = some (.idiv, r1, r2, r3, tg)) (h0 : ¬ b = 0) (q : zW ro y (pc + 1) ls (.int (a / b) :: st) σ Q) : zW ro y pc ls (.int b :: .int a :: st) σ Q := by
  refine zW.go he (fun rec => ?_) q
  dsimp only [zst]
  rw [if_neg h0]
theorem zW.irem {a b : Int32} (he : zlk (zmC (zP y)) pc = some (.irem, r1, r2, r3, tg)) (h0 : ¬ b = 0) (q : zW ro y (pc + 1) ls (.int (a - a / b * b) :: st) σ Q) : zW ro y pc ls (.int b :: .int a :: st) σ Q := by
  refine zW.go he (fun rec => ?_) q
  dsimp only [zst]
  rw [if_neg h0]
theorem zW.tab {df lo hi : Int} {offs : Array Int} {x : Int32} (he : zlk (zmC (zP y)) pc = some (.tableswitch df lo hi offs, r1, r2, r3, tg)) (k1 : x.toInt < lo ∨ hi < x.toInt → zW ro y r2 ls st σ Q) (k2 : ∀ j t : Nat, x.toInt = lo + j → tg[j]? = some t → zW ro y t ls st σ Q) (hlen : hi + 1 ≤ lo + tg.length) : zW ro y pc ls (.int x :: st) σ Q := by
  by_cases h : x.toInt < lo ∨ hi < x.toInt
  · refine zW.go he (fun rec => ?_) (k1 h)
    dsimp only [zst]
    rw [if_pos h]
  · have hj : (x.toInt - lo).toNat < tg.length := by omega
    refine zW.go he (fun rec => ?_) (k2 (x.toInt - lo).toNat (tg[(x.toInt - lo).toNat]'hj) (by omega) (List.getElem?_eq_getElem hj))
    dsimp only [zst]
    rw [if_neg h, List.getElem?_eq_getElem hj]
theorem zW.if_eq {x : Int32} {off : Int} (he : zlk (zmC (zP y)) pc = some (.ifCond .eq off, r1, r2, r3, tg)) (kt : x = 0 → zW ro y r1 ls st σ Q) (kf : ¬ x = 0 → zW ro y (pc + 3) ls st σ Q) : zW ro y pc ls (.int x :: st) σ Q := by
  by_cases h : x = 0
  · exact zW.go he (fun rec => if_pos h) (kt h)
  · exact zW.go he (fun rec => if_neg h) (kf h)
theorem zW.if_ne {x : Int32} {off : Int} (he : zlk (zmC (zP y)) pc = some (.ifCond .ne off, r1, r2, r3, tg)) (kt : ¬ x = 0 → zW ro y r1 ls st σ Q) (kf : x = 0 → zW ro y (pc + 3) ls st σ Q) : zW ro y pc ls (.int x :: st) σ Q := by
  by_cases h : x = 0
  · exact zW.go he (fun rec => if_pos h) (kf h)
  · exact zW.go he (fun rec => if_neg h) (kt h)
theorem zW.if_lt {x : Int32} {off : Int} (he : zlk (zmC (zP y)) pc = some (.ifCond .lt off, r1, r2, r3, tg)) (kt : x < 0 → zW ro y r1 ls st σ Q) (kf : ¬ x < 0 → zW ro y (pc + 3) ls st σ Q) : zW ro y pc ls (.int x :: st) σ Q := by
  by_cases h : x < 0
  · exact zW.go he (fun rec => if_pos h) (kt h)
  · exact zW.go he (fun rec => if_neg h) (kf h)
theorem zW.if_ge {x : Int32} {off : Int} (he : zlk (zmC (zP y)) pc = some (.ifCond .ge off, r1, r2, r3, tg)) (kt : 0 ≤ x → zW ro y r1 ls st σ Q) (kf : ¬ 0 ≤ x → zW ro y (pc + 3) ls st σ Q) : zW ro y pc ls (.int x :: st) σ Q := by
  by_cases h : 0 ≤ x
  · exact zW.go he (fun rec => if_pos h) (kt h)
  · exact zW.go he (fun rec => if_neg h) (kf h)
theorem zW.if_gt {x : Int32} {off : Int} (he : zlk (zmC (zP y)) pc = some (.ifCond .gt off, r1, r2, r3, tg)) (kt : 0 < x → zW ro y r1 ls st σ Q) (kf : ¬ 0 < x → zW ro y (pc + 3) ls st σ Q) : zW ro y pc ls (.int x :: st) σ Q := by
  by_cases h : 0 < x
  · exact zW.go he (fun rec => if_pos h) (kt h)
  · exact zW.go he (fun rec => if_neg h) (kf h)
theorem zW.if_le {x : Int32} {off : Int} (he : zlk (zmC (zP y)) pc = some (.ifCond .le off, r1, r2, r3, tg)) (kt : x ≤ 0 → zW ro y r1 ls st σ Q) (kf : ¬ x ≤ 0 → zW ro y (pc + 3) ls st σ Q) : zW ro y pc ls (.int x :: st) σ Q := by
  by_cases h : x ≤ 0
  · exact zW.go he (fun rec => if_pos h) (kt h)
  · exact zW.go he (fun rec => if_neg h) (kf h)
theorem zW.icmp_eq {a b : Int32} {off : Int} (he : zlk (zmC (zP y)) pc = some (.if_icmp .eq off, r1, r2, r3, tg)) (kt : a = b → zW ro y r1 ls st σ Q) (kf : ¬ a = b → zW ro y (pc + 3) ls st σ Q) : zW ro y pc ls (.int b :: .int a :: st) σ Q := by
  by_cases h : a = b
  · exact zW.go he (fun rec => if_pos h) (kt h)
  · exact zW.go he (fun rec => if_neg h) (kf h)
theorem zW.icmp_ne {a b : Int32} {off : Int} (he : zlk (zmC (zP y)) pc = some (.if_icmp .ne off, r1, r2, r3, tg)) (kt : ¬ a = b → zW ro y r1 ls st σ Q) (kf : a = b → zW ro y (pc + 3) ls st σ Q) : zW ro y pc ls (.int b :: .int a :: st) σ Q := by
  by_cases h : a = b
  · exact zW.go he (fun rec => if_pos h) (kf h)
  · exact zW.go he (fun rec => if_neg h) (kt h)
theorem zW.icmp_lt {a b : Int32} {off : Int} (he : zlk (zmC (zP y)) pc = some (.if_icmp .lt off, r1, r2, r3, tg)) (kt : a < b → zW ro y r1 ls st σ Q) (kf : ¬ a < b → zW ro y (pc + 3) ls st σ Q) : zW ro y pc ls (.int b :: .int a :: st) σ Q := by
  by_cases h : a < b
  · exact zW.go he (fun rec => if_pos h) (kt h)
  · exact zW.go he (fun rec => if_neg h) (kf h)
theorem zW.icmp_ge {a b : Int32} {off : Int} (he : zlk (zmC (zP y)) pc = some (.if_icmp .ge off, r1, r2, r3, tg)) (kt : b ≤ a → zW ro y r1 ls st σ Q) (kf : ¬ b ≤ a → zW ro y (pc + 3) ls st σ Q) : zW ro y pc ls (.int b :: .int a :: st) σ Q := by
  by_cases h : b ≤ a
  · exact zW.go he (fun rec => if_pos h) (kt h)
  · exact zW.go he (fun rec => if_neg h) (kf h)
theorem zW.icmp_gt {a b : Int32} {off : Int} (he : zlk (zmC (zP y)) pc = some (.if_icmp .gt off, r1, r2, r3, tg)) (kt : b < a → zW ro y r1 ls st σ Q) (kf : ¬ b < a → zW ro y (pc + 3) ls st σ Q) : zW ro y pc ls (.int b :: .int a :: st) σ Q := by
  by_cases h : b < a
  · exact zW.go he (fun rec => if_pos h) (kt h)
  · exact zW.go he (fun rec => if_neg h) (kf h)
theorem zW.icmp_le {a b : Int32} {off : Int} (he : zlk (zmC (zP y)) pc = some (.if_icmp .le off, r1, r2, r3, tg)) (kt : a ≤ b → zW ro y r1 ls st σ Q) (kf : ¬ a ≤ b → zW ro y (pc + 3) ls st σ Q) : zW ro y pc ls (.int b :: .int a :: st) σ Q := by
  by_cases h : a ≤ b
  · exact zW.go he (fun rec => if_pos h) (kt h)
  · exact zW.go he (fun rec => if_neg h) (kf h)
end ZR
end
section
/-! the siege's cells: where they lie -/
def zS1 : List (Nat × Nat) := [(1, 17), (2, 14), (100, 144), (100, 144), (100, 144), (100, 144), (100, 144), (100, 144), (100, 144), (100, 144), (100, 144), (103, 16), (104, 12), (105, 6), (6, 11), (6, 11), (7, 7), (100, 6), (100, 6)] ++ List.replicate 16 (3, 7) ++ List.replicate 12 (4, 6) ++ [(5, 7), (100, 6), (5, 7), (100, 6), (5, 7), (100, 6), (5, 7), (100, 6), (5, 7), (100, 6), (5, 7), (100, 6)]
def zK0 (L : Nat) : zK := [(200, 4), (200, 4), (200, 6), (200, 6), (200, 6), (200, L), (0, 2)] ++ (zS1 ++ zS1)
abbrev zH : Type := Nat → Nat → Int32
abbrev zN (L : Nat) (X : zK) (h : zH) (R : Nat → Nat → Option Nat) (G : Nat → Nat → Int64) (nc ns : Nat) : zS := (zK0 L ++ X, h, R, G, nc, ns)
def zSR (R : Nat → Nat → Option Nat) : Prop := R 6 0 = some 7 ∧ R 7 0 = some 8 ∧ R 7 1 = some 18 ∧ R 7 2 = some 19 ∧ R 7 3 = some 20 ∧ R 7 4 = some 21 ∧ R 7 5 = some 22 ∧ R 7 6 = some 23 ∧ R 23 0 = some 24 ∧ R 23 1 = some 25 ∧ (∀ f, f < 9 → R 8 f = some (9 + f)) ∧ (∀ i, i < 16 → R 18 i = some (26 + i)) ∧ (∀ i, i < 12 → R 19 i = some (42 + i)) ∧ (∀ i, i < 6 → R 20 i = some (54 + 2 * i)) ∧ (∀ i, i < 6 → R (54 + 2 * i) 0 = some (55 + 2 * i))
section ZST
variable {R : Nat → Nat → Option Nat} {L : Nat} {X : zK}
theorem zr_6_0 (S : zSR R) : va_rf (R 6 0) = .ref 7 := congrArg va_rf S.1
theorem zr_7_0 (S : zSR R) : va_rf (R 7 0) = .ref 8 := congrArg va_rf S.2.1
theorem zr_7_1 (S : zSR R) : va_rf (R 7 1) = .ref 18 := congrArg va_rf S.2.2.1
theorem zr_7_2 (S : zSR R) : va_rf (R 7 2) = .ref 19 := congrArg va_rf S.2.2.2.1
theorem zr_7_3 (S : zSR R) : va_rf (R 7 3) = .ref 20 := congrArg va_rf S.2.2.2.2.1
theorem zr_7_4 (S : zSR R) : va_rf (R 7 4) = .ref 21 := congrArg va_rf S.2.2.2.2.2.1
theorem zr_7_5 (S : zSR R) : va_rf (R 7 5) = .ref 22 := congrArg va_rf S.2.2.2.2.2.2.1
theorem zr_7_6 (S : zSR R) : va_rf (R 7 6) = .ref 23 := congrArg va_rf S.2.2.2.2.2.2.2.1
theorem zr_23_0 (S : zSR R) : va_rf (R 23 0) = .ref 24 := congrArg va_rf S.2.2.2.2.2.2.2.2.1
theorem zr_23_1 (S : zSR R) : va_rf (R 23 1) = .ref 25 := congrArg va_rf S.2.2.2.2.2.2.2.2.2.1
theorem zr_8 (S : zSR R) {f : Nat} (hf : f < 9) : va_rf (R 8 f) = .ref (9 + f) := congrArg va_rf (S.2.2.2.2.2.2.2.2.2.2.1 f hf)
theorem zr_gun (S : zSR R) {i : Nat} (hi : i < 16) : va_rf (R 18 i) = .ref (26 + i) := congrArg va_rf (S.2.2.2.2.2.2.2.2.2.2.2.1 i hi)
theorem zr_com (S : zSR R) {i : Nat} (hi : i < 12) : va_rf (R 19 i) = .ref (42 + i) := congrArg va_rf (S.2.2.2.2.2.2.2.2.2.2.2.2.1 i hi)
theorem zr_min (S : zSR R) {i : Nat} (hi : i < 6) : va_rf (R 20 i) = .ref (54 + 2 * i) := congrArg va_rf (S.2.2.2.2.2.2.2.2.2.2.2.2.2.1 i hi)
theorem zr_mrow (S : zSR R) {i : Nat} (hi : i < 6) : va_rf (R (54 + 2 * i) 0) = .ref (55 + 2 * i) := congrArg va_rf (S.2.2.2.2.2.2.2.2.2.2.2.2.2.2 i hi)
theorem zk_gun {i : Nat} (hi : i < 16) : (zK0 L ++ X)[26 + i]? = some (3, 7) := by
  have h : ∀ i, i < 16 → (zK0 L)[26 + i]? = some (3, 7) := by
    intro i hi
    match i, hi with
    | 0, _ | 1, _ | 2, _ | 3, _ | 4, _ | 5, _ | 6, _ | 7, _ | 8, _ | 9, _ | 10, _ | 11, _ | 12, _ | 13, _ | 14, _ | 15, _ => rfl
    | n + 16, h9 => exact absurd h9 (by omega)
  rw [List.getElem?_append_left (List.getElem?_eq_some_iff.mp (h i hi)).1]
  exact h i hi
theorem zk_com {i : Nat} (hi : i < 12) : (zK0 L ++ X)[42 + i]? = some (4, 6) := by
  have h : ∀ i, i < 12 → (zK0 L)[42 + i]? = some (4, 6) := by
    intro i hi
    match i, hi with
    | 0, _ | 1, _ | 2, _ | 3, _ | 4, _ | 5, _ | 6, _ | 7, _ | 8, _ | 9, _ | 10, _ | 11, _ => rfl
    | n + 12, h9 => exact absurd h9 (by omega)
  rw [List.getElem?_append_left (List.getElem?_eq_some_iff.mp (h i hi)).1]
  exact h i hi
theorem zk_min {i : Nat} (hi : i < 6) : (zK0 L ++ X)[54 + 2 * i]? = some (5, 7) := by
  have h : ∀ i, i < 6 → (zK0 L)[54 + 2 * i]? = some (5, 7) := by
    intro i hi
    match i, hi with
    | 0, _ | 1, _ | 2, _ | 3, _ | 4, _ | 5, _ => rfl
    | n + 6, h9 => exact absurd h9 (by omega)
  rw [List.getElem?_append_left (List.getElem?_eq_some_iff.mp (h i hi)).1]
  exact h i hi
theorem zk_mrow {i : Nat} (hi : i < 6) : (zK0 L ++ X)[55 + 2 * i]? = some (100, 6) := by
  have h : ∀ i, i < 6 → (zK0 L)[55 + 2 * i]? = some (100, 6) := by
    intro i hi
    match i, hi with
    | 0, _ | 1, _ | 2, _ | 3, _ | 4, _ | 5, _ => rfl
    | n + 6, h9 => exact absurd h9 (by omega)
  rw [List.getElem?_append_left (List.getElem?_eq_some_iff.mp (h i hi)).1]
  exact h i hi
end ZST
section ZRET
variable {ro : Nat → Int32 → zS → Option (zO × zS)} {y pc r1 r2 r3 : Nat} {ls : zLs} {st rest : List Value} {σ : zS} {Q : zO → zS → Prop} {tg : List Nat}
theorem znb0 : narrow .boolean (.int 0) = .int 0 := by decide
theorem znb1 : narrow .boolean (.int 1) = .int 1 := by decide
theorem zW.iret {v : Int32} {ty : FieldType} (he : zlk (zmC (zP y)) pc = some (.ireturn, r1, r2, r3, tg)) (hr : zmR (zP y) = some ty) (hn : narrow ty (.int v) = .int v) (hq : Q (.inl (some (.int v))) σ) : zW ro y pc ls [.int v] σ Q := by
  refine zW.end_ he (fun rec => ?_) hq
  dsimp only [zst]
  rw [hr]
  dsimp only
  rw [if_pos hn]
theorem zW.aret {a : Nat} (he : zlk (zmC (zP y)) pc = some (.areturn, r1, r2, r3, tg)) (hq : Q (.inl (some (.ref a))) σ) : zW ro y pc ls [.ref a] σ Q := zW.end_ he (fun rec => rfl) hq
theorem zW.vret (he : zlk (zmC (zP y)) pc = some (.return_, r1, r2, r3, tg)) (hq : Q (.inl none) σ) : zW ro y pc ls [] σ Q := zW.end_ he (fun rec => rfl) hq
theorem zW.thr {x : Nat} (he : zlk (zmC (zP y)) pc = some (.new x, r1, r2, 1, tg)) (hq : Q (.inr r1) (zthr σ)) : zW ro y pc ls [] σ Q := zW.end_ he (fun rec => rfl) hq
end ZRET
theorem zin_lt {x N : Int32} {n : Nat} (h0 : ¬ x < 0) (h1 : ¬ N ≤ x) (hN : N.toInt = n) : zin x n = true := by
  unfold zin
  rw [decide_eq_true_eq]
  rintro (q | q)
  · exact h0 q
  · refine h1 (Int32.le_iff_toInt_le.mpr ?_)
    have h2 : ¬ x.toInt < 0 := fun z => h0 (Int32.lt_iff_toInt_lt.mpr (by rw [Int32.toInt_zero]; exact z))
    have h3 : x.toNatClampNeg = x.toInt.toNat := rfl
    rw [h3] at q
    omega
theorem ztab_out {x v : Int32} {lo hi : Int} (c : x.toInt < lo ∨ hi < x.toInt) (h : lo ≤ v.toInt ∧ v.toInt ≤ hi) : ¬ x = v := fun q => by
  rw [q] at c
  omega
theorem ztab_in {x v : Int32} {lo : Int} {j : Nat} (c : x.toInt = lo + j) (h : v.toInt = lo + j) : x = v := Int32.toInt_inj.mp (c.trans h.symm)
theorem znl {x : Int32} (h : 0 ≤ x) : ¬ x < 0 := fun q => by
  have h1 := Int32.le_iff_toInt_le.mp h
  have h2 := Int32.lt_iff_toInt_lt.mp q
  omega
theorem znu {x N : Int32} (h : x < N) : ¬ N ≤ x := fun q => by
  have h1 := Int32.lt_iff_toInt_lt.mp h
  have h2 := Int32.le_iff_toInt_le.mp q
  omega
end
section
/-! whole numbers: heaps of Int, and the rules over them -/
abbrev zJ : Type := Nat → Nat → Int
def zhi (s : zJ) : zH := fun p f => Int32.ofInt (s p f)
theorem zhi_up (s : zJ) (p f : Nat) (v : Int) : zup (zhi s) p f (Int32.ofInt v) = zhi (zup s p f v) := by
  funext a j
  unfold zup zhi
  by_cases h : a = p ∧ j = f
  · simp only [h, and_self, if_true]
  · simp only [h, if_false]
theorem zup_ej {s : zJ} {p f : Nat} {v : Int} : zup s p f v p f = v := if_pos ⟨rfl, rfl⟩
theorem zup_nj {s : zJ} {p f q k : Nat} {v : Int} (h : ¬ (q = p ∧ k = f)) : zup s p f v q k = s q k := if_neg h
theorem zj_ti {a : Int} (h : -2147483648 ≤ a ∧ a < 2147483648) : (Int32.ofInt a).toInt = a := Int32.toInt_ofInt_of_le (by omega) (by omega)
theorem zj_td {a b : Int} (h : -2147483648 ≤ a ∧ a < 2147483648) (k : -2147483648 ≤ b ∧ b < 2147483648) : Int32.ofInt (a.tdiv b) = Int32.ofInt a / Int32.ofInt b := by
  have e1 : Int32.minValue.toInt = -2147483648 := by decide
  have e2 : Int32.maxValue.toInt = 2147483647 := by decide
  exact Int32.ofInt_tdiv (by omega) (by omega) (by omega) (by omega)
theorem zj_lt {a b : Int} (h : -2147483648 ≤ a ∧ a < 2147483648) (k : -2147483648 ≤ b ∧ b < 2147483648) : (Int32.ofInt a < Int32.ofInt b) = (a < b) := by
  rw [Int32.lt_iff_toInt_lt, zj_ti h, zj_ti k]
theorem zj_le {a b : Int} (h : -2147483648 ≤ a ∧ a < 2147483648) (k : -2147483648 ≤ b ∧ b < 2147483648) : (Int32.ofInt a ≤ Int32.ofInt b) = (a ≤ b) := by
  rw [Int32.le_iff_toInt_le, zj_ti h, zj_ti k]
theorem zj_eq {a b : Int} (h : -2147483648 ≤ a ∧ a < 2147483648) (k : -2147483648 ≤ b ∧ b < 2147483648) : (Int32.ofInt a = Int32.ofInt b) = (a = b) := by
  apply propext
  constructor
  · intro q
    rw [← zj_ti h, ← zj_ti k, q]
  · intro q
    rw [q]
/-- any whole number stands for one of the range -/
theorem zj_n (e : Int) : ∃ v : Int, (-2147483648 ≤ v ∧ v < 2147483648) ∧ Int32.ofInt e = Int32.ofInt v := ⟨(Int32.ofInt e).toInt, ⟨Int32.le_toInt _, Int32.toInt_lt _⟩, (Int32.ofInt_toInt _).symm⟩
theorem zj_w (w : Int32) : ∃ v : Int, (-2147483648 ≤ v ∧ v < 2147483648) ∧ w = Int32.ofInt v := ⟨w.toInt, ⟨Int32.le_toInt _, Int32.toInt_lt _⟩, (Int32.ofInt_toInt _).symm⟩
theorem zj_cl {i : Int} (h : 0 ≤ i ∧ i < 2147483648) : (Int32.ofInt i).toNatClampNeg = i.toNat := by
  show (Int32.ofInt i).toInt.toNat = i.toNat
  rw [zj_ti ⟨by omega, by omega⟩]
theorem zj_in {i : Int} {n : Nat} (h : 0 ≤ i ∧ i < n) (hn : n < 2147483648) : zin (Int32.ofInt i) n = true := by
  unfold zin
  rw [decide_eq_true_eq, zj_cl ⟨h.1, by omega⟩]
  rintro (q | q)
  · have h2 := Int32.lt_iff_toInt_lt.mp q
    rw [zj_ti ⟨by omega, by omega⟩] at h2
    have h3 : (0 : Int32).toInt = 0 := by decide
    omega
  · omega
section ZJR
variable {ro : Nat → Int32 → zS → Option (zO × zS)} {y pc r1 r2 r3 : Nat} {ls : zLs} {st rest : List Value} {σ : zS} {Q : zO → zS → Prop} {tg : List Nat} {L : Nat} {X : zK} {s : zJ} {R : Nat → Nat → Option Nat} {G : Nat → Nat → Int64} {nc ns : Nat}
theorem zW.jadd {a b : Int} (he : zlk (zmC (zP y)) pc = some (.iadd, r1, r2, r3, tg)) (q : zW ro y (pc + 1) ls (.int (Int32.ofInt (a + b)) :: st) σ Q) : zW ro y pc ls (.int (Int32.ofInt b) :: .int (Int32.ofInt a) :: st) σ Q := by
  refine zW.go he (fun rec => ?_) q
  dsimp only [zst]
  rw [Int32.ofInt_add]
theorem zW.jsub {a b : Int} (he : zlk (zmC (zP y)) pc = some (.isub, r1, r2, r3, tg)) (q : zW ro y (pc + 1) ls (.int (Int32.ofInt (a - b)) :: st) σ Q) : zW ro y pc ls (.int (Int32.ofInt b) :: .int (Int32.ofInt a) :: st) σ Q := by
  refine zW.go he (fun rec => ?_) q
  dsimp only [zst]
  rw [Int32.ofInt_sub]
theorem zW.jmul {a b : Int} (he : zlk (zmC (zP y)) pc = some (.imul, r1, r2, r3, tg)) (q : zW ro y (pc + 1) ls (.int (Int32.ofInt (a * b)) :: st) σ Q) : zW ro y pc ls (.int (Int32.ofInt b) :: .int (Int32.ofInt a) :: st) σ Q := by
  refine zW.go he (fun rec => ?_) q
  dsimp only [zst]
  rw [Int32.ofInt_mul]
theorem zW.jneg {a : Int} (he : zlk (zmC (zP y)) pc = some (.ineg, r1, r2, r3, tg)) (q : zW ro y (pc + 1) ls (.int (Int32.ofInt (-a)) :: st) σ Q) : zW ro y pc ls (.int (Int32.ofInt a) :: st) σ Q := by
  refine zW.go he (fun rec => ?_) q
  dsimp only [zst]
  rw [Int32.ofInt_neg]
theorem zW.jinc {a n : Int} {k : Nat} {ls' : zLs} (he : zlk (zmC (zP y)) pc = some (.iinc k n, r1, r2, r3, tg)) (hl : k < ls.length) (hz : zg ls k = some (.int (Int32.ofInt a))) (hs : zs1 ls k (.int (Int32.ofInt (a + n))) = ls') (q : zW ro y (pc + 3) ls' st σ Q) : zW ro y pc ls st σ Q := by
  refine zW.go he (fun rec => ?_) q
  dsimp only [zst]
  rw [if_pos hl, hz, ← hs, Int32.ofInt_add]
theorem zW.jdiv {a b : Int} (he : zlk (zmC (zP y)) pc = some (.idiv, r1, r2, r3, tg)) (h : 0 ≤ a ∧ a < 2147483648 ∧ 0 < b ∧ b < 2147483648) (q : zW ro y (pc + 1) ls (.int (Int32.ofInt (a / b)) :: st) σ Q) : zW ro y pc ls (.int (Int32.ofInt b) :: .int (Int32.ofInt a) :: st) σ Q := by
  refine zW.idiv he ?_ ?_
  · intro h9
    have h8 : Int32.ofInt b = Int32.ofInt 0 := h9
    rw [zj_eq ⟨by omega, by omega⟩ ⟨by decide, by decide⟩] at h8
    omega
  · have h7 : Int32.ofInt a / Int32.ofInt b = Int32.ofInt (a / b) := by
      rw [← Int.tdiv_eq_ediv_of_nonneg h.1]
      exact (zj_td (by omega) (by omega)).symm
    rw [h7]
    exact q
theorem zW.jrem {a b : Int} (he : zlk (zmC (zP y)) pc = some (.irem, r1, r2, r3, tg)) (h : 0 ≤ a ∧ a < 2147483648 ∧ 0 < b ∧ b < 2147483648) (q : zW ro y (pc + 1) ls (.int (Int32.ofInt (a % b)) :: st) σ Q) : zW ro y pc ls (.int (Int32.ofInt b) :: .int (Int32.ofInt a) :: st) σ Q := by
  refine zW.irem he ?_ ?_
  · intro h9
    have h8 : Int32.ofInt b = Int32.ofInt 0 := h9
    rw [zj_eq ⟨by omega, by omega⟩ ⟨by decide, by decide⟩] at h8
    omega
  · have h7 : Int32.ofInt a / Int32.ofInt b = Int32.ofInt (a / b) := by
      rw [← Int.tdiv_eq_ediv_of_nonneg h.1]
      exact (zj_td (by omega) (by omega)).symm
    rw [h7, ← Int32.ofInt_mul, ← Int32.ofInt_sub]
    have h6 : a - a / b * b = a % b := by
      rw [Int.emod_def, Int.mul_comm]
    rw [h6]
    exact q
theorem zW.jif_eq {a : Int} {off : Int} (he : zlk (zmC (zP y)) pc = some (.ifCond .eq off, r1, r2, r3, tg)) (hr : -2147483648 ≤ a ∧ a < 2147483648) (kt : a = 0 → zW ro y r1 ls st σ Q) (kf : ¬ a = 0 → zW ro y (pc + 3) ls st σ Q) : zW ro y pc ls (.int (Int32.ofInt a) :: st) σ Q :=
  zW.if_eq he (fun h => kt ((zj_eq hr (b := 0) (by decide)).mp h)) (fun h => kf (fun q => h (congrArg Int32.ofInt q)))
theorem zW.jif_ne {a : Int} {off : Int} (he : zlk (zmC (zP y)) pc = some (.ifCond .ne off, r1, r2, r3, tg)) (hr : -2147483648 ≤ a ∧ a < 2147483648) (kt : ¬ a = 0 → zW ro y r1 ls st σ Q) (kf : a = 0 → zW ro y (pc + 3) ls st σ Q) : zW ro y pc ls (.int (Int32.ofInt a) :: st) σ Q :=
  zW.if_ne he (fun h => kt (fun q => h (congrArg Int32.ofInt q))) (fun h => kf ((zj_eq hr (b := 0) (by decide)).mp h))
theorem zW.jif_lt {a : Int} {off : Int} (he : zlk (zmC (zP y)) pc = some (.ifCond .lt off, r1, r2, r3, tg)) (hr : -2147483648 ≤ a ∧ a < 2147483648) (kt : a < 0 → zW ro y r1 ls st σ Q) (kf : 0 ≤ a → zW ro y (pc + 3) ls st σ Q) : zW ro y pc ls (.int (Int32.ofInt a) :: st) σ Q :=
  have e : (Int32.ofInt a < 0) = (a < 0) := zj_lt hr (b := 0) (by decide)
  zW.if_lt he (fun h => kt (by rw [e] at h; exact h)) (fun h => kf (by rw [e] at h; exact Int.not_lt.mp h))
theorem zW.jif_ge {a : Int} {off : Int} (he : zlk (zmC (zP y)) pc = some (.ifCond .ge off, r1, r2, r3, tg)) (hr : -2147483648 ≤ a ∧ a < 2147483648) (kt : 0 ≤ a → zW ro y r1 ls st σ Q) (kf : a < 0 → zW ro y (pc + 3) ls st σ Q) : zW ro y pc ls (.int (Int32.ofInt a) :: st) σ Q :=
  have e : (0 ≤ Int32.ofInt a) = (0 ≤ a) := zj_le (a := 0) (by decide) hr
  zW.if_ge he (fun h => kt (by rw [e] at h; exact h)) (fun h => kf (by rw [e] at h; exact Int.not_le.mp h))
theorem zW.jif_gt {a : Int} {off : Int} (he : zlk (zmC (zP y)) pc = some (.ifCond .gt off, r1, r2, r3, tg)) (hr : -2147483648 ≤ a ∧ a < 2147483648) (kt : 0 < a → zW ro y r1 ls st σ Q) (kf : a ≤ 0 → zW ro y (pc + 3) ls st σ Q) : zW ro y pc ls (.int (Int32.ofInt a) :: st) σ Q :=
  have e : (0 < Int32.ofInt a) = (0 < a) := zj_lt (a := 0) (by decide) hr
  zW.if_gt he (fun h => kt (by rw [e] at h; exact h)) (fun h => kf (by rw [e] at h; exact Int.not_lt.mp h))
theorem zW.jif_le {a : Int} {off : Int} (he : zlk (zmC (zP y)) pc = some (.ifCond .le off, r1, r2, r3, tg)) (hr : -2147483648 ≤ a ∧ a < 2147483648) (kt : a ≤ 0 → zW ro y r1 ls st σ Q) (kf : 0 < a → zW ro y (pc + 3) ls st σ Q) : zW ro y pc ls (.int (Int32.ofInt a) :: st) σ Q :=
  have e : (Int32.ofInt a ≤ 0) = (a ≤ 0) := zj_le hr (b := 0) (by decide)
  zW.if_le he (fun h => kt (by rw [e] at h; exact h)) (fun h => kf (by rw [e] at h; exact Int.not_le.mp h))
theorem zW.jcmp_eq {a b : Int} {off : Int} (he : zlk (zmC (zP y)) pc = some (.if_icmp .eq off, r1, r2, r3, tg)) (hr : -2147483648 ≤ a ∧ a < 2147483648 ∧ -2147483648 ≤ b ∧ b < 2147483648) (kt : a = b → zW ro y r1 ls st σ Q) (kf : ¬ a = b → zW ro y (pc + 3) ls st σ Q) : zW ro y pc ls (.int (Int32.ofInt b) :: .int (Int32.ofInt a) :: st) σ Q :=
  zW.icmp_eq he (fun h => kt ((zj_eq ⟨hr.1, hr.2.1⟩ hr.2.2).mp h)) (fun h => kf (fun q => h (congrArg Int32.ofInt q)))
theorem zW.jcmp_ne {a b : Int} {off : Int} (he : zlk (zmC (zP y)) pc = some (.if_icmp .ne off, r1, r2, r3, tg)) (hr : -2147483648 ≤ a ∧ a < 2147483648 ∧ -2147483648 ≤ b ∧ b < 2147483648) (kt : ¬ a = b → zW ro y r1 ls st σ Q) (kf : a = b → zW ro y (pc + 3) ls st σ Q) : zW ro y pc ls (.int (Int32.ofInt b) :: .int (Int32.ofInt a) :: st) σ Q :=
  zW.icmp_ne he (fun h => kt (fun q => h (congrArg Int32.ofInt q))) (fun h => kf ((zj_eq ⟨hr.1, hr.2.1⟩ hr.2.2).mp h))
theorem zW.jcmp_lt {a b : Int} {off : Int} (he : zlk (zmC (zP y)) pc = some (.if_icmp .lt off, r1, r2, r3, tg)) (hr : -2147483648 ≤ a ∧ a < 2147483648 ∧ -2147483648 ≤ b ∧ b < 2147483648) (kt : a < b → zW ro y r1 ls st σ Q) (kf : b ≤ a → zW ro y (pc + 3) ls st σ Q) : zW ro y pc ls (.int (Int32.ofInt b) :: .int (Int32.ofInt a) :: st) σ Q :=
  have e := zj_lt ⟨hr.1, hr.2.1⟩ hr.2.2
  zW.icmp_lt he (fun h => kt (by rw [e] at h; exact h)) (fun h => kf (by rw [e] at h; exact Int.not_lt.mp h))
theorem zW.jcmp_ge {a b : Int} {off : Int} (he : zlk (zmC (zP y)) pc = some (.if_icmp .ge off, r1, r2, r3, tg)) (hr : -2147483648 ≤ a ∧ a < 2147483648 ∧ -2147483648 ≤ b ∧ b < 2147483648) (kt : b ≤ a → zW ro y r1 ls st σ Q) (kf : a < b → zW ro y (pc + 3) ls st σ Q) : zW ro y pc ls (.int (Int32.ofInt b) :: .int (Int32.ofInt a) :: st) σ Q :=
  have e := zj_le hr.2.2 ⟨hr.1, hr.2.1⟩
  zW.icmp_ge he (fun h => kt (by rw [e] at h; exact h)) (fun h => kf (by rw [e] at h; exact Int.not_le.mp h))
theorem zW.jcmp_gt {a b : Int} {off : Int} (he : zlk (zmC (zP y)) pc = some (.if_icmp .gt off, r1, r2, r3, tg)) (hr : -2147483648 ≤ a ∧ a < 2147483648 ∧ -2147483648 ≤ b ∧ b < 2147483648) (kt : b < a → zW ro y r1 ls st σ Q) (kf : a ≤ b → zW ro y (pc + 3) ls st σ Q) : zW ro y pc ls (.int (Int32.ofInt b) :: .int (Int32.ofInt a) :: st) σ Q :=
  have e := zj_lt hr.2.2 ⟨hr.1, hr.2.1⟩
  zW.icmp_gt he (fun h => kt (by rw [e] at h; exact h)) (fun h => kf (by rw [e] at h; exact Int.not_lt.mp h))
theorem zW.jcmp_le {a b : Int} {off : Int} (he : zlk (zmC (zP y)) pc = some (.if_icmp .le off, r1, r2, r3, tg)) (hr : -2147483648 ≤ a ∧ a < 2147483648 ∧ -2147483648 ≤ b ∧ b < 2147483648) (kt : a ≤ b → zW ro y r1 ls st σ Q) (kf : b < a → zW ro y (pc + 3) ls st σ Q) : zW ro y pc ls (.int (Int32.ofInt b) :: .int (Int32.ofInt a) :: st) σ Q :=
  have e := zj_le ⟨hr.1, hr.2.1⟩ hr.2.2
  zW.icmp_le he (fun h => kt (by rw [e] at h; exact h)) (fun h => kf (by rw [e] at h; exact Int.not_le.mp h))
/-- two that are the same -/
theorem zW.jsame_eq {a b : Int} {off : Int} (he : zlk (zmC (zP y)) pc = some (.if_icmp .eq off, r1, r2, r3, tg)) (hr : a = b) (kt : zW ro y r1 ls st σ Q) : zW ro y pc ls (.int (Int32.ofInt b) :: .int (Int32.ofInt a) :: st) σ Q :=
  zW.icmp_eq he (fun _ => kt) (fun h => absurd (congrArg Int32.ofInt hr) h)
theorem zW.jsame_ne {a b : Int} {off : Int} (he : zlk (zmC (zP y)) pc = some (.if_icmp .ne off, r1, r2, r3, tg)) (hr : a = b) (kf : zW ro y (pc + 3) ls st σ Q) : zW ro y pc ls (.int (Int32.ofInt b) :: .int (Int32.ofInt a) :: st) σ Q :=
  zW.icmp_ne he (fun h => absurd (congrArg Int32.ofInt hr) h) (fun _ => kf)
theorem zW.jget {a k m j : Nat} {x : Nat} {v : Int} (he : zlk (zmC (zP y)) pc = some (.getfield x, k, j, r3, tg)) (hk : (zK0 L ++ X)[a]? = some (k, m)) (hz : ∀ (σ : zS) (p f : Nat), zfv ((zFt k).getD j .int) σ p f = .int (σ.2.1 p f)) (hv : s a j = v) (q : zW ro y (pc + 3) ls (.int (Int32.ofInt v) :: st) (zN L X (zhi s) R G nc ns) Q) : zW ro y pc ls (.ref a :: st) (zN L X (zhi s) R G nc ns) Q := by
  refine zW.getf he hk ?_ q
  rw [hz, ← hv]
  rfl
theorem zW.jput {a k m j : Nat} {x : Nat} {v : Int} (he : zlk (zmC (zP y)) pc = some (.putfield x, k, j, r3, tg)) (hk : (zK0 L ++ X)[a]? = some (k, m)) (hz : (zFt k).getD j .int = .int) (q : zW ro y (pc + 3) ls st (zN L X (zhi (zup s a j v)) R G nc ns) Q) : zW ro y pc ls (.int (Int32.ofInt v) :: .ref a :: st) (zN L X (zhi s) R G nc ns) Q := by
  refine zW.putf (σ1 := zN L X (zhi (zup s a j v)) R G nc ns) he hk (by rw [hz]; rfl) (by rw [hz]; rfl) ?_ q
  rw [← zhi_up]
  rfl
theorem zW.jputb {a k m j : Nat} {x : Nat} {v : Int} (he : zlk (zmC (zP y)) pc = some (.putfield x, k, j, r3, tg)) (hk : (zK0 L ++ X)[a]? = some (k, m)) (hn : narrow ((zFt k).getD j .int) (.int (Int32.ofInt v)) = .int (Int32.ofInt v)) (hf : fits ((zFt k).getD j .int) (.int (Int32.ofInt v)) = true) (q : zW ro y (pc + 3) ls st (zN L X (zhi (zup s a j v)) R G nc ns) Q) : zW ro y pc ls (.int (Int32.ofInt v) :: .ref a :: st) (zN L X (zhi s) R G nc ns) Q := by
  refine zW.putf (σ1 := zN L X (zhi (zup s a j v)) R G nc ns) he hk hn hf ?_ q
  rw [← zhi_up]
  rfl
theorem zW.jald {a n : Nat} {i v : Int} (he : zlk (zmC (zP y)) pc = some (.iaload, r1, r2, r3, tg)) (hk : (zK0 L ++ X)[a]? = some (100, n)) (hn : n < 2147483648) (hi : 0 ≤ i ∧ i < n) (hv : s a i.toNat = v) (q : zW ro y (pc + 1) ls (.int (Int32.ofInt v) :: st) (zN L X (zhi s) R G nc ns) Q) : zW ro y pc ls (.int (Int32.ofInt i) :: .ref a :: st) (zN L X (zhi s) R G nc ns) Q := by
  refine zW.iald (v := Int32.ofInt v) he hk (Or.inl rfl) (zj_in hi hn) ?_ q
  rw [zj_cl ⟨hi.1, by omega⟩, ← hv]
  rfl
/-- the rows that nobody writes -/
theorem zW.jals {a n : Nat} {i v : Int} (he : zlk (zmC (zP y)) pc = some (.iaload, r1, r2, r3, tg)) (hk : (zK0 L ++ X)[a]? = some (200, n)) (hn : n < 2147483648) (hi : 0 ≤ i ∧ i < n) (hv : s a i.toNat = v) (q : zW ro y (pc + 1) ls (.int (Int32.ofInt v) :: st) (zN L X (zhi s) R G nc ns) Q) : zW ro y pc ls (.int (Int32.ofInt i) :: .ref a :: st) (zN L X (zhi s) R G nc ns) Q := by
  refine zW.iald (v := Int32.ofInt v) he hk (Or.inr rfl) (zj_in hi hn) ?_ q
  rw [zj_cl ⟨hi.1, by omega⟩, ← hv]
  rfl
theorem zW.jast {a n : Nat} {i v : Int} (he : zlk (zmC (zP y)) pc = some (.iastore, r1, r2, r3, tg)) (hk : (zK0 L ++ X)[a]? = some (100, n)) (hn : n < 2147483648) (hi : 0 ≤ i ∧ i < n) (q : zW ro y (pc + 1) ls st (zN L X (zhi (zup s a i.toNat v)) R G nc ns) Q) : zW ro y pc ls (.int (Int32.ofInt v) :: .int (Int32.ofInt i) :: .ref a :: st) (zN L X (zhi s) R G nc ns) Q := by
  refine zW.iast he hk (zj_in hi hn) ?_
  rw [zj_cl ⟨hi.1, by omega⟩]
  show zW ro y (pc + 1) ls st (zN L X (zup (zhi s) a i.toNat (Int32.ofInt v)) R G nc ns) Q
  rw [zhi_up]
  exact q
theorem zW.jaald {a k n : Nat} {i : Int} {v : Value} (he : zlk (zmC (zP y)) pc = some (.aaload, r1, r2, r3, tg)) (hk : (zK0 L ++ X)[a]? = some (k, n)) (hkk : k = 103 ∨ k = 104 ∨ k = 105) (hn : n < 2147483648) (hi : 0 ≤ i ∧ i < n) (hv : va_rf (R a i.toNat) = v) (q : zW ro y (pc + 1) ls (v :: st) (zN L X (zhi s) R G nc ns) Q) : zW ro y pc ls (.int (Int32.ofInt i) :: .ref a :: st) (zN L X (zhi s) R G nc ns) Q := by
  refine zW.aald he hk hkk (zj_in hi hn) ?_ q
  rw [zj_cl ⟨hi.1, by omega⟩]
  exact hv
theorem zW.jtab {df lo hi : Int} {offs : Array Int} {x : Int} (he : zlk (zmC (zP y)) pc = some (.tableswitch df lo hi offs, r1, r2, r3, tg)) (hr : -2147483648 ≤ x ∧ x < 2147483648) (k1 : x < lo ∨ hi < x → zW ro y r2 ls st σ Q) (k2 : ∀ j t : Nat, x = lo + j → tg[j]? = some t → zW ro y t ls st σ Q) (hlen : hi + 1 ≤ lo + tg.length) : zW ro y pc ls (.int (Int32.ofInt x) :: st) σ Q :=
  zW.tab he (fun h => k1 (by rw [zj_ti hr] at h; exact h)) (fun j t h => k2 j t (by rw [zj_ti hr] at h; exact h)) hlen
theorem zW.jret {v : Int} (he : zlk (zmC (zP y)) pc = some (.ireturn, r1, r2, r3, tg)) (hr : zmR (zP y) = some .int) (hq : Q (.inl (some (.int (Int32.ofInt v)))) σ) : zW ro y pc ls [.int (Int32.ofInt v)] σ Q := zW.iret he hr rfl hq
theorem zW.jretb {v : Int} (he : zlk (zmC (zP y)) pc = some (.ireturn, r1, r2, r3, tg)) (hr : zmR (zP y) = some .boolean) (hb : v = 0 ∨ v = 1) (hq : Q (.inl (some (.int (Int32.ofInt v)))) σ) : zW ro y pc ls [.int (Int32.ofInt v)] σ Q := zW.iret he hr (by
  rcases hb with h | h <;> rw [h] <;> decide) hq
theorem zW.cut {P : Prop} (h : P) (k : P → zW ro y pc ls st σ Q) : zW ro y pc ls st σ Q := k h
end ZJR
end
section
/-! what holds of a siege that goes on (printed by program) -/
def zsm (f : Nat → Int) : Nat → Int
  | 0 => 0
  | n + 1 => zsm f n + f n
theorem zsm_eq {f k : Nat → Int} : ∀ {n : Nat}, (∀ j, j < n → k j = f j) → zsm k n = zsm f n
  | 0, _ => rfl
  | n + 1, h => by
    show zsm k n + k n = zsm f n + f n
    rw [zsm_eq (fun j hj => h j (Nat.lt_succ_of_lt hj)), h n (Nat.lt_succ_self n)]
theorem zsm_up {f k : Nat → Int} {i : Nat} (h : ∀ j, j ≠ i → k j = f j) : ∀ n : Nat, zsm k n = zsm f n + (if i < n then k i - f i else 0)
  | 0 => by simp [zsm]
  | n + 1 => by
    show zsm k n + k n = zsm f n + f n + _
    rw [zsm_up h n]
    by_cases e : n = i
    · rw [e, if_neg (Nat.lt_irrefl i), if_pos (Nat.lt_succ_self i)]
      omega
    · rw [h n e]
      by_cases c : i < n
      · rw [if_pos c, if_pos (by omega)]
        omega
      · rw [if_neg c, if_neg (by omega)]
        omega
theorem zsm_nn {f : Nat → Int} : ∀ {n : Nat}, (∀ j, j < n → 0 ≤ f j) → 0 ≤ zsm f n
  | 0, _ => Int.le_refl 0
  | n + 1, h => by
    have h1 := zsm_nn (f := f) (n := n) (fun j hj => h j (Nat.lt_succ_of_lt hj))
    have h2 := h n (Nat.lt_succ_self n)
    show 0 ≤ zsm f n + f n
    omega
theorem zsm_le {f : Nat → Int} {m : Int} : ∀ {n : Nat}, (∀ j, j < n → f j ≤ m) → zsm f n ≤ m * n
  | 0, _ => by simp [zsm]
  | n + 1, h => by
    have h1 := zsm_le (f := f) (n := n) (fun j hj => h j (Nat.lt_succ_of_lt hj))
    have h2 := h n (Nat.lt_succ_self n)
    show zsm f n + f n ≤ m * ((n : Int) + 1)
    rw [Int.mul_add, Int.mul_one]
    omega
def zb (c : Prop) (h : Decidable c) : Int := if c then 1 else 0
/-- how many squares of a work -/
def zcn (s : zJ) (w : Int) (n : Nat) : Int := zsm (fun k => if s 11 k = w then 1 else 0) n
/-- the men of a side -/
def zmm (s : zJ) (d : Int) (n : Nat) : Int := zsm (fun i => if s (42 + i) 0 = d then s (42 + i) 2 else 0) n
/-- what lies in the whole mines of a side -/
def zmc (s : zJ) (d : Int) (n : Nat) : Int := zsm (fun i => if s (54 + 2 * i) 1 = d ∧ (s (54 + 2 * i) 6 = 0 ∨ s (54 + 2 * i) 6 = 1) then s (54 + 2 * i) 4 else 0) n

def zA (g : Nat → Int) (s : zJ) : Prop := (s 8 9 = g 0 ∧ s 8 10 = g 1 ∧ s 8 11 = g 2 ∧ s 8 12 = 0 ∧ s 8 13 = g 3) ∧ (8 ≤ g 0 ∧ g 0 ≤ 12 ∧ 8 ≤ g 1 ∧ g 1 ≤ 12 ∧ 64 ≤ g 2 ∧ g 2 ≤ 144 ∧ 0 < g 3 ∧ g 3 < g 2) ∧ (∀ k : Nat, (k : Int) < g 2 → 0 ≤ s 14 k ∧ s 14 k < g 0 ∧ 0 ≤ s 15 k ∧ s 15 k < g 1 ∧ (0 < s 15 k → g 0 ≤ k) ∧ (s 15 k < g 1 - 1 → k + g 0 < g 2) ∧ (s 14 k < g 0 - 1 → (k : Int) + 1 < g 2) ∧ (0 < s 14 k → 1 ≤ (k : Int)))
def zD (B : Int) (s : zJ) : Prop := ∀ k : Nat, k < 144 → (0 ≤ s 9 k ∧ s 9 k ≤ 9) ∧ (0 ≤ s 10 k ∧ s 10 k ≤ 3) ∧ (0 ≤ s 11 k ∧ s 11 k ≤ 7) ∧ (0 ≤ s 12 k ∧ s 12 k ≤ 99) ∧ (0 ≤ s 13 k ∧ s 13 k ≤ B)
def zE (g : Nat → Int) (s : zJ) : Prop := (∀ k : Nat, k < 144 → s 11 k = 1 → 1 ≤ s 12 k) ∧ s 11 0 = 0 ∧ s 11 (g 3).toNat = 3
def zL1 (g : Nat → Int) (F B : Int) (s : zJ) : Prop := zcn s 1 (g 2).toNat + zcn s 6 (g 2).toNat ≤ g 6 ∧ g 6 ≤ zcn s 1 (g 2).toNat + s 7 13 ∧ F ≤ s 7 13 ∧ s 7 13 ≤ B ∧ 0 ≤ F
def zG1 (g : Nat → Int) (B : Int) (s : zJ) : Prop := ∀ i : Nat, i < 16 → (-1 ≤ s (26 + i) 0 ∧ s (26 + i) 0 ≤ 1) ∧ (-1 ≤ s (26 + i) 1 ∧ s (26 + i) 1 < g 2) ∧ (0 ≤ s (26 + i) 2 ∧ s (26 + i) 2 ≤ 3) ∧ (0 ≤ s (26 + i) 3 ∧ s (26 + i) 3 ≤ 3) ∧ (0 ≤ s (26 + i) 4 ∧ s (26 + i) 4 ≤ B) ∧ (0 ≤ s (26 + i) 5 ∧ s (26 + i) 5 ≤ 2) ∧ (-1 ≤ s (26 + i) 6 ∧ s (26 + i) 6 < g 2)
def zG2 (s : zJ) : Prop := ∀ i : Nat, i < 16 → (i < 3 → s (26 + i) 0 = 0) ∧ (3 ≤ i → i < 6 → s (26 + i) 0 = 1) ∧ (6 ≤ i → s (26 + i) 0 = -1) ∧ (i < 6 → 1 ≤ s (26 + i) 2 ∧ 0 ≤ s (26 + i) 1) ∧ (s (26 + i) 5 = 0 → s (26 + i) 4 ≤ 9)
def zC1 (g : Nat → Int) (s : zJ) : Prop := ∀ i : Nat, i < 12 → (-1 ≤ s (42 + i) 0 ∧ s (42 + i) 0 ≤ 1) ∧ (-1 ≤ s (42 + i) 1 ∧ s (42 + i) 1 < g 2) ∧ (0 ≤ s (42 + i) 2 ∧ s (42 + i) 2 ≤ 200) ∧ (0 ≤ s (42 + i) 3 ∧ s (42 + i) 3 ≤ 12) ∧ (0 ≤ s (42 + i) 4 ∧ s (42 + i) 4 ≤ 6) ∧ (-1 ≤ s (42 + i) 5 ∧ s (42 + i) 5 < g 2)
def zC2 (s : zJ) : Prop := ∀ i : Nat, i < 12 → (i < 4 → s (42 + i) 0 = 0) ∧ (4 ≤ i → i < 8 → s (42 + i) 0 = 1) ∧ (8 ≤ i → s (42 + i) 0 = -1 ∧ s (42 + i) 2 = 0) ∧ (i < 8 → 0 ≤ s (42 + i) 1) ∧ ((s (42 + i) 4 = 0 ∨ s (42 + i) 4 = 2 ∨ s (42 + i) 4 = 3) → s (42 + i) 5 = -1) ∧ (¬ (s (42 + i) 4 = 0 ∨ s (42 + i) 4 = 2 ∨ s (42 + i) 4 = 3) → 0 ≤ s (42 + i) 5)
def zM1 (g : Nat → Int) (s : zJ) : Prop := ∀ i : Nat, i < 6 → (-1 ≤ s (54 + 2 * i) 1 ∧ s (54 + 2 * i) 1 ≤ 1) ∧ (0 ≤ s (54 + 2 * i) 2 ∧ s (54 + 2 * i) 2 ≤ 6) ∧ (0 ≤ s (54 + 2 * i) 6 ∧ s (54 + 2 * i) 6 ≤ 3) ∧ (∀ j : Nat, j < 6 → -1 ≤ s (55 + 2 * i) j ∧ s (55 + 2 * i) j < g 2)
def zM2 (s : zJ) : Prop := (0 ≤ s 7 9 ∧ s 7 9 ≤ 6) ∧ ∀ i : Nat, i < 6 → ((i : Int) < s 7 9 → 0 ≤ s (54 + 2 * i) 1 ∧ 1 ≤ s (54 + 2 * i) 2) ∧ (s 7 9 ≤ i → s (54 + 2 * i) 1 = -1)
def zS2 (B : Int) (s : zJ) : Prop := ∀ o : Nat, o = 21 ∨ o = 22 → (0 ≤ s o 0 ∧ s o 0 ≤ B) ∧ (0 ≤ s o 1 ∧ s o 1 ≤ B) ∧ (0 ≤ s o 2 ∧ s o 2 ≤ B) ∧ (0 ≤ s o 3 ∧ s o 3 ≤ 100)
def zP1 (s : zJ) : Prop := s 21 10 = s 21 0 + zmc s 0 6 + s 21 6 ∧ s 22 10 = s 22 0 + zmc s 1 6 + s 22 6
def zN1 (g : Nat → Int) (U : Int) (s : zJ) : Prop := zmm s 0 12 + s 21 7 + s 21 9 = g 4 ∧ zmm s 1 12 + s 22 7 + s 22 9 = g 5 ∧ zmm s 0 12 + zmm s 1 12 ≤ U
def zZ1 (g : Nat → Int) (T B ph : Int) (s : zJ) : Prop := (s 7 7 = 6 ∧ s 7 8 = 8 ∧ s 7 10 = T ∧ s 7 11 = ph ∧ 0 ≤ T ∧ T ≤ 3000 ∧ 1 ≤ ph ∧ ph ≤ 2 ∧ -1 ≤ s 7 12 ∧ s 7 12 ≤ 5 ∧ 0 ≤ s 7 14 ∧ s 7 14 ≤ 1000 ∧ 0 ≤ s 7 15 ∧ s 7 15 ≤ 14 ∧ 0 ≤ B ∧ B ≤ 1000000000) ∧ (ph = 1 → s 7 12 = -1 ∧ s 7 14 = g 7) ∧ (ph = 2 → s 7 14 = g 7 ∨ s 7 14 = g 7 / 2)
def zV (g : Nat → Int) (U F T B ph : Int) (s : zJ) : Prop := zA g s ∧ zD B s ∧ zE g s ∧ zL1 g F B s ∧ zG1 g B s ∧ zG2  s ∧ zC1 g s ∧ zC2  s ∧ zM1 g s ∧ zM2  s ∧ zS2 B s ∧ zP1  s ∧ zN1 g U s ∧ zZ1 g T B ph s
theorem zA_fr {g : Nat → Int}  {s s' : zJ} (h : ∀ p f : Nat, p = 8 ∨ p = 14 ∨ p = 15 → s' p f = s p f) (q : zA g s) : zA g s' := by
  refine ⟨?_, q.2.1, fun k hk => ?_⟩
  · rw [h 8 9 (by omega), h 8 10 (by omega), h 8 11 (by omega), h 8 12 (by omega), h 8 13 (by omega)]
    exact q.1
  · have q1 := q.2.2 k hk
    rw [h 14 k (by omega), h 15 k (by omega)]
    exact q1
theorem zD_fr {B : Int}  {s s' : zJ} (h : ∀ p f : Nat, 9 ≤ p ∧ p ≤ 13 → s' p f = s p f) (q : zD B s) : zD B s' := by
  intro k hk
  have q1 := q k hk
  rw [h 9 k (by omega), h 10 k (by omega), h 11 k (by omega), h 12 k (by omega), h 13 k (by omega)]
  exact q1
theorem zE_fr {g : Nat → Int}  {s s' : zJ} (h : ∀ p f : Nat, p = 11 ∨ p = 12 → s' p f = s p f) (q : zE g s) : zE g s' := by
  refine ⟨fun k hk => ?_, ?_, ?_⟩
  · rw [h 11 k (by omega), h 12 k (by omega)]
    exact q.1 k hk
  · rw [h 11 0 (by omega)]
    exact q.2.1
  · rw [h 11 _ (by omega)]
    exact q.2.2
theorem zL1_fr {g : Nat → Int} {F B : Int}  {s s' : zJ} (h : ∀ p f : Nat, p = 11 ∨ (p = 7 ∧ f = 13) → s' p f = s p f) (q : zL1 g F B s) : zL1 g F B s' := by
  have e : ∀ w n, zcn s' w n = zcn s w n := fun w n => zsm_eq (fun j _ => by rw [h 11 j (by omega)])
  unfold zL1
  rw [e, e, h 7 13 (by omega)]
  exact q
theorem zG1_fr {g : Nat → Int} {B : Int}  {s s' : zJ} (h : ∀ p f : Nat, 26 ≤ p ∧ p < 42 ∧ f ≤ 6 → s' p f = s p f) (q : zG1 g B s) : zG1 g B s' := by
  intro i hi
  have q1 := q i hi
  rw [h (26 + i) 0 (by omega), h (26 + i) 1 (by omega), h (26 + i) 2 (by omega), h (26 + i) 3 (by omega), h (26 + i) 4 (by omega), h (26 + i) 5 (by omega), h (26 + i) 6 (by omega)]
  exact q1
theorem zG2_fr  {s s' : zJ} (h : ∀ p f : Nat, 26 ≤ p ∧ p < 42 ∧ (f ≤ 2 ∨ f = 4 ∨ f = 5) → s' p f = s p f) (q : zG2  s) : zG2  s' := by
  intro i hi
  have q1 := q i hi
  rw [h (26 + i) 0 (by omega), h (26 + i) 2 (by omega), h (26 + i) 1 (by omega), h (26 + i) 5 (by omega), h (26 + i) 4 (by omega)]
  exact q1
theorem zC1_fr {g : Nat → Int}  {s s' : zJ} (h : ∀ p f : Nat, 42 ≤ p ∧ p < 54 ∧ f ≤ 5 → s' p f = s p f) (q : zC1 g s) : zC1 g s' := by
  intro i hi
  have q1 := q i hi
  rw [h (42 + i) 0 (by omega), h (42 + i) 1 (by omega), h (42 + i) 2 (by omega), h (42 + i) 3 (by omega), h (42 + i) 4 (by omega), h (42 + i) 5 (by omega)]
  exact q1
theorem zC2_fr  {s s' : zJ} (h : ∀ p f : Nat, 42 ≤ p ∧ p < 54 ∧ f ≠ 3 ∧ f ≤ 5 → s' p f = s p f) (q : zC2  s) : zC2  s' := by
  intro i hi
  have q1 := q i hi
  rw [h (42 + i) 0 (by omega), h (42 + i) 2 (by omega), h (42 + i) 1 (by omega), h (42 + i) 4 (by omega), h (42 + i) 5 (by omega)]
  exact q1
theorem zM1_fr {g : Nat → Int}  {s s' : zJ} (h : ∀ p f : Nat, 54 ≤ p ∧ p < 66 ∧ (p % 2 = 1 ∨ (f = 1 ∨ f = 2 ∨ f = 6)) → s' p f = s p f) (q : zM1 g s) : zM1 g s' := by
  intro i hi
  have q1 := q i hi
  rw [h (54 + 2 * i) 1 (by omega), h (54 + 2 * i) 2 (by omega), h (54 + 2 * i) 6 (by omega)]
  exact ⟨q1.1, q1.2.1, q1.2.2.1, fun j hj => by rw [h (55 + 2 * i) j (by omega)]; exact q1.2.2.2 j hj⟩
theorem zM2_fr  {s s' : zJ} (h : ∀ p f : Nat, (54 ≤ p ∧ p < 66 ∧ p % 2 = 0 ∧ (f = 1 ∨ f = 2)) ∨ (p = 7 ∧ f = 9) → s' p f = s p f) (q : zM2  s) : zM2  s' := by
  refine ⟨by rw [h 7 9 (by omega)]; exact q.1, fun i hi => ?_⟩
  have q1 := q.2 i hi
  rw [h 7 9 (by omega), h (54 + 2 * i) 1 (by omega), h (54 + 2 * i) 2 (by omega)]
  exact q1
theorem zS2_fr {B : Int}  {s s' : zJ} (h : ∀ p f : Nat, (p = 21 ∨ p = 22) ∧ f ≤ 3 → s' p f = s p f) (q : zS2 B s) : zS2 B s' := by
  intro o ho
  have q1 := q o ho
  rw [h o 0 (by omega), h o 1 (by omega), h o 2 (by omega), h o 3 (by omega)]
  exact q1
theorem zP1_fr  {s s' : zJ} (h : ∀ p f : Nat, ((p = 21 ∨ p = 22) ∧ (f = 0 ∨ f = 6 ∨ f = 10)) ∨ (54 ≤ p ∧ p < 66 ∧ p % 2 = 0 ∧ (f = 1 ∨ f = 4 ∨ f = 6)) → s' p f = s p f) (q : zP1  s) : zP1  s' := by
  have e : ∀ d, zmc s' d 6 = zmc s d 6 := fun d => zsm_eq (fun j hj => by rw [h (54 + 2 * j) 1 (by omega), h (54 + 2 * j) 4 (by omega), h (54 + 2 * j) 6 (by omega)])
  unfold zP1
  rw [e, e, h 21 0 (by omega), h 21 6 (by omega), h 21 10 (by omega), h 22 0 (by omega), h 22 6 (by omega), h 22 10 (by omega)]
  exact q
theorem zN1_fr {g : Nat → Int} {U : Int}  {s s' : zJ} (h : ∀ p f : Nat, (42 ≤ p ∧ p < 54 ∧ (f = 0 ∨ f = 2)) ∨ ((p = 21 ∨ p = 22) ∧ (f = 7 ∨ f = 9)) → s' p f = s p f) (q : zN1 g U s) : zN1 g U s' := by
  have e : ∀ d, zmm s' d 12 = zmm s d 12 := fun d => zsm_eq (fun j hj => by rw [h (42 + j) 0 (by omega), h (42 + j) 2 (by omega)])
  unfold zN1
  rw [e, e, h 21 7 (by omega), h 21 9 (by omega), h 22 7 (by omega), h 22 9 (by omega)]
  exact q
theorem zZ1_fr {g : Nat → Int} {T B ph : Int}  {s s' : zJ} (h : ∀ p f : Nat, p = 7 ∧ f ≠ 9 ∧ f ≠ 13 ∧ 7 ≤ f ∧ f ≤ 15 → s' p f = s p f) (q : zZ1 g T B ph s) : zZ1 g T B ph s' := by
  unfold zZ1
  rw [h 7 7 (by omega), h 7 8 (by omega), h 7 10 (by omega), h 7 11 (by omega), h 7 12 (by omega), h 7 14 (by omega), h 7 15 (by omega)]
  exact q
section ZVP
variable {g : Nat → Int} {U F T B ph : Int} {s : zJ}
theorem zA_geo (A : zA g s) : (s 8 9 = g 0 ∧ s 8 10 = g 1 ∧ s 8 11 = g 2 ∧ s 8 12 = 0 ∧ s 8 13 = g 3) ∧ (8 ≤ g 0 ∧ g 0 ≤ 12 ∧ 8 ≤ g 1 ∧ g 1 ≤ 12 ∧ 64 ≤ g 2 ∧ g 2 ≤ 144 ∧ 0 < g 3 ∧ g 3 < g 2) := ⟨A.1, A.2.1⟩
theorem zA_cl (A : zA g s) {k : Nat} (hk : (k : Int) < g 2) : 0 ≤ s 14 k ∧ s 14 k < g 0 ∧ 0 ≤ s 15 k ∧ s 15 k < g 1 := ⟨(A.2.2 k hk).1, (A.2.2 k hk).2.1, (A.2.2 k hk).2.2.1, (A.2.2 k hk).2.2.2.1⟩
theorem zA_nx (A : zA g s) {k : Nat} (hk : (k : Int) < g 2) : (0 < s 15 k → g 0 ≤ k) ∧ (s 15 k < g 1 - 1 → k + g 0 < g 2) ∧ (s 14 k < g 0 - 1 → (k : Int) + 1 < g 2) ∧ (0 < s 14 k → 1 ≤ (k : Int)) := (A.2.2 k hk).2.2.2.2
theorem zV_zA (V : zV g U F T B ph s) : zA g s := V.1
theorem zV_zD (V : zV g U F T B ph s) : zD B s := V.2.1
theorem zV_zE (V : zV g U F T B ph s) : zE g s := V.2.2.1
theorem zV_zL1 (V : zV g U F T B ph s) : zL1 g F B s := V.2.2.2.1
theorem zV_zG1 (V : zV g U F T B ph s) : zG1 g B s := V.2.2.2.2.1
theorem zV_zG2 (V : zV g U F T B ph s) : zG2  s := V.2.2.2.2.2.1
theorem zV_zC1 (V : zV g U F T B ph s) : zC1 g s := V.2.2.2.2.2.2.1
theorem zV_zC2 (V : zV g U F T B ph s) : zC2  s := V.2.2.2.2.2.2.2.1
theorem zV_zM1 (V : zV g U F T B ph s) : zM1 g s := V.2.2.2.2.2.2.2.2.1
theorem zV_zM2 (V : zV g U F T B ph s) : zM2  s := V.2.2.2.2.2.2.2.2.2.1
theorem zV_zS2 (V : zV g U F T B ph s) : zS2 B s := V.2.2.2.2.2.2.2.2.2.2.1
theorem zV_zP1 (V : zV g U F T B ph s) : zP1  s := V.2.2.2.2.2.2.2.2.2.2.2.1
theorem zV_zN1 (V : zV g U F T B ph s) : zN1 g U s := V.2.2.2.2.2.2.2.2.2.2.2.2.1
theorem zV_zZ1 (V : zV g U F T B ph s) : zZ1 g T B ph s := V.2.2.2.2.2.2.2.2.2.2.2.2.2
theorem zV_sq (V : zV g U F T B ph s) {k : Nat} (hk : k < 144) : (0 ≤ s 9 k ∧ s 9 k ≤ 9) ∧ (0 ≤ s 10 k ∧ s 10 k ≤ 3) ∧ (0 ≤ s 11 k ∧ s 11 k ≤ 7) ∧ (0 ≤ s 12 k ∧ s 12 k ≤ 99) ∧ (0 ≤ s 13 k ∧ s 13 k ≤ B) := zV_zD V k hk
theorem zV_gun (V : zV g U F T B ph s) {i : Nat} (hi : i < 16) : (-1 ≤ s (26 + i) 0 ∧ s (26 + i) 0 ≤ 1) ∧ (-1 ≤ s (26 + i) 1 ∧ s (26 + i) 1 < g 2) ∧ (0 ≤ s (26 + i) 2 ∧ s (26 + i) 2 ≤ 3) ∧ (0 ≤ s (26 + i) 3 ∧ s (26 + i) 3 ≤ 3) ∧ (0 ≤ s (26 + i) 4 ∧ s (26 + i) 4 ≤ B) ∧ (0 ≤ s (26 + i) 5 ∧ s (26 + i) 5 ≤ 2) ∧ (-1 ≤ s (26 + i) 6 ∧ s (26 + i) 6 < g 2) := zV_zG1 V i hi
theorem zV_com (V : zV g U F T B ph s) {i : Nat} (hi : i < 12) : (-1 ≤ s (42 + i) 0 ∧ s (42 + i) 0 ≤ 1) ∧ (-1 ≤ s (42 + i) 1 ∧ s (42 + i) 1 < g 2) ∧ (0 ≤ s (42 + i) 2 ∧ s (42 + i) 2 ≤ 200) ∧ (0 ≤ s (42 + i) 3 ∧ s (42 + i) 3 ≤ 12) ∧ (0 ≤ s (42 + i) 4 ∧ s (42 + i) 4 ≤ 6) ∧ (-1 ≤ s (42 + i) 5 ∧ s (42 + i) 5 < g 2) := zV_zC1 V i hi
theorem zV_min (V : zV g U F T B ph s) {i : Nat} (hi : i < 6) : (-1 ≤ s (54 + 2 * i) 1 ∧ s (54 + 2 * i) 1 ≤ 1) ∧ (0 ≤ s (54 + 2 * i) 2 ∧ s (54 + 2 * i) 2 ≤ 6) ∧ (0 ≤ s (54 + 2 * i) 6 ∧ s (54 + 2 * i) 6 ≤ 3) := ⟨(zV_zM1 V i hi).1, (zV_zM1 V i hi).2.1, (zV_zM1 V i hi).2.2.1⟩
theorem zV_mrw (V : zV g U F T B ph s) {i j : Nat} (hi : i < 6) (hj : j < 6) : -1 ≤ s (55 + 2 * i) j ∧ s (55 + 2 * i) j < g 2 := (zV_zM1 V i hi).2.2.2 j hj
theorem zV_sid (V : zV g U F T B ph s) {o : Nat} (ho : o = 21 ∨ o = 22) : (0 ≤ s o 0 ∧ s o 0 ≤ B) ∧ (0 ≤ s o 1 ∧ s o 1 ≤ B) ∧ (0 ≤ s o 2 ∧ s o 2 ≤ B) ∧ (0 ≤ s o 3 ∧ s o 3 ≤ 100) := zV_zS2 V o ho
theorem zV_sie (V : zV g U F T B ph s) : (s 7 7 = 6 ∧ s 7 8 = 8 ∧ s 7 10 = T ∧ s 7 11 = ph ∧ 0 ≤ T ∧ T ≤ 3000 ∧ 1 ≤ ph ∧ ph ≤ 2 ∧ -1 ≤ s 7 12 ∧ s 7 12 ≤ 5 ∧ 0 ≤ s 7 14 ∧ s 7 14 ≤ 1000 ∧ 0 ≤ s 7 15 ∧ s 7 15 ≤ 14 ∧ 0 ≤ B ∧ B ≤ 1000000000) ∧ (0 ≤ s 7 9 ∧ s 7 9 ≤ 6) ∧ (0 ≤ s 7 13 ∧ s 7 13 ≤ B) := ⟨(zV_zZ1 V).1, (zV_zM2 V).1, Int.le_trans (zV_zL1 V).2.2.2.2 (zV_zL1 V).2.2.1, (zV_zL1 V).2.2.2.1⟩
theorem zV_mono {B2 : Int} (V : zV g U F T B ph s) (h : B ≤ B2) (h2 : B2 ≤ 1000000000) : zV g U F T B2 ph s := by
  obtain ⟨a1, a2, a3, a4, a5, a6, a7, a8, a9, a10, a11, a12, a13, a14⟩ := V
  refine ⟨a1, fun k hk => ?_, a3, ?_, fun i hi => ?_, a6, a7, a8, a9, a10, fun o ho => ?_, a12, a13, ?_⟩
  · have q := a2 k hk
    omega
  · unfold zL1 at *
    omega
  · have q := a5 i hi
    omega
  · have q := a11 o ho
    omega
  · unfold zZ1 at *
    omega
end ZVP
end
