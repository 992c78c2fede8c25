section
-- ===== PART A: goes FIRST, ahead of the names: the tables' words, and 'selects' of the private methods out of them =====
/-- a private method of a class that the tables say can be made, by its rows of tables_1 -/
def lw_okq (q : MethodName × Nat) : Prop := (q.1.cls ≠ "java/lang/invoke/MethodHandle" ∧ q.1.cls ≠ "java/lang/invoke/VarHandle") ∧ Cond.instantiable q.1.cls q.2 ∈ tables_1 ∧ Cond.privateMethod q.1 ∈ tables_1 ∧ Cond.instanceMethod q.1 ∈ tables_1
theorem lw_p0 : lw_okq (⟨"java/lang/Throwable", "fillInStackTrace", "(I)Ljava/lang/Throwable;"⟩, 6) := ⟨⟨by decide +kernel, by decide +kernel⟩, List.mem_of_getElem? (i := 74) (by decide +kernel), List.mem_of_getElem? (i := 72) (by decide +kernel), List.mem_of_getElem? (i := 73) (by decide +kernel)⟩
theorem lw_p1 : lw_okq (⟨"Siegelines$Ground", "bodyOverTop", "(I)I"⟩, 14) := ⟨⟨by decide +kernel, by decide +kernel⟩, List.mem_of_getElem? (i := 165) (by decide +kernel), List.mem_of_getElem? (i := 163) (by decide +kernel), List.mem_of_getElem? (i := 164) (by decide +kernel)⟩
theorem lw_p2 : lw_okq (⟨"Siegelines$Siege", "end", "(I)V"⟩, 17) := ⟨⟨by decide +kernel, by decide +kernel⟩, List.mem_of_getElem? (i := 231) (by decide +kernel), List.mem_of_getElem? (i := 229) (by decide +kernel), List.mem_of_getElem? (i := 230) (by decide +kernel)⟩
theorem lw_p3 : lw_okq (⟨"Siegelines$Post", "comeThrough", "()V"⟩, 7) := ⟨⟨by decide +kernel, by decide +kernel⟩, List.mem_of_getElem? (i := 411) (by decide +kernel), List.mem_of_getElem? (i := 409) (by decide +kernel), List.mem_of_getElem? (i := 410) (by decide +kernel)⟩
theorem lw_p4 : lw_okq (⟨"Siegelines", "sideFact", "(II)I"⟩, 2) := ⟨⟨by decide +kernel, by decide +kernel⟩, List.mem_of_getElem? (i := 432) (by decide +kernel), List.mem_of_getElem? (i := 430) (by decide +kernel), List.mem_of_getElem? (i := 431) (by decide +kernel)⟩
theorem lw_p5 : lw_okq (⟨"Siegelines", "siegeFact", "(I)I"⟩, 2) := ⟨⟨by decide +kernel, by decide +kernel⟩, List.mem_of_getElem? (i := 432) (by decide +kernel), List.mem_of_getElem? (i := 448) (by decide +kernel), List.mem_of_getElem? (i := 449) (by decide +kernel)⟩
theorem lw_p6 : lw_okq (⟨"Siegelines$Siege", "standsIn", "(I)Z"⟩, 17) := ⟨⟨by decide +kernel, by decide +kernel⟩, List.mem_of_getElem? (i := 231) (by decide +kernel), List.mem_of_getElem? (i := 456) (by decide +kernel), List.mem_of_getElem? (i := 457) (by decide +kernel)⟩
theorem lw_p7 : lw_okq (⟨"Siegelines$Siege", "standsAtBreach", "()Z"⟩, 17) := ⟨⟨by decide +kernel, by decide +kernel⟩, List.mem_of_getElem? (i := 231) (by decide +kernel), List.mem_of_getElem? (i := 462) (by decide +kernel), List.mem_of_getElem? (i := 463) (by decide +kernel)⟩
theorem lw_p8 : lw_okq (⟨"Siegelines", "squareFact", "(II)I"⟩, 2) := ⟨⟨by decide +kernel, by decide +kernel⟩, List.mem_of_getElem? (i := 432) (by decide +kernel), List.mem_of_getElem? (i := 485) (by decide +kernel), List.mem_of_getElem? (i := 486) (by decide +kernel)⟩
theorem lw_p9 : lw_okq (⟨"Siegelines", "gunFact", "(LSiegelines$Gun;I)I"⟩, 2) := ⟨⟨by decide +kernel, by decide +kernel⟩, List.mem_of_getElem? (i := 432) (by decide +kernel), List.mem_of_getElem? (i := 516) (by decide +kernel), List.mem_of_getElem? (i := 517) (by decide +kernel)⟩
theorem lw_p10 : lw_okq (⟨"Siegelines", "companyFact", "(LSiegelines$Company;I)I"⟩, 2) := ⟨⟨by decide +kernel, by decide +kernel⟩, List.mem_of_getElem? (i := 432) (by decide +kernel), List.mem_of_getElem? (i := 527) (by decide +kernel), List.mem_of_getElem? (i := 528) (by decide +kernel)⟩
theorem lw_p11 : lw_okq (⟨"Siegelines", "mineFact", "(LSiegelines$Mine;I)I"⟩, 2) := ⟨⟨by decide +kernel, by decide +kernel⟩, List.mem_of_getElem? (i := 432) (by decide +kernel), List.mem_of_getElem? (i := 535) (by decide +kernel), List.mem_of_getElem? (i := 536) (by decide +kernel)⟩
theorem lw_p12 : lw_okq (⟨"Siegelines$Siege", "isSideSound", "(I)Z"⟩, 17) := ⟨⟨by decide +kernel, by decide +kernel⟩, List.mem_of_getElem? (i := 231) (by decide +kernel), List.mem_of_getElem? (i := 553) (by decide +kernel), List.mem_of_getElem? (i := 554) (by decide +kernel)⟩
theorem lw_p13 : lw_okq (⟨"Siegelines$Siege", "areMenSound", "()Z"⟩, 17) := ⟨⟨by decide +kernel, by decide +kernel⟩, List.mem_of_getElem? (i := 231) (by decide +kernel), List.mem_of_getElem? (i := 558) (by decide +kernel), List.mem_of_getElem? (i := 559) (by decide +kernel)⟩
theorem lw_p14 : lw_okq (⟨"Siegelines$Siege", "isGroundSound", "()Z"⟩, 17) := ⟨⟨by decide +kernel, by decide +kernel⟩, List.mem_of_getElem? (i := 231) (by decide +kernel), List.mem_of_getElem? (i := 562) (by decide +kernel), List.mem_of_getElem? (i := 563) (by decide +kernel)⟩
theorem lw_p15 : lw_okq (⟨"Siegelines$Ground", "raiseFort", "()V"⟩, 14) := ⟨⟨by decide +kernel, by decide +kernel⟩, List.mem_of_getElem? (i := 165) (by decide +kernel), List.mem_of_getElem? (i := 1028) (by decide +kernel), List.mem_of_getElem? (i := 1029) (by decide +kernel)⟩
def lw_privs_1 : List (MethodName × Nat) := [(⟨"java/lang/Throwable", "fillInStackTrace", "(I)Ljava/lang/Throwable;"⟩, 6), (⟨"Siegelines$Ground", "bodyOverTop", "(I)I"⟩, 14), (⟨"Siegelines$Siege", "end", "(I)V"⟩, 17), (⟨"Siegelines$Post", "comeThrough", "()V"⟩, 7), (⟨"Siegelines", "sideFact", "(II)I"⟩, 2), (⟨"Siegelines", "siegeFact", "(I)I"⟩, 2), (⟨"Siegelines$Siege", "standsIn", "(I)Z"⟩, 17), (⟨"Siegelines$Siege", "standsAtBreach", "()Z"⟩, 17), (⟨"Siegelines", "squareFact", "(II)I"⟩, 2), (⟨"Siegelines", "gunFact", "(LSiegelines$Gun;I)I"⟩, 2), (⟨"Siegelines", "companyFact", "(LSiegelines$Company;I)I"⟩, 2), (⟨"Siegelines", "mineFact", "(LSiegelines$Mine;I)I"⟩, 2), (⟨"Siegelines$Siege", "isSideSound", "(I)Z"⟩, 17), (⟨"Siegelines$Siege", "areMenSound", "()Z"⟩, 17), (⟨"Siegelines$Siege", "isGroundSound", "()Z"⟩, 17), (⟨"Siegelines$Ground", "raiseFort", "()V"⟩, 14)]
theorem lw_r1 : ∀ q ∈ lw_privs_1, lw_okq q := List.forall_mem_cons.mpr ⟨lw_p0, List.forall_mem_cons.mpr ⟨lw_p1, List.forall_mem_cons.mpr ⟨lw_p2, List.forall_mem_cons.mpr ⟨lw_p3, List.forall_mem_cons.mpr ⟨lw_p4, List.forall_mem_cons.mpr ⟨lw_p5, List.forall_mem_cons.mpr ⟨lw_p6, List.forall_mem_cons.mpr ⟨lw_p7, List.forall_mem_cons.mpr ⟨lw_p8, List.forall_mem_cons.mpr ⟨lw_p9, List.forall_mem_cons.mpr ⟨lw_p10, List.forall_mem_cons.mpr ⟨lw_p11, List.forall_mem_cons.mpr ⟨lw_p12, List.forall_mem_cons.mpr ⟨lw_p13, List.forall_mem_cons.mpr ⟨lw_p14, List.forall_mem_cons.mpr ⟨lw_p15, fun _ h => absurd h List.not_mem_nil⟩⟩⟩⟩⟩⟩⟩⟩⟩⟩⟩⟩⟩⟩⟩⟩
theorem lw_p16 : lw_okq (⟨"Siegelines$Ground", "digDitch", "()V"⟩, 14) := ⟨⟨by decide +kernel, by decide +kernel⟩, List.mem_of_getElem? (i := 165) (by decide +kernel), List.mem_of_getElem? (i := 1032) (by decide +kernel), List.mem_of_getElem? (i := 1033) (by decide +kernel)⟩
theorem lw_p17 : lw_okq (⟨"Siegelines$Ground", "openGate", "()V"⟩, 14) := ⟨⟨by decide +kernel, by decide +kernel⟩, List.mem_of_getElem? (i := 165) (by decide +kernel), List.mem_of_getElem? (i := 1037) (by decide +kernel), List.mem_of_getElem? (i := 1038) (by decide +kernel)⟩
theorem lw_p18 : lw_okq (⟨"Siegelines", "signOf", "(I)C"⟩, 2) := ⟨⟨by decide +kernel, by decide +kernel⟩, List.mem_of_getElem? (i := 432) (by decide +kernel), List.mem_of_getElem? (i := 1121) (by decide +kernel), List.mem_of_getElem? (i := 1122) (by decide +kernel)⟩
def lw_privs_2 : List (MethodName × Nat) := [(⟨"Siegelines$Ground", "digDitch", "()V"⟩, 14), (⟨"Siegelines$Ground", "openGate", "()V"⟩, 14), (⟨"Siegelines", "signOf", "(I)C"⟩, 2)]
theorem lw_r2 : ∀ q ∈ lw_privs_2, lw_okq q := List.forall_mem_cons.mpr ⟨lw_p16, List.forall_mem_cons.mpr ⟨lw_p17, List.forall_mem_cons.mpr ⟨lw_p18, fun _ h => absurd h List.not_mem_nil⟩⟩⟩
def lw_privs : List (MethodName × Nat) := lw_privs_1 ++ (lw_privs_2)
def lw_tbl : List Cond := k2_sels lw_privs ++ tables_1
theorem lw_privs_ok : ∀ q ∈ lw_privs, lw_okq q := by
  show ∀ q ∈ lw_privs_1 ++ (lw_privs_2), lw_okq q
  exact List.forall_mem_append.mpr ⟨lw_r1, lw_r2⟩
-- ===== end of PART A; then your names; then what follows =====
end
section
/-! ===== BEGIN words of one list among another's, by their places ===== -/
theorem goodIn_r {big : List Cond} (ws : List Cond) (ps : List Nat) (hp : ws = ps.filterMap (fun i => big[i]?)) (h : ws.all goodWord = true) : GoodIn big ws := by
  intro w hw
  have h1 := List.all_eq_true.mp h w hw
  rw [hp] at hw
  obtain ⟨i, -, hi⟩ := List.mem_filterMap.mp hw
  have hm : w ∈ big := by first | exact List.mem_of_getElem? hi | exact List.getElem?_mem hi
  exact ⟨hm, good_of_word h1⟩
theorem goodIn_app {big a b : List Cond} (ha : GoodIn big a) (hb : GoodIn big b) : GoodIn big (a ++ b) := fun w h => (List.mem_append.mp h).elim (ha w) (hb w)
theorem goodIn_ca {big a b : List Cond} {c : Cond} (ha : GoodIn big (c :: a)) (hb : GoodIn big b) : GoodIn big (c :: (a ++ b)) := fun w h => (List.mem_cons.mp h).elim (fun e => ha w (List.mem_cons.mpr (Or.inl e))) (fun h => (List.mem_append.mp h).elim (fun h => ha w (List.mem_cons.mpr (Or.inr h))) (hb w))
theorem goodIn_sub {big ws : List Cond} (hm : ∀ w ∈ ws, w ∈ big) (h : ws.all goodWord = true) : GoodIn big ws := fun w hw => ⟨hm w hw, good_of_word (List.all_eq_true.mp h w hw)⟩
/-! ===== END ===== -/
/-! ===== BEGIN exceptions that leave a method, and their catching by the caller (launches without stack traces) ===== -/
section VXA
/-! The laws vx_back, vx_callV, vx_callS, vx_callSW, vx_throw0, vx_throwS follow proofs of the library, with one case more: JvmDerived/Free/Laws.lean (Back.of_free), Shelf42/LK1.lean (callV, callS), Shelf/KitTraced.lean (throwNew0V, throwNewS). -/
/-- where a method has thrown q: the class by its name, the cell, what was written, the world -/
def vx_T (XC : String → State → State → Prop) (st : State) (q : Addr) (t : State) (mc ms : Nat) (free : Addr → Prop) : Prop :=
  ∃ (E : String) (ce : Cell) (L : List Loc), XC E st t ∧ t.heap[q]? = some ce ∧ ce.vm = .none ∧ st.vm.findClass E = some ce.cls ∧ st.WarmedH t.vm ∧ st.sameButNew ({ t with vm := st.vm } : State) L mc ms ∧ ∀ z ∈ L, free z.base
def vx_Q (Qc : Array Value → State → Outcome → State → Prop) (XC : String → State → State → Prop) (mc ms : Nat) (free : Addr → Prop) : Array Value → State → Outcome → State → Prop := fun a st o t =>
  (Qc a st o t ∧ ∃ L, FrameEnd st o t L mc ms ∧ ∀ q ∈ L, free q.base) ∨ ∃ q, o = .threw q ∧ vx_T XC st q t mc ms free
/-- a callee that returns or throws -/
def vx_Met (l : Launch) (y : MethodName) (ws : List Cond) (rm : Room) (Pc : Array Value → State → Prop) (Qc : Array Value → State → Outcome → State → Prop) (XC : String → State → State → Prop) (mc ms : Nat) (free : Addr → Prop) : Prop :=
  MetFree l y (headSpec ws rm) Pc (fun _ _ _ _ _ => True) (vx_Q Qc XC mc ms free)
def vx_Post (XC : String → State → State → Prop) (mc ms : Nat) (free : Addr → Prop) : Pt → Array Value → Addr → Pt → Prop := fun A a q B =>
  ∃ (g : JFrame) (mk : MethodId) (t : State) (L : List Loc) (E : String) (ce : Cell), B.U.heap = t.heap ∧ B.U.vm = t.vm ∧ XC E (A.U.calling g mk a) t ∧ t.heap[q]? = some ce ∧ ce.vm = .none ∧ A.U.vm.findClass E = some ce.cls ∧ B.locs = A.locs ++ L ∧ (∀ z ∈ L, free z.base) ∧ B.cells = A.cells + mc ∧ B.slots = A.slots + ms
def vx_Back (l : Launch) (R : Room) (p : Program) (e : Env) (below : List Frame) (s : State) (sargs : Array Value) (y : MethodName) (len W9 : Nat)
    (Pre : Pt → Array Value → Prop) (Post : Pt → Array Value → Option Value → Pt → Prop) (PostX : Pt → Array Value → Addr → Pt → Prop) : Prop :=
  ∀ (m : MethodId) (meth : Method) (c : Code) (A : Pt) (g : JFrame) (ig : Instr) (mk : MethodId) (a : Array Value),
    Stand p l e R s m sargs below meth c A.U A.locs A.cells A.slots → g.method = m → g.locals.size = c.maxLocals → decode c.code g.pc = .ok (ig, len) →
    2 * g.monitorRoom + (g.stack.map fun v => v.category).sum ≤ W9 → A.U.methodNamed? y = some mk → Pre A a →
    (∃ (v : Option Value) (B : Pt), Stand p l e R s m sargs below meth c B.U B.locs B.cells B.slots ∧ Post A a v B ∧
      Steps p.tables e below (doInvoke e (A.U.setTop g) [] mk a).1 (B.U.setTop { g with pc := g.pc + len, stack := v.toList ++ g.stack })) ∨
    (∃ (q : Addr) (B : Pt), Stand p l e R s m sargs below meth c B.U B.locs B.cells B.slots ∧ PostX A a q B ∧
      Steps p.tables e below (doInvoke e (A.U.setTop g) [] mk a).1 ((B.U.setTop g).pushFrame (.throwing q)))
section Payer
variable {l : Launch} {R : Room} {p : Program} {e : Env} {below : List Frame} {s : State} {sargs : Array Value} {y : MethodName} {len W9 : Nat}
theorem vx_back {ws : List Cond} {rm : Room} {Pc : Array Value → State → Prop} {Qc : Array Value → State → Outcome → State → Prop} {XC : String → State → State → Prop} {mc ms : Nat} {free : Addr → Prop} {bytes : ByteArray} {maxL : Nat} {ret : Option FieldType}
    (hM : vx_Met l y ws rm Pc Qc XC mc ms free) (hblind : FrameBlind Pc) (hrc : rm.cells = mc) (hrs : rm.slots = ms)
    (hframes : rm.frames + 1 ≤ R.frames) (hlocals : W9 + (maxL + 11) + rm.locals ≤ R.locals)
    (hws : ∀ w ∈ ws, ∀ a' U, s.WarmedH U.vm → w.before a' U = true) (hcode : Cond.code y bytes maxL ret ∈ ws) (hinit : ∀ a' U, s.WarmedH U.vm → (Cond.initialized y.cls).before a' U = true) :
    vx_Back l R p e below s sargs y len W9 (PreOf R mc ms Pc) (PostOf Qc mc ms free) (vx_Post XC mc ms free) := by
  intro m meth c A g ig mk a X hg hsize hdg hW hn hp
  have h1 : (headSpec ws rm).pre.before a A.U = true := atoms_intro fun w hw => hws w hw _ _ X.warmed
  have h2 : (Cond.code y bytes maxL ret).before a A.U = true := hws _ hcode _ _ X.warmed
  have h3 : (Cond.initialized y.cls).before a A.U = true := hinit _ _ X.warmed
  have h4 : A.cells + (headSpec ws rm).room.cells ≤ R.cells := by rw [show (headSpec ws rm).room.cells = mc from hrc]; exact hp.1
  have h5 : A.slots + (headSpec ws rm).room.slots ≤ R.slots := by rw [show (headSpec ws rm).room.slots = ms from hrs]; exact hp.2.1
  have hPc : Pc a (A.U.calling g mk a) := hblind _ _ _ _ hp.2.2
  obtain ⟨U, Ls, c0, s0⟩ := A
  dsimp only [Pt.U, Pt.locs, Pt.cells, Pt.slots] at h1 h2 h3 h4 h5 X hn hPc ⊢
  obtain ⟨methY, cY, hmY, hcY, -, hlY, -, -, -, -⟩ := Cond.code_spec hn h2
  obtain ⟨kY, hkY, -⟩ := className_of_methodNamed hn
  have hinitY : kY.init = .initialized := Cond.initialized_spec (findClass_of_methodNamed hn) hkY h3
  have h : At U g.method c below := by rw [hg]; exact X.here
  have hlocals9 : W9 + (maxL + 11) + (headSpec ws rm).room.locals ≤ R.locals := hlocals
  have happ : (headSpec ws rm).appliesLoose y e.platform (U.calling g mk a) = true :=
    Spec.appliesLoose_calling (g := g) h hdg hn hkY hinitY
      (X.room_calling (g := g) (R' := (headSpec ws rm).room) hsize hmY hcY hframes (by rw [hlY]; omega) h4 h5) h1
  obtain ⟨mid, hmid⟩ := h.above
  have hfr : (U.setTop g).frames = (.java g :: mid) ++ below := by rw [State.frames_setTop' g h.top, hmid]; rfl
  obtain ⟨o, s₂, hsteps, -, hend, hq⟩ := Steps.callFree hM p X.admits X.cas X.clock (acts := []) hfr happ hPc trivial
  have hq' : vx_Q Qc XC mc ms free a (U.calling g mk a) o s₂ := hq
  rw [State.frames_setTop' g h.top] at hend
  obtain ⟨g₀, hg0⟩ := Option.isSome_iff_exists.mp h.top
  obtain ⟨r, hr⟩ := State.topJava?_eq_some.mp hg0
  have hr' : (({ U with heap := s₂.heap, slotsUsed := s₂.slotsUsed } : State).setVm s₂.vm).frames = .java g₀ :: r := hr
  rcases hq' with ⟨hqc, L, hfe, hL⟩ | ⟨q, rfl, E, ce, L, hx, hce, hcv, hcl, hW₂, hsm, hL⟩
  · obtain ⟨⟨v, rfl⟩, hW₂, e2, q2, q3, q4, q5, q6⟩ := id hfe
    have e3 : s₂ = ({ (U.calling g mk a).setFrames s₂.frames with heap := s₂.heap, slotsUsed := s₂.slotsUsed } : State).setVm s₂.vm := by
      have : s₂ = ({ s₂ with vm := (U.calling g mk a).vm } : State).setVm s₂.vm := rfl
      rw [e2] at this
      exact this
    obtain ⟨c₂, i₂, len₂, hc₂, hd₂, hf₂⟩ := hend
    have hW' : U.WarmedH s₂.vm := hW₂
    have hcc : c₂ = c := by
      have h1 : s₂.code? g.method = U.code? g.method := by
        rw [State.code?_eq, State.code?_eq, hW'.alike.method?]
      exact Option.some.inj (hc₂.symm.trans (h1.trans h.code))
    subst hcc
    have hlen : len₂ = len := by rw [hdg] at hd₂; cases hd₂; rfl
    subst hlen
    have hs₂ : s₂ = (({ U with heap := s₂.heap, slotsUsed := s₂.slotsUsed } : State).setVm s₂.vm).setTop { g with pc := g.pc + len₂, stack := v.toList ++ g.stack } := by
      refine e3.trans ?_
      rw [hf₂, State.calling_eq h.top, State.setFrames_setFrames, State.setTop_of_frames _ hr', hr]
      rfl
    have hsame : U.sameButNew ({ U with heap := s₂.heap, slotsUsed := s₂.slotsUsed } : State) L mc ms := by
      refine ⟨?_, q2, q3, q4, q5, q6⟩
      obtain ⟨t, ht, -⟩ := State.frames_cons hr
      show ({ U with heap := s₂.heap, slotsUsed := s₂.slotsUsed } : State) = { U.setFrames U.frames with heap := s₂.heap, slotsUsed := s₂.slotsUsed }
      rw [State.setFrames_self ht]
    subst hg
    refine Or.inl ⟨v, ⟨(({ U with heap := s₂.heap, slotsUsed := s₂.slotsUsed } : State).setVm s₂.vm), Ls ++ L, c0 + mc, s0 + ms⟩,
      ⟨X.admits, X.cas, X.clock, X.frames, X.room, X.hears, X.method, X.code, (X.here.setHeapUsed s₂.heap s₂.slotsUsed).setVm hW'.alike, X.tail, State.WarmedH.trans X.warmed hW', X.limits, X.bytes, X.same.trans (hsame.setVm s.vm)⟩,
      ⟨g, mk, s₂, L, rfl, rfl, hqc, rfl, hL, rfl, rfl⟩, ?_⟩
    show Steps p.tables e below _ ((({ U with heap := s₂.heap, slotsUsed := s₂.slotsUsed } : State).setVm s₂.vm).setTop { g with pc := g.pc + len₂, stack := v.toList ++ g.stack })
    rw [← hs₂]
    exact hsteps
  · obtain ⟨e2, q2, q3, q4, q5, q6⟩ := id hsm
    have e3 : s₂ = ({ (U.calling g mk a).setFrames s₂.frames with heap := s₂.heap, slotsUsed := s₂.slotsUsed } : State).setVm s₂.vm := by
      have : s₂ = ({ s₂ with vm := (U.calling g mk a).vm } : State).setVm s₂.vm := rfl
      rw [e2] at this
      exact this
    have hf₂ : s₂.frames = .throwing q :: .java g :: U.frames.tail := hend
    have hW' : U.WarmedH s₂.vm := hW₂
    have hs₂ : s₂ = ((({ U with heap := s₂.heap, slotsUsed := s₂.slotsUsed } : State).setVm s₂.vm).setTop g).pushFrame (.throwing q) := by
      refine e3.trans ?_
      rw [hf₂, State.calling_eq h.top, State.setFrames_setFrames, State.pushFrame, State.frames_setTop _ hr', State.setTop_of_frames _ hr', State.setFrames_setFrames, hr]
      rfl
    have hsame : U.sameButNew ({ U with heap := s₂.heap, slotsUsed := s₂.slotsUsed } : State) L mc ms := by
      refine ⟨?_, q2, q3, q4, q5, q6⟩
      obtain ⟨t, ht, -⟩ := State.frames_cons hr
      show ({ U with heap := s₂.heap, slotsUsed := s₂.slotsUsed } : State) = { U.setFrames U.frames with heap := s₂.heap, slotsUsed := s₂.slotsUsed }
      rw [State.setFrames_self ht]
    subst hg
    refine Or.inr ⟨q, ⟨(({ U with heap := s₂.heap, slotsUsed := s₂.slotsUsed } : State).setVm s₂.vm), Ls ++ L, c0 + mc, s0 + ms⟩,
      ⟨X.admits, X.cas, X.clock, X.frames, X.room, X.hears, X.method, X.code, (X.here.setHeapUsed s₂.heap s₂.slotsUsed).setVm hW'.alike, X.tail, State.WarmedH.trans X.warmed hW', X.limits, X.bytes, X.same.trans (hsame.setVm s.vm)⟩,
      ⟨g, mk, s₂, L, E, ce, rfl, rfl, hx, hce, hcv, hcl, rfl, hL, rfl, rfl⟩, ?_⟩
    show Steps p.tables e below _ (((({ U with heap := s₂.heap, slotsUsed := s₂.slotsUsed } : State).setVm s₂.vm).setTop g).pushFrame (.throwing q))
    rw [← hs₂]
    exact hsteps
end Payer
section Calls
variable {p : Program} {l : Launch} {e : Env} {R : Room} {s : State} {m : MethodId} {args : Array Value} {below : List Frame} {meth : Method} {c : Code} {T : State} {locs : List Loc} {cells slots : Nat}
theorem vx_callV (X : Stand p l e R s m args below meth c T locs cells slots) (hexec : p.tables.exec = Jvm.exec) {own C : String} {index : Nat} {y : MethodName} {bytes : ByteArray} {maxL : Nat} {ret : Option FieldType}
    (hown : s.vm.findClass own = some m.cls) (hlink : (Cond.methodLink own index y).before args s = true) (hinst : (Cond.instanceMethod y).before args s = true) (hsel : (Cond.selects C y y).before args s = true)
    (hcode : (Cond.code y bytes maxL ret).before args s = true) (hy : y.cls ≠ "java/lang/invoke/MethodHandle" ∧ y.cls ≠ "java/lang/invoke/VarHandle")
    {W9 : Nat} {Pre : Pt → Array Value → Prop} {Post : Pt → Array Value → Option Value → Pt → Prop} {PostX : Pt → Array Value → Addr → Pt → Prop} (hK : vx_Back l R p e below s args y 3 W9 Pre Post PostX)
    {b : Addr} {cellB : Cell} (hcell : T.heap[b]? = some cellB) (hobj : cellB.vm.isStatics = false) (hcls : s.vm.findClass C = some cellB.cls)
    {g : JFrame} (hg : g.method = m) (hsize : g.locals.size = c.maxLocals) {argsL rest : List Value} (hlen : ∀ sig, parseMethodDescriptor y.desc = some sig → argsL.length = sig.parameters.length)
    (hstack : g.stack = argsL.reverse ++ .ref b :: rest) (hW : 2 * g.monitorRoom + (rest.map fun v => v.category).sum ≤ W9) (hdg : decode c.code g.pc = .ok (.invokevirtual index, 3))
    (hpre : ∀ vm₁, s.WarmedH vm₁ → Pre ⟨T.setVm vm₁, locs, cells, slots⟩ (Value.ref b :: argsL).toArray) :
    (∃ (v : Option Value) (vm₁ : Vm) (B : Pt), s.WarmedH vm₁ ∧ Stand p l e R s m args below meth c B.U B.locs B.cells B.slots ∧ Post ⟨T.setVm vm₁, locs, cells, slots⟩ (Value.ref b :: argsL).toArray v B ∧
      ∀ target, Steps p.tables e below (B.U.setTop { g with pc := g.pc + 3, stack := v.toList ++ rest }) target → Steps p.tables e below (T.setTop g) target) ∨
    (∃ (q : Addr) (vm₁ : Vm) (B : Pt), s.WarmedH vm₁ ∧ Stand p l e R s m args below meth c B.U B.locs B.cells B.slots ∧ PostX ⟨T.setVm vm₁, locs, cells, slots⟩ (Value.ref b :: argsL).toArray q B ∧
      Steps p.tables e below (T.setTop g) ((B.U.setTop { g with stack := rest }).pushFrame (.throwing q))) := by
  obtain ⟨mk, methM, hnamed, hmethM, hstM, habM⟩ := Cond.instanceMethod_spec hinst
  obtain ⟨methM', cM, hmethM', -, -, -, -, -, -, hsigM⟩ := Cond.code_spec hnamed hcode
  cases hmethM.symm.trans hmethM'
  obtain ⟨c2, r2, m2, q1, q2, q3, q4, kP, hkP, hkPi⟩ := Cond.selects_spec hsel
  cases hcls.symm.trans q1
  cases (State.methodFound?_of_named hnamed hy).symm.trans q2
  cases hnamed.symm.trans q3
  have hselP : selectMethod e.platform s.vm cellB.cls mk = .method mk := by rw [Launch.admits_selectMethod X.admits]; exact q4
  obtain ⟨vm₁, X₁, hstep₁⟩ := X.invokevirtual hexec hown hlink hnamed hmethM hstM hkP hkPi hy (a := b) (cell := cellB) hcell
    (fun z h => by rw [h] at hobj; cases hobj) hselP hmethM habM hkP hkPi (g := g) hg (argsL := argsL) (rest := rest) (hlen _ hsigM) hstack hdg
  rcases hK m meth c ⟨T.setVm vm₁, locs, cells, slots⟩ { g with stack := rest } (.invokevirtual index) mk (Value.ref b :: argsL).toArray X₁ hg hsize hdg hW (X₁.named hnamed) (hpre vm₁ X₁.warmed) with ⟨v, B, X', hpost, hsteps⟩ | ⟨q, B, X', hpost, hsteps⟩
  · exact Or.inl ⟨v, vm₁, B, X₁.warmed, X', hpost, fun target h => hstep₁ _ fun acts => by rw [doInvoke_state]; exact hsteps.trans h⟩
  · exact Or.inr ⟨q, vm₁, B, X₁.warmed, X', hpost, hstep₁ _ fun acts => by rw [doInvoke_state]; exact hsteps⟩
theorem vx_callS (X : Stand p l e R s m args below meth c T locs cells slots) (hexec : p.tables.exec = Jvm.exec) {own : String} {index : Nat} {y : MethodName} {bytes : ByteArray} {maxL : Nat} {ret : Option FieldType}
    (hown : s.vm.findClass own = some m.cls) (hlink : (Cond.methodLink own index y).before args s = true) (hstat : (Cond.static y).before args s = true) (hinit : (Cond.initialized y.cls).before args s = true)
    (hcode : (Cond.code y bytes maxL ret).before args s = true) (hy : y.cls ≠ "java/lang/invoke/MethodHandle" ∧ y.cls ≠ "java/lang/invoke/VarHandle")
    {W9 : Nat} {Pre : Pt → Array Value → Prop} {Post : Pt → Array Value → Option Value → Pt → Prop} {PostX : Pt → Array Value → Addr → Pt → Prop} (hK : vx_Back l R p e below s args y 3 W9 Pre Post PostX)
    {g : JFrame} (hg : g.method = m) (hsize : g.locals.size = c.maxLocals) {argsL rest : List Value} (hlen : ∀ sig, parseMethodDescriptor y.desc = some sig → argsL.length = sig.parameters.length)
    (hstack : g.stack = argsL.reverse ++ rest) (hW : 2 * g.monitorRoom + (rest.map fun v => v.category).sum ≤ W9) (hdg : decode c.code g.pc = .ok (.invokestatic index, 3))
    (hpre : ∀ vm₁, s.WarmedH vm₁ → Pre ⟨T.setVm vm₁, locs, cells, slots⟩ argsL.toArray) :
    (∃ (v : Option Value) (vm₁ : Vm) (B : Pt), s.WarmedH vm₁ ∧ Stand p l e R s m args below meth c B.U B.locs B.cells B.slots ∧ Post ⟨T.setVm vm₁, locs, cells, slots⟩ argsL.toArray v B ∧
      ∀ target, Steps p.tables e below (B.U.setTop { g with pc := g.pc + 3, stack := v.toList ++ rest }) target → Steps p.tables e below (T.setTop g) target) ∨
    (∃ (q : Addr) (vm₁ : Vm) (B : Pt), s.WarmedH vm₁ ∧ Stand p l e R s m args below meth c B.U B.locs B.cells B.slots ∧ PostX ⟨T.setVm vm₁, locs, cells, slots⟩ argsL.toArray q B ∧
      Steps p.tables e below (T.setTop g) ((B.U.setTop { g with stack := rest }).pushFrame (.throwing q))) := by
  obtain ⟨mk, hnamed⟩ := Cond.code_named hcode
  obtain ⟨methM, cM, hmethM, -, -, -, -, -, -, hsigM⟩ := Cond.code_spec hnamed hcode
  have hstatic : methM.isStatic = true := Cond.static_spec hnamed hmethM hstat
  obtain ⟨kP, hkP, -⟩ := className_of_methodNamed hnamed
  have hinitP : kP.init = .initialized := Cond.initialized_spec (findClass_of_methodNamed hnamed) hkP hinit
  obtain ⟨vm₁, X₁, hstep₁⟩ := X.invokestatic hexec hown hlink hnamed hmethM hstatic hkP hinitP hy (g := g) hg (argsL := argsL) (rest := rest) (hlen _ hsigM) hstack hdg
  rcases hK m meth c ⟨T.setVm vm₁, locs, cells, slots⟩ { g with stack := rest } (.invokestatic index) mk argsL.toArray X₁ hg hsize hdg hW (X₁.named hnamed) (hpre vm₁ X₁.warmed) with ⟨v, B, X', hpost, hsteps⟩ | ⟨q, B, X', hpost, hsteps⟩
  · exact Or.inl ⟨v, vm₁, B, X₁.warmed, X', hpost, fun target h => hstep₁ _ fun acts => by rw [doInvoke_state]; exact hsteps.trans h⟩
  · exact Or.inr ⟨q, vm₁, B, X₁.warmed, X', hpost, hstep₁ _ fun acts => by rw [doInvoke_state]; exact hsteps⟩
end Calls
theorem vx_cls {s : State} {T : State} {vm₁ : Vm} {E : String} {k : ClassId} (hW : s.WarmedH vm₁) (h : (T.setVm vm₁).vm.findClass E = some k) : s.vm.findClass E = some k := by
  have h1 : vm₁.findClass E = some k := h
  rw [hW.alike.findClass] at h1
  exact h1
/-- the method's frame g, with q thrown over it -/
def vx_W (p : Program) (l : Launch) (e : Env) (R : Room) (s : State) (m : MethodId) (args : Array Value) (below : List Frame) (meth : Method) (c : Code) (H : Heap) (locs : List Loc) (cells slots : Nat) (Q : State → Prop) (g : JFrame) (q : Addr) : Prop :=
  ∀ T : State, T.heap = H → Stand p l e R s m args below meth c T locs cells slots → ∃ t, Steps p.tables e below ((T.setTop g).pushFrame (.throwing q)) t ∧ Q t
def vx_Run (p : Program) (l : Launch) (e : Env) (R : Room) (s : State) (m : MethodId) (args : Array Value) (below : List Frame) (meth : Method) (c : Code) (H : Heap) (locs : List Loc) (cells slots mc ms : Nat) (g : JFrame) (rest : List Value) (Qa : State → Outcome → State → Prop) (XC : String → State → State → Prop) (free : Addr → Prop) : Prop :=
  ∀ T : State, T.heap = H → Stand p l e R s m args below meth c T locs cells slots →
    (∃ (v : Option Value) (st₀ t T' : State) (L : List Loc), st₀.heap = H ∧ Stand p l e R s m args below meth c T' (locs ++ L) (cells + mc) (slots + ms) ∧ (∀ q ∈ L, free q.base) ∧ T'.heap = t.heap ∧ T'.vm = t.vm ∧ Qa st₀ (.returned v) t ∧
      Goes p e below T g T' { g with pc := g.pc + 3, stack := v.toList ++ rest }) ∨
    (∃ (q : Addr) (st₀ t T' : State) (L : List Loc) (E : String) (ce : Cell), st₀.heap = H ∧ Stand p l e R s m args below meth c T' (locs ++ L) (cells + mc) (slots + ms) ∧ (∀ z ∈ L, free z.base) ∧ T'.heap = t.heap ∧ T'.vm = t.vm ∧ XC E st₀ t ∧ t.heap[q]? = some ce ∧ ce.vm = .none ∧ s.vm.findClass E = some ce.cls ∧
      Steps p.tables e below (T.setTop g) ((T'.setTop { g with stack := rest }).pushFrame (.throwing q)))
def vx_X {S : Type} (px : S → Prop) (B : String → S → State → Prop) (A : Nat → Prop) : String → State → State → Prop := fun E st t => ∃ u : S, px u ∧ B E u t ∧ va_F A st t
section Runs
variable {p : Program} {l : Launch} {e : Env} {R : Room} {s : State} {m : MethodId} {args : Array Value} {below : List Frame} {meth : Method} {c : Code} {H : Heap} {locs : List Loc} {cells slots : Nat}
variable {y : MethodName} {bytes cc : ByteArray} {maxL nL mc ms n index : Nat} {ret : Option FieldType} {ws : List Cond} {rm : Room} {Pc : Array Value → State → Prop} {Qc : Array Value → State → Outcome → State → Prop} {XC : String → State → State → Prop} {free : Addr → Prop} {Ts : List Cond} {own C : String} {b : Addr} {As rest : List Value} {g : JFrame}
theorem vx_callBack (cb : CallB R s args own index y bytes maxL ret ws rm mc ms n) (hM : vx_Met l y ws rm Pc Qc XC mc ms free) (hbl : FrameBlind Pc) : vx_Back l R p e below s args y 3 8 (PreOf R mc ms Pc) (PostOf Qc mc ms free) (vx_Post XC mc ms free) := by
  obtain ⟨hrc, hrs, hfr, hlo, hws, hcw, -, hini, -⟩ := cb
  exact vx_back (bytes := bytes) (maxL := maxL) (ret := ret) hM hbl hrc hrs hfr hlo hws hcw (fun a' U hW => word_at hW (Or.inl (by first | rfl | simp [Cond.onTables, Cond.keeps, Cond.steady])) hini)
theorem vx_runV (S : CallFix p m c cc nL s args Ts own) (hM : vx_Met l y ws rm Pc Qc XC mc ms free) (cw : CallW R s args own C index y bytes maxL ret ws rm mc ms n) (hp : PreV s H C b Pc As)
    (hg : g.method = m) (hn : As.length = n) (hsize : g.locals.size = nL) (hstack : g.stack = As.reverse ++ .ref b :: rest) (hW : 2 * g.monitorRoom + (rest.map fun v => v.category).sum ≤ 8) (hdg : decode cc g.pc = .ok (.invokevirtual index, 3)) (hf : cells + mc ≤ R.cells ∧ slots + ms ≤ R.slots) :
    vx_Run p l e R s m args below meth c H locs cells slots mc ms g rest (Qc (Value.ref b :: As).toArray) XC free := by
  have hK : vx_Back l R p e below s args y 3 8 (PreOf R mc ms Pc) (PostOf Qc mc ms free) (vx_Post XC mc ms free) := vx_callBack cw.1 hM hp.1
  obtain ⟨⟨-, -, -, -, -, -, hcode, -, hy, hlen, hl⟩, hin, hse⟩ := cw
  obtain ⟨hx, hb, hml, ho, -⟩ := S
  obtain ⟨-, ⟨cellB, hcB, hoB, hclB⟩, hPc⟩ := hp
  intro T hT X
  rcases vx_callV X hx (C := C) (bytes := bytes) (maxL := maxL) (ret := ret) ho hl hin hse hcode hy hK (by rw [hT]; exact hcB) hoB hclB hg (hsize.trans hml.symm) (argsL := As) (rest := rest) (fun sig h => hn.trans (hlen sig h)) hstack hW (by rw [hb]; exact hdg)
    (fun vm₁ hW₁ => ⟨hf.1, hf.2, hPc (T.setVm vm₁) hT hW₁⟩) with ⟨v, vm₁, ⟨U', l2, c2, s2⟩, hW₁, X', ⟨g', mk, t, L, e1, e2, hq, h1, hL, h2, h3⟩, st⟩ | ⟨q, vm₁, ⟨U', l2, c2, s2⟩, hW₁, X', ⟨g', mk, t, L, E, ce, e1, e2, hq, hce, hcv, hcl, h1, hL, h2, h3⟩, st⟩
  · dsimp only [Pt.U, Pt.locs, Pt.cells, Pt.slots] at X' e1 e2 h1 h2 h3 st
    subst h1; subst h2; subst h3
    exact Or.inl ⟨v, (T.setVm vm₁).calling g' mk (Value.ref b :: As).toArray, t, U', L, hT, X', hL, e1, e2, hq, st⟩
  · dsimp only [Pt.U, Pt.locs, Pt.cells, Pt.slots] at X' e1 e2 h1 h2 h3 st hcl
    subst h1; subst h2; subst h3
    exact Or.inr ⟨q, (T.setVm vm₁).calling g' mk (Value.ref b :: As).toArray, t, U', L, E, ce, hT, X', hL, e1, e2, hq, hce, hcv, vx_cls hW₁ hcl, st⟩
theorem vx_runS (S : CallFix p m c cc nL s args Ts own) (hM : vx_Met l y ws rm Pc Qc XC mc ms free) (cw : CallB R s args own index y bytes maxL ret ws rm mc ms n ∧ (Cond.static y).before args s = true) (hp : PreS s H Pc As)
    (hg : g.method = m) (hn : As.length = n) (hsize : g.locals.size = nL) (hstack : g.stack = As.reverse ++ rest) (hW : 2 * g.monitorRoom + (rest.map fun v => v.category).sum ≤ 8) (hdg : decode cc g.pc = .ok (.invokestatic index, 3)) (hf : cells + mc ≤ R.cells ∧ slots + ms ≤ R.slots) :
    vx_Run p l e R s m args below meth c H locs cells slots mc ms g rest (Qc As.toArray) XC free := by
  have hK : vx_Back l R p e below s args y 3 8 (PreOf R mc ms Pc) (PostOf Qc mc ms free) (vx_Post XC mc ms free) := vx_callBack cw.1 hM hp.1
  obtain ⟨⟨-, -, -, -, -, -, hcode, hini, hy, hlen, hl⟩, hstt⟩ := cw
  obtain ⟨hx, hb, hml, ho, -⟩ := S
  intro T hT X
  rcases vx_callS X hx (bytes := bytes) (maxL := maxL) (ret := ret) ho hl hstt hini hcode hy hK hg (hsize.trans hml.symm) (argsL := As) (rest := rest) (fun sig h => hn.trans (hlen sig h)) hstack hW (by rw [hb]; exact hdg)
    (fun vm₁ hW₁ => ⟨hf.1, hf.2, hp.2 (T.setVm vm₁) hT hW₁⟩) with ⟨v, vm₁, ⟨U', l2, c2, s2⟩, hW₁, X', ⟨g', mk, t, L, e1, e2, hq, h1, hL, h2, h3⟩, st⟩ | ⟨q, vm₁, ⟨U', l2, c2, s2⟩, hW₁, X', ⟨g', mk, t, L, E, ce, e1, e2, hq, hce, hcv, hcl, h1, hL, h2, h3⟩, st⟩
  · dsimp only [Pt.U, Pt.locs, Pt.cells, Pt.slots] at X' e1 e2 h1 h2 h3 st
    subst h1; subst h2; subst h3
    exact Or.inl ⟨v, (T.setVm vm₁).calling g' mk As.toArray, t, U', L, hT, X', hL, e1, e2, hq, st⟩
  · dsimp only [Pt.U, Pt.locs, Pt.cells, Pt.slots] at X' e1 e2 h1 h2 h3 st hcl
    subst h1; subst h2; subst h3
    exact Or.inr ⟨q, (T.setVm vm₁).calling g' mk As.toArray, t, U', L, E, ce, hT, X', hL, e1, e2, hq, hce, hcv, vx_cls hW₁ hcl, st⟩
end Runs
section Rows
variable {p : Program} {l : Launch} {e : Env} {R : Room} {s : State} {m : MethodId} {args : Array Value} {below : List Frame} {meth : Method} {c : Code} {H : Heap} {locs : List Loc} {cells slots : Nat} {Q : State → Prop}
variable {mc ms : Nat} {free : Addr → Prop} {A0 A1 : Nat → Prop} {H0 : Heap} {a : Array Value} {pc : Nat} {ls : Array Slot} {st0 rest : List Value}
theorem vx_keep {st₀ t T' : State} {L : List Loc} (h0 : st₀.heap = H) (e1 : T'.heap = t.heap) (hS : va_S A0 H0 H locs) (hA : ∀ q, q < H.size → A1 q → A0 q) (hf : ∀ q, free q → A0 q) (hL : ∀ q ∈ L, free q.base) (hF : va_F A1 st₀ t) :
    H.size ≤ T'.heap.size ∧ (∀ q : Nat, q < H.size → ¬ A1 q → T'.heap[q]? = H[q]?) ∧ va_S A0 H0 T'.heap (locs ++ L) := by
  obtain ⟨hz, hk⟩ := hF
  rw [h0] at hz hk
  exact ⟨by rw [e1]; exact hz, fun q h1 h2 => by rw [e1]; exact hk q h1 h2,
    ⟨Nat.le_trans hS.1 (by rw [e1]; exact hz), fun q h1 h2 => by rw [e1, hk q (Nat.lt_of_lt_of_le h1 hS.1) (fun z => h2 (hA q (Nat.lt_of_lt_of_le h1 hS.1) z))]; exact hS.2.1 q h1 h2, fun q hq => by
      rcases List.mem_append.mp hq with h | h
      · exact hS.2.2 q h
      · exact hf _ (hL q h)⟩⟩
theorem vx_calli {S SX : Type} {post : Int32 → S → Prop} {px : SX → Prop} {B : S → State → Prop} {BX : String → SX → State → Prop} {AX : Nat → Prop} (hr : vx_Run p l e R s m args below meth c H locs cells slots mc ms (F0 m pc ls st0) rest (va_Qi post B A1 a) (vx_X px BX AX) free) (hS : va_S A0 H0 H locs) (hA : ∀ q, q < H.size → A1 q → A0 q) (hf : ∀ q, free q → A0 q) (hAX : ∀ q, q < H.size → AX q → A0 q)
    (kx : ∀ (E : String) (ce : Cell) (q9 : Addr) (u : SX) (t : State) (H1 : Heap) (locs1 : List Loc), t.heap = H1 → s.vm.Alike t.vm → px u → BX E u t → H.size ≤ H1.size → (∀ q : Nat, q < H.size → ¬ AX q → H1[q]? = H[q]?) → va_S A0 H0 H1 locs1 → H1[q9]? = some ce → ce.vm = .none → s.vm.findClass E = some ce.cls → vx_W p l e R s m args below meth c H1 locs1 (cells + mc) (slots + ms) Q (F0 m pc ls rest) q9)
    (kk : ∀ (r : Int32) (u : S) (t : State) (H1 : Heap) (locs1 : List Loc), t.heap = H1 → s.vm.Alike t.vm → post r u → B u t → H.size ≤ H1.size → (∀ q : Nat, q < H.size → ¬ A1 q → H1[q]? = H[q]?) → va_S A0 H0 H1 locs1 → W p l e R s m args below meth c H1 locs1 (cells + mc) (slots + ms) Q (F0 m (pc + 3) ls (.int r :: rest))) : W p l e R s m args below meth c H locs cells slots Q (F0 m pc ls st0) := by
  intro T hT X
  rcases hr T hT X with ⟨v, st₀, t, T', L, h0, X', hL, e1, e2, ⟨⟨r, u, hv, hp, hb⟩, hF⟩, st⟩ | ⟨q, st₀, t, T', L, E, ce, h0, X', hL, e1, e2, ⟨u, hp, hb, hF⟩, hce, hcv, hcl, st⟩
  · cases hv
    obtain ⟨k1, k2, k3⟩ := vx_keep h0 e1 hS hA hf hL hF
    obtain ⟨t2, a1, b1⟩ := kk r u t T'.heap (locs ++ L) e1.symm (by rw [← e2]; exact X'.warmed.alike) hp hb k1 k2 k3 T' rfl X'
    exact ⟨t2, st t2 a1, b1⟩
  · obtain ⟨k1, k2, k3⟩ := vx_keep h0 e1 hS hAX hf hL hF
    obtain ⟨t2, a1, b1⟩ := kx E ce q u t T'.heap (locs ++ L) e1.symm (by rw [← e2]; exact X'.warmed.alike) hp hb k1 k2 k3 (by rw [e1]; exact hce) hcv hcl T' rfl X'
    exact ⟨t2, st.trans a1, b1⟩
theorem vx_calll {S SX : Type} {post : Int64 → S → Prop} {px : SX → Prop} {B : S → State → Prop} {BX : String → SX → State → Prop} {AX : Nat → Prop} (hr : vx_Run p l e R s m args below meth c H locs cells slots mc ms (F0 m pc ls st0) rest (va_Ql post B A1 a) (vx_X px BX AX) free) (hS : va_S A0 H0 H locs) (hA : ∀ q, q < H.size → A1 q → A0 q) (hf : ∀ q, free q → A0 q) (hAX : ∀ q, q < H.size → AX q → A0 q)
    (kx : ∀ (E : String) (ce : Cell) (q9 : Addr) (u : SX) (t : State) (H1 : Heap) (locs1 : List Loc), t.heap = H1 → s.vm.Alike t.vm → px u → BX E u t → H.size ≤ H1.size → (∀ q : Nat, q < H.size → ¬ AX q → H1[q]? = H[q]?) → va_S A0 H0 H1 locs1 → H1[q9]? = some ce → ce.vm = .none → s.vm.findClass E = some ce.cls → vx_W p l e R s m args below meth c H1 locs1 (cells + mc) (slots + ms) Q (F0 m pc ls rest) q9)
    (kk : ∀ (r : Int64) (u : S) (t : State) (H1 : Heap) (locs1 : List Loc), t.heap = H1 → s.vm.Alike t.vm → post r u → B u t → H.size ≤ H1.size → (∀ q : Nat, q < H.size → ¬ A1 q → H1[q]? = H[q]?) → va_S A0 H0 H1 locs1 → W p l e R s m args below meth c H1 locs1 (cells + mc) (slots + ms) Q (F0 m (pc + 3) ls (.long r :: rest))) : W p l e R s m args below meth c H locs cells slots Q (F0 m pc ls st0) := by
  intro T hT X
  rcases hr T hT X with ⟨v, st₀, t, T', L, h0, X', hL, e1, e2, ⟨⟨r, u, hv, hp, hb⟩, hF⟩, st⟩ | ⟨q, st₀, t, T', L, E, ce, h0, X', hL, e1, e2, ⟨u, hp, hb, hF⟩, hce, hcv, hcl, st⟩
  · cases hv
    obtain ⟨k1, k2, k3⟩ := vx_keep h0 e1 hS hA hf hL hF
    obtain ⟨t2, a1, b1⟩ := kk r u t T'.heap (locs ++ L) e1.symm (by rw [← e2]; exact X'.warmed.alike) hp hb k1 k2 k3 T' rfl X'
    exact ⟨t2, st t2 a1, b1⟩
  · obtain ⟨k1, k2, k3⟩ := vx_keep h0 e1 hS hAX hf hL hF
    obtain ⟨t2, a1, b1⟩ := kx E ce q u t T'.heap (locs ++ L) e1.symm (by rw [← e2]; exact X'.warmed.alike) hp hb k1 k2 k3 (by rw [e1]; exact hce) hcv hcl T' rfl X'
    exact ⟨t2, st.trans a1, b1⟩
theorem vx_callf {S SX : Type} {post : UInt32 → S → Prop} {px : SX → Prop} {B : S → State → Prop} {BX : String → SX → State → Prop} {AX : Nat → Prop} (hr : vx_Run p l e R s m args below meth c H locs cells slots mc ms (F0 m pc ls st0) rest (va_Qf post B A1 a) (vx_X px BX AX) free) (hS : va_S A0 H0 H locs) (hA : ∀ q, q < H.size → A1 q → A0 q) (hf : ∀ q, free q → A0 q) (hAX : ∀ q, q < H.size → AX q → A0 q)
    (kx : ∀ (E : String) (ce : Cell) (q9 : Addr) (u : SX) (t : State) (H1 : Heap) (locs1 : List Loc), t.heap = H1 → s.vm.Alike t.vm → px u → BX E u t → H.size ≤ H1.size → (∀ q : Nat, q < H.size → ¬ AX q → H1[q]? = H[q]?) → va_S A0 H0 H1 locs1 → H1[q9]? = some ce → ce.vm = .none → s.vm.findClass E = some ce.cls → vx_W p l e R s m args below meth c H1 locs1 (cells + mc) (slots + ms) Q (F0 m pc ls rest) q9)
    (kk : ∀ (r : UInt32) (u : S) (t : State) (H1 : Heap) (locs1 : List Loc), t.heap = H1 → s.vm.Alike t.vm → post r u → B u t → H.size ≤ H1.size → (∀ q : Nat, q < H.size → ¬ A1 q → H1[q]? = H[q]?) → va_S A0 H0 H1 locs1 → W p l e R s m args below meth c H1 locs1 (cells + mc) (slots + ms) Q (F0 m (pc + 3) ls (.float r :: rest))) : W p l e R s m args below meth c H locs cells slots Q (F0 m pc ls st0) := by
  intro T hT X
  rcases hr T hT X with ⟨v, st₀, t, T', L, h0, X', hL, e1, e2, ⟨⟨r, u, hv, hp, hb⟩, hF⟩, st⟩ | ⟨q, st₀, t, T', L, E, ce, h0, X', hL, e1, e2, ⟨u, hp, hb, hF⟩, hce, hcv, hcl, st⟩
  · cases hv
    obtain ⟨k1, k2, k3⟩ := vx_keep h0 e1 hS hA hf hL hF
    obtain ⟨t2, a1, b1⟩ := kk r u t T'.heap (locs ++ L) e1.symm (by rw [← e2]; exact X'.warmed.alike) hp hb k1 k2 k3 T' rfl X'
    exact ⟨t2, st t2 a1, b1⟩
  · obtain ⟨k1, k2, k3⟩ := vx_keep h0 e1 hS hAX hf hL hF
    obtain ⟨t2, a1, b1⟩ := kx E ce q u t T'.heap (locs ++ L) e1.symm (by rw [← e2]; exact X'.warmed.alike) hp hb k1 k2 k3 (by rw [e1]; exact hce) hcv hcl T' rfl X'
    exact ⟨t2, st.trans a1, b1⟩
theorem vx_calld {S SX : Type} {post : UInt64 → S → Prop} {px : SX → Prop} {B : S → State → Prop} {BX : String → SX → State → Prop} {AX : Nat → Prop} (hr : vx_Run p l e R s m args below meth c H locs cells slots mc ms (F0 m pc ls st0) rest (va_Qd post B A1 a) (vx_X px BX AX) free) (hS : va_S A0 H0 H locs) (hA : ∀ q, q < H.size → A1 q → A0 q) (hf : ∀ q, free q → A0 q) (hAX : ∀ q, q < H.size → AX q → A0 q)
    (kx : ∀ (E : String) (ce : Cell) (q9 : Addr) (u : SX) (t : State) (H1 : Heap) (locs1 : List Loc), t.heap = H1 → s.vm.Alike t.vm → px u → BX E u t → H.size ≤ H1.size → (∀ q : Nat, q < H.size → ¬ AX q → H1[q]? = H[q]?) → va_S A0 H0 H1 locs1 → H1[q9]? = some ce → ce.vm = .none → s.vm.findClass E = some ce.cls → vx_W p l e R s m args below meth c H1 locs1 (cells + mc) (slots + ms) Q (F0 m pc ls rest) q9)
    (kk : ∀ (r : UInt64) (u : S) (t : State) (H1 : Heap) (locs1 : List Loc), t.heap = H1 → s.vm.Alike t.vm → post r u → B u t → H.size ≤ H1.size → (∀ q : Nat, q < H.size → ¬ A1 q → H1[q]? = H[q]?) → va_S A0 H0 H1 locs1 → W p l e R s m args below meth c H1 locs1 (cells + mc) (slots + ms) Q (F0 m (pc + 3) ls (.double r :: rest))) : W p l e R s m args below meth c H locs cells slots Q (F0 m pc ls st0) := by
  intro T hT X
  rcases hr T hT X with ⟨v, st₀, t, T', L, h0, X', hL, e1, e2, ⟨⟨r, u, hv, hp, hb⟩, hF⟩, st⟩ | ⟨q, st₀, t, T', L, E, ce, h0, X', hL, e1, e2, ⟨u, hp, hb, hF⟩, hce, hcv, hcl, st⟩
  · cases hv
    obtain ⟨k1, k2, k3⟩ := vx_keep h0 e1 hS hA hf hL hF
    obtain ⟨t2, a1, b1⟩ := kk r u t T'.heap (locs ++ L) e1.symm (by rw [← e2]; exact X'.warmed.alike) hp hb k1 k2 k3 T' rfl X'
    exact ⟨t2, st t2 a1, b1⟩
  · obtain ⟨k1, k2, k3⟩ := vx_keep h0 e1 hS hAX hf hL hF
    obtain ⟨t2, a1, b1⟩ := kx E ce q u t T'.heap (locs ++ L) e1.symm (by rw [← e2]; exact X'.warmed.alike) hp hb k1 k2 k3 (by rw [e1]; exact hce) hcv hcl T' rfl X'
    exact ⟨t2, st.trans a1, b1⟩
theorem vx_callv {S SX : Type} {post : S → Prop} {px : SX → Prop} {B : S → State → Prop} {BX : String → SX → State → Prop} {AX : Nat → Prop} (hr : vx_Run p l e R s m args below meth c H locs cells slots mc ms (F0 m pc ls st0) rest (va_Qv post B A1 a) (vx_X px BX AX) free) (hS : va_S A0 H0 H locs) (hA : ∀ q, q < H.size → A1 q → A0 q) (hf : ∀ q, free q → A0 q) (hAX : ∀ q, q < H.size → AX q → A0 q)
    (kx : ∀ (E : String) (ce : Cell) (q9 : Addr) (u : SX) (t : State) (H1 : Heap) (locs1 : List Loc), t.heap = H1 → s.vm.Alike t.vm → px u → BX E u t → H.size ≤ H1.size → (∀ q : Nat, q < H.size → ¬ AX q → H1[q]? = H[q]?) → va_S A0 H0 H1 locs1 → H1[q9]? = some ce → ce.vm = .none → s.vm.findClass E = some ce.cls → vx_W p l e R s m args below meth c H1 locs1 (cells + mc) (slots + ms) Q (F0 m pc ls rest) q9)
    (kk : ∀ (u : S) (t : State) (H1 : Heap) (locs1 : List Loc), t.heap = H1 → s.vm.Alike t.vm → post u → B u t → H.size ≤ H1.size → (∀ q : Nat, q < H.size → ¬ A1 q → H1[q]? = H[q]?) → va_S A0 H0 H1 locs1 → W p l e R s m args below meth c H1 locs1 (cells + mc) (slots + ms) Q (F0 m (pc + 3) ls (rest))) : W p l e R s m args below meth c H locs cells slots Q (F0 m pc ls st0) := by
  intro T hT X
  rcases hr T hT X with ⟨v, st₀, t, T', L, h0, X', hL, e1, e2, ⟨⟨u, hv, hp, hb⟩, hF⟩, st⟩ | ⟨q, st₀, t, T', L, E, ce, h0, X', hL, e1, e2, ⟨u, hp, hb, hF⟩, hce, hcv, hcl, st⟩
  · cases hv
    obtain ⟨k1, k2, k3⟩ := vx_keep h0 e1 hS hA hf hL hF
    obtain ⟨t2, a1, b1⟩ := kk u t T'.heap (locs ++ L) e1.symm (by rw [← e2]; exact X'.warmed.alike) hp hb k1 k2 k3 T' rfl X'
    exact ⟨t2, st t2 a1, b1⟩
  · obtain ⟨k1, k2, k3⟩ := vx_keep h0 e1 hS hAX hf hL hF
    obtain ⟨t2, a1, b1⟩ := kx E ce q u t T'.heap (locs ++ L) e1.symm (by rw [← e2]; exact X'.warmed.alike) hp hb k1 k2 k3 (by rw [e1]; exact hce) hcv hcl T' rfl X'
    exact ⟨t2, st.trans a1, b1⟩
/-- caught by the row x of this method's table; the rows ahead don't take it -/
theorem vx_catch {own name : String} {E : String} {ce : Cell} {q : Addr} (hown : s.vm.findClass own = some m.cls) (pre : List ExceptionTableEntry) (x : ExceptionTableEntry) (suf : List ExceptionTableEntry) (hsplit : c.exceptionTable.toList = pre ++ x :: suf)
    (hpass : ∀ z ∈ pre, covers z pc = false ∨ (z.catchType ≠ 0 ∧ ∃ nm : String, (Cond.classLink own z.catchType nm).before args s = true ∧ va_Nc E nm s)) (hx : covers x pc = true) (h0 : x.catchType ≠ 0)
    (hlink : (Cond.classLink own x.catchType name).before args s = true) (hcast : (Cond.castable E name).before args s = true) (hcell : H[q]? = some ce) (hv : ce.vm = .none) (hcl : s.vm.findClass E = some ce.cls)
    (kk : W p l e R s m args below meth c H locs cells slots Q (F0 m x.handlerPc ls [.ref q])) : vx_W p l e R s m args below meth c H locs cells slots Q (F0 m pc ls rest) q := by
  intro T hT X
  have hpl : e.platform.magicAccessors = ({} : Platform).magicAccessors := by rw [X.admits.platform]
  obtain ⟨c3, c4, hc3, hc4, hasg⟩ := Cond.castable_spec hcast
  cases Option.some.inj (hc3.symm.trans hcl)
  obtain ⟨c5, hc5, hcl5⟩ := Cond.classLink_spec hown hlink e.platform hpl
  cases Option.some.inj (hc4.symm.trans hc5)
  obtain ⟨vm', X', st⟩ := X.thenCaughtThrough q (g := F0 m pc ls rest) rfl (Steps.refl _) (by rw [hT]; exact hcell) (by rw [hv]; rfl) (by obtain ⟨k9, h9, -⟩ := Vm.findClass_spec hcl; exact ⟨k9, h9⟩) pre x suf hsplit
    (fun z hz => by
      rcases hpass z hz with h | ⟨hz0, nm, hl1, hn1⟩
      · exact Or.inl h
      · obtain ⟨c6, hc6, hcl6⟩ := Cond.classLink_spec hown hl1 e.platform hpl
        obtain ⟨a8, b8, h1, h2, h3⟩ := hn1
        cases Option.some.inj (h1.symm.trans hcl)
        cases Option.some.inj (h2.symm.trans hc6)
        exact Or.inr ⟨hz0, _, hcl6, h3⟩) hx (Or.inr ⟨h0, c4, hcl5, hasg⟩)
  obtain ⟨t, a1, b1⟩ := kk (T.setVm vm') hT X'
  exact ⟨t, st.trans a1, b1⟩
end Rows
section Ends
variable {p : Program} {l : Launch} {e : Env} {R : Room} {s : State} {m : MethodId} {args : Array Value} {below : List Frame} {meth : Method} {c : Code} {H : Heap} {locs : List Loc} {cells slots : Nat} {Q : State → Prop}
variable {mc ms : Nat} {free : Addr → Prop} {A0 A1 : Nat → Prop} {H0 : Heap} {a : Array Value} {ls : Array Slot} {st0 rest : List Value}
variable {Qc : Array Value → State → Outcome → State → Prop} {XC : String → State → State → Prop}
/-- what a body that may throw owes at its end -/
def vx_MQ (below : List Frame) (Qc : Array Value → State → Outcome → State → Prop) (XC : String → State → State → Prop) (a : Array Value) (s : State) (mc ms : Nat) (free : Addr → Prop) : State → Prop := fun t =>
  ∃ o, t.status = .running ∧ Ended t below o ∧ vx_Q Qc XC mc ms free a s o t
theorem vx_ret {g : JFrame} {mc ms : Nat} (k : W p l e R s m args below meth c H locs cells slots (MQ below Qc args s mc ms free) g) : W p l e R s m args below meth c H locs cells slots (vx_MQ below Qc XC args s mc ms free) g := by
  intro T hT X
  obtain ⟨t, a1, o, b1, b2, b3, b4⟩ := k T hT X
  exact ⟨t, a1, o, b1, b2, Or.inl ⟨b3, b4⟩⟩
/-- not caught here: it goes on to the caller -/
theorem vx_widen {g : JFrame} {q : Addr} {k n : Nat} (h1 : cells ≤ k) (h2 : slots ≤ n) (kk : vx_W p l e R s m args below meth c H locs k n Q g q) : vx_W p l e R s m args below meth c H locs cells slots Q g q := fun T hT X => kk T hT (stand_widen X h1 h2)
theorem vx_out {pc : Nat} {E : String} {ce : Cell} {q : Addr} {mc ms : Nat} (hout : ∀ x ∈ c.exceptionTable.toList, covers x pc = false) (hlocks : meth.locks = false) (hcell : H[q]? = some ce) (hv : ce.vm = .none) (hcl : s.vm.findClass E = some ce.cls)
    (hx : ∀ t : State, t.heap = H → s.vm.Alike t.vm → XC E s t) (hf : ∀ z ∈ locs, free z.base) (hc : cells ≤ mc) (hs : slots ≤ ms) :
    vx_W p l e R s m args below meth c H locs cells slots (vx_MQ below Qc XC args s mc ms free) (F0 m pc ls rest) q := by
  intro T hT X
  obtain ⟨st1, hrun, hend, hW, hsm⟩ := X.leaveThrown q (g := F0 m pc ls rest) rfl rfl rfl hout hlocks
  have hcell9 : (T.setFrames (.throwing q :: below)).heap[q]? = some ce := by
    show T.heap[q]? = some ce
    rw [hT]; exact hcell
  exact ⟨_, st1, .threw q, hrun, hend, Or.inr ⟨q, rfl, E, ce, locs, hx _ hT hW.alike, hcell9, hv, hcl, hW, hsm.mono hc hs, hf⟩⟩
theorem vx_frame {U : State} {k n : Nat} (h : s.sameButNew ({ U with vm := s.vm } : State) locs k n) : s.heap.size ≤ U.heap.size ∧ ∀ q : Nat, q < s.heap.size → (∀ z ∈ locs, z.base ≠ q) → U.heap[q]? = s.heap[q]? := by
  obtain ⟨-, h2, -, -, -, h6⟩ := h
  refine ⟨h2, fun q hq hz => ?_⟩
  obtain ⟨c9, e1, e2, e3, e4⟩ := h6 q _ (Array.getElem?_eq_getElem hq)
  have hs : c9.slots = (s.heap[q]).slots := Array.ext_getElem? fun i => e4 i fun hm => hz _ hm rfl
  have h9 : c9 = s.heap[q] := by
    rw [hs] at e2
    exact e2
  have e5 : U.heap[q]? = some c9 := e1
  rw [e5, h9, Array.getElem?_eq_getElem hq]
/-- the words of a throw but the four that speak of the heap -/
def vx_no (w : Cond) : Bool := decide (w ≠ .isRef (.static Bundle.tN "UNASSIGNED_STACK" Bundle.steD)) && decide (w ≠ .isRef (.static Bundle.tN "SUPPRESSED_SENTINEL" Bundle.listD)) && decide (w ≠ .laysStatic Bundle.tN "UNASSIGNED_STACK" Bundle.steD) && decide (w ≠ .laysStatic Bundle.tN "SUPPRESSED_SENTINEL" Bundle.listD)
def vx_at0 (own : String) (ic : Nat) (X : String) (names : List String) : List Cond := (Bundle.ownAtoms0 own ic X names).filter vx_no
def vx_atS (own : String) (ic : Nat) (X : String) (names : List String) : List Cond := (Bundle.ownAtoms own ic X names).filter vx_no
/-- a word that the tables alone decide, or a good one -/
def vx_ot (w : Cond) : Bool := w.onTables || goodWord w
theorem vx_ot_at {args a' : Array Value} {s U : State} {w : Cond} (hW : s.WarmedH U.vm) (hvm : s.vm = U.vm) (hg : vx_ot w = true) (h : w.before args s = true) : w.before a' U = true := by
  simp only [vx_ot, Bool.or_eq_true] at hg
  rcases hg with hg | hg
  · exact va_tabs hg hvm h
  · exact word_at hW (good_of_word hg) h
/-- a list's words: the good ones out of the method's own list, the others by premises of their own -/
theorem vx_hat {args : Array Value} {s : State} {L B : List Cond} (h1 : ∀ w ∈ L.filter goodWord, w.before args s = true) (h2 : ∀ w ∈ L.filter (fun w => !goodWord w), w ∈ B) (h3 : ∀ w ∈ B, w.before args s = true) : ∀ w ∈ L, w.before args s = true := by
  intro w hw
  by_cases g : goodWord w = true
  · exact h1 w (List.mem_filter.mpr ⟨hw, g⟩)
  · refine h3 w (h2 w (List.mem_filter.mpr ⟨hw, ?_⟩))
    show (!goodWord w) = true
    cases hgw : goodWord w
    · rfl
    · exact absurd hgw g
theorem vx_c {args : Array Value} {s : State} {w : Cond} {B : List Cond} (h : w.before args s = true) (t : ∀ w ∈ B, w.before args s = true) : ∀ w' ∈ w :: B, w'.before args s = true := fun w' h' => (List.mem_cons.mp h').elim (fun e => by rw [e]; exact h) (t w')
theorem vx_n {args : Array Value} {s : State} : ∀ w ∈ ([] : List Cond), w.before args s = true := fun _ h => nomatch h
theorem vx_own {args : Array Value} {s : State} {L : List Cond} (h1 : ∀ w ∈ L.filter vx_no, w.before args s = true)
    (hU : (Cond.isRef (.static Bundle.tN "UNASSIGNED_STACK" Bundle.steD)).before args s = true) (hN : (Cond.isRef (.static Bundle.tN "SUPPRESSED_SENTINEL" Bundle.listD)).before args s = true)
    (lU : (Cond.laysStatic Bundle.tN "UNASSIGNED_STACK" Bundle.steD).before args s = true) (lN : (Cond.laysStatic Bundle.tN "SUPPRESSED_SENTINEL" Bundle.listD).before args s = true) : ∀ w ∈ L, w.before args s = true := by
  intro w hw
  by_cases e1 : w = .isRef (.static Bundle.tN "UNASSIGNED_STACK" Bundle.steD)
  · rw [e1]; exact hU
  · by_cases e2 : w = .isRef (.static Bundle.tN "SUPPRESSED_SENTINEL" Bundle.listD)
    · rw [e2]; exact hN
    · by_cases e3 : w = .laysStatic Bundle.tN "UNASSIGNED_STACK" Bundle.steD
      · rw [e3]; exact lU
      · by_cases e4 : w = .laysStatic Bundle.tN "SUPPRESSED_SENTINEL" Bundle.listD
        · rw [e4]; exact lN
        · exact h1 w (List.mem_filter.mpr ⟨hw, by unfold vx_no; rw [decide_eq_true e1, decide_eq_true e2, decide_eq_true e3, decide_eq_true e4]; rfl⟩)
/-- where a static field lies, its class's statics cell in H -/
def vx_L (C n d : String) (A : Nat → Prop) (U : State) (H : Heap) : Prop := ∃ (c : ClassId) (k : Class) (i : Nat) (f : Field) (a : Nat) (cell : Cell), U.vm.findClass C = some c ∧ U.fieldFound? C n d = some (c, k, i, f) ∧ f.isStatic = true ∧ k.statics = some a ∧ H[a]? = some cell ∧ cell.vm.isStatics = true ∧ cell.cls = c ∧ f.slot < cell.slots.size ∧ k.staticTypes[f.slot]? = some f.type ∧ ¬ A a
theorem vx_L.moved {C n d : String} {A : Nat → Prop} {u U : State} {H : Heap} (hvm : u.vm.Alike U.vm) (h : vx_L C n d A u H) : vx_L C n d A U H := by
  obtain ⟨c, k, i, f, a, cell, h1, h2, h3, h4, h5, h6, h7, h8, h9, h10⟩ := h
  obtain ⟨k', hi', he⟩ := State.fieldFound?_setVm hvm h2
  exact ⟨c, k', i, f, a, cell, by rw [hvm.findClass]; exact h1, hi', h3, by rw [he]; exact h4, h5, h6, h7, h8, by rw [he]; exact h9, h10⟩
theorem vx_L.kept {C n d : String} {A : Nat → Prop} {U : State} {H H1 : Heap} (h : vx_L C n d A U H) (hq : ∀ a : Nat, a < H.size → ¬ A a → H1[a]? = H[a]?) : vx_L C n d A U H1 := by
  obtain ⟨c, k, i, f, a, cell, h1, h2, h3, h4, h5, h6, h7, h8, h9, h10⟩ := h
  exact ⟨c, k, i, f, a, cell, h1, h2, h3, h4, by rw [hq a (Array.getElem?_eq_some_iff.mp h5).1 h10]; exact h5, h6, h7, h8, h9, h10⟩
theorem vx_L.narrow {C n d : String} {A B : Nat → Prop} {U : State} {H : Heap} (h : vx_L C n d A U H) (hAB : ∀ q, B q → A q) : vx_L C n d B U H := by
  obtain ⟨c, k, i, f, a, cell, h1, h2, h3, h4, h5, h6, h7, h8, h9, h10⟩ := h
  exact ⟨c, k, i, f, a, cell, h1, h2, h3, h4, h5, h6, h7, h8, h9, fun z => h10 (hAB _ z)⟩
theorem vx_L.word {C n d : String} {A : Nat → Prop} {s : State} {args : Array Value} (h : vx_L C n d A s s.heap) : (Cond.laysStatic C n d).before args s = true := by
  obtain ⟨c, k, i, f, a, cell, h1, h2, h3, h4, h5, h6, h7, h8, h9, -⟩ := h
  show (Cond.laysStatic C n d).holds args s none s [] = true
  exact Cond.laysStatic_of h1 h2 h3 h4 h5 h6 h7 h8 h9
/-- .. and what it holds: null or some reference -/
def vx_Zq (C n d : String) (A : Nat → Prop) (U : State) (H : Heap) : Prop := va_Zq C n d A U H ∧ vx_L C n d A U H
theorem vx_Zq.moved {C n d : String} {A : Nat → Prop} {u U : State} {H : Heap} (hvm : u.vm.Alike U.vm) (h : vx_Zq C n d A u H) : vx_Zq C n d A U H := ⟨va_Zq.moved hvm h.1, vx_L.moved hvm h.2⟩
theorem vx_Zq.kept {C n d : String} {A : Nat → Prop} {U : State} {H H1 : Heap} (h : vx_Zq C n d A U H) (hq : ∀ a : Nat, a < H.size → ¬ A a → H1[a]? = H[a]?) : vx_Zq C n d A U H1 := ⟨va_Zq.kept h.1 hq, vx_L.kept h.2 hq⟩
theorem vx_Zq.narrow {C n d : String} {A B : Nat → Prop} {U : State} {H : Heap} (h : vx_Zq C n d A U H) (hAB : ∀ q, B q → A q) : vx_Zq C n d B U H := ⟨va_Zq.narrow h.1 hAB, vx_L.narrow h.2 hAB⟩
theorem vx_Zqof {args : Array Value} {s : State} {C n d : String} {A : Nat → Prop} (hl : (Cond.laysStatic C n d).before args s = true) (hini : (Cond.initialized C).before args s = true) (h : (Cond.isRef (.static C n d)).before args s = true) (hA : ∀ a : Nat, a < s.heap.size → ¬ A a) : vx_Zq C n d A s s.heap := by
  refine ⟨va_Zqof hl hini h hA, ?_⟩
  obtain ⟨c, k, i, f, a, cell, h1, h2, h3, h4, h5, h6, h7, h8, h9⟩ := Cond.laysStatic_spec hl
  exact ⟨c, k, i, f, a, cell, h1, h2, h3, h4, h5, h6, h7, h8, h9, hA a (Array.getElem?_eq_some_iff.mp h5).1⟩
theorem vx_isRef {C n d : String} {v : Value} {A : Nat → Prop} {s : State} {args : Array Value} (h : va_Z C n d v A s s.heap) (hv : v.isRef = true) : (Cond.isRef (.static C n d)).before args s = true := by
  obtain ⟨cf, kf, fi, f, a, cell, h1, h2, h3, h4, h5, h6, h7, -⟩ := h
  have he : (Term.static C n d).eval args s none [] s = some v := by
    simp [Term.eval, State.fieldNamed?, h1, h2, h4, h5, h6, h7]
  simp only [Cond.before, Cond.holds, Cond.value, he]
  cases v <;> simp_all [Value.isRef]
theorem vx_isRefq {C n d : String} {A : Nat → Prop} {s : State} {args : Array Value} (h : va_Zq C n d A s s.heap) : (Cond.isRef (.static C n d)).before args s = true := by
  rcases h with h | ⟨t, h⟩
  · exact vx_isRef h rfl
  · exact vx_isRef h rfl
/-- the same frame, seen from here: as if the method were called anew in this heap -/
theorem vx_rebase {T : State} (X : Stand p l e R s m args below meth c T locs cells slots) {R' : Room} (hf : R'.frames ≤ R.frames) (hl : R'.locals ≤ R.locals) (hc : cells + R'.cells ≤ R.cells) (hs : slots + R'.slots ≤ R.slots) :
    Stand p l e R' ((T.setVm s.vm).setFrames (.invoking m args :: below)) m args below meth c T [] 0 0 := by
  have htop : (T.setVm s.vm).topJava?.isSome := X.here.top
  have hF : ((T.setVm s.vm).setFrames (.invoking m args :: below)).frames = .invoking m args :: below := State.frames_setFrames _ (State.cur_lt_of_top htop)
  obtain ⟨g₀, hg0⟩ := Option.isSome_iff_exists.mp htop
  obtain ⟨r, hr⟩ := State.topJava?_eq_some.mp hg0
  have hl9 : e.platform.stackLimits (T.setVm s.vm).me = e.platform.stackLimits s.me := X.limits
  have hb9 : (T.setVm s.vm).me.stackBytes = s.me.stackBytes := X.bytes
  refine ⟨X.admits, X.cas, X.clock, hF, ?_, X.hears, X.method, X.code, X.here, X.tail, X.warmed, ?_, ?_, ?_⟩
  · have h := X.room
    have hU : ((T.setVm s.vm).setFrames (.invoking m args :: below)).localsInUse = s.localsInUse := by
      rw [State.localsInUse_invoking hF (meth := meth) (c := c) X.method X.code, State.localsInUse_invoking X.frames X.method X.code]
    simp only [State.hasRoom, Bool.and_eq_true, decide_eq_true_eq] at h ⊢
    obtain ⟨⟨⟨⟨h1, h2, h3, h4, h5, h6⟩, h7⟩, h8⟩, h9⟩ := h
    rw [X.frames, List.length_cons] at h2 h3
    have q1 := X.heapSize
    have q2 := X.used
    simp only [hF, hU, List.length_cons, State.stackLimits_setFrames, State.stackBytes_setFrames, hl9, hb9]
    refine ⟨⟨⟨⟨by omega, by omega, by omega, by omega, by omega, h6⟩, ?_⟩, ?_⟩, X.book⟩
    · show T.heap.size + R'.cells ≤ e.platform.maxCells
      omega
    · show T.slotsUsed + R'.slots ≤ e.platform.maxSlots
      omega
  · rw [State.stackLimits_setFrames]; rfl
  · rw [State.stackBytes_setFrames]; rfl
  · refine ⟨?_, Nat.le_refl _, Nat.le_refl _, ?_, ?_, fun a c9 h9 => ⟨c9, h9, rfl, rfl, fun _ _ => rfl⟩⟩
    · obtain ⟨t, ht, -⟩ := State.frames_cons hr
      show T.setVm s.vm = { ((T.setVm s.vm).setFrames (.invoking m args :: below)).setFrames (T.setVm s.vm).frames with heap := T.heap, slotsUsed := T.slotsUsed }
      rw [State.setFrames_setFrames, State.setFrames_self ht]
      rfl
    · show T.slotsUsed = T.slotsUsed + ((T.heap.toList.drop T.heap.size).map (·.slots.size)).sum
      rw [List.drop_eq_nil_of_le (Nat.le_of_eq Array.length_toList)]
      rfl
    · show ((T.heap.toList.drop T.heap.size).map (·.slots.size)).sum ≤ 0
      rw [List.drop_eq_nil_of_le (Nat.le_of_eq Array.length_toList)]
      exact Nat.le_refl _
/-- 'throw new E()': new; dup; invokespecial; athrow -/
theorem vx_throw0 {cc : ByteArray} {pc : Nat} (hexec : p.tables.exec = Jvm.exec) (hb : c.code = cc) (hl : l.stackTraces = false) {own cls : String} {names : List String} {ik ic mc ms : Nat} {A : Nat → Prop}
    (hown : s.vm.findClass own = some m.cls) (hcls : Bundle.fit cls = true) (hnames : ∀ n ∈ names, Bundle.fit n = true)
    (hk : (Cond.classLink own ik cls).before args s = true) (hini : (Cond.initialized cls).before args s = true) (hat : ∀ w ∈ vx_at0 own ic cls names, w.before args s = true)
    (hgood : ∀ w ∈ Cond.classLink own ik cls :: Cond.initialized cls :: vx_at0 own ic cls names, vx_ot w = true)
    (hU : vx_Zq Bundle.tN "UNASSIGNED_STACK" Bundle.steD A s s.heap) (hN : vx_Zq Bundle.tN "SUPPRESSED_SENTINEL" Bundle.listD A s s.heap) (hS : va_S A s.heap H locs) (hsize : ls.size = c.maxLocals)
    (d0 : decode cc pc = .ok (.new ik, 3)) (d3 : decode cc (pc + 3) = .ok (.dup, 1)) (d4 : decode cc (pc + 4) = .ok (.invokespecial ic, 3)) (d7 : decode cc (pc + 7) = .ok (.athrow, 1))
    (hout : ∀ x ∈ c.exceptionTable.toList, covers x (pc + 7) = false)
    (hRframes : names.length + 3 < R.frames) (hRlocals : (rest.map fun v => v.category).sum + (13 * (names.length + 1) + 42) ≤ R.locals) (hRcells : cells + 1 ≤ R.cells) (hRslots : slots + 6 ≤ R.slots) (hlocks : meth.locks = false)
    (hx : ∀ t : State, s.vm.Alike t.vm → H.size ≤ t.heap.size → (∀ q : Nat, q < H.size → t.heap[q]? = H[q]?) → XC cls s t)
    (hf : ∀ z ∈ locs, free z.base) (hc : cells + 1 ≤ mc) (hs : slots + 6 ≤ ms) :
    W p l e R s m args below meth c H locs cells slots (vx_MQ below Qc XC args s mc ms free) (F0 m pc ls rest) := by
  intro T hT X
  have htr : e.platform.stackTraces = false := (show e.platform.stackTraces = l.stackTraces by rw [X.admits.platform]).trans hl
  have Y := vx_rebase X (R' := { frames := R.frames, locals := R.locals, cells := 1, slots := 6 }) (Nat.le_refl _) (Nat.le_refl _) hRcells hRslots
  obtain ⟨s', hA⟩ : ∃ z, z = (T.setVm s.vm).setFrames (.invoking m args :: below) := ⟨_, rfl⟩
  rw [← hA] at Y
  have hvm : s'.vm = s.vm := by rw [hA]; rfl
  have hhp : s'.heap = H := by rw [hA]; exact hT
  have hW0 : s.WarmedH s'.vm := by rw [hvm]; exact State.WarmedH.refl s
  have hat' : ∀ w ∈ vx_at0 own ic cls names, w.before args s' = true := fun w hw => vx_ot_at hW0 hvm.symm (hgood w (List.mem_cons_of_mem _ (List.mem_cons_of_mem _ hw))) (hat w hw)
  have hk' : (Cond.classLink own ik cls).before args s' = true := vx_ot_at hW0 hvm.symm (hgood _ List.mem_cons_self) hk
  have hini' : (Cond.initialized cls).before args s' = true := vx_ot_at hW0 hvm.symm (hgood _ (List.mem_cons_of_mem _ List.mem_cons_self)) hini
  have hU' : vx_Zq Bundle.tN "UNASSIGNED_STACK" Bundle.steD A s' s'.heap := by rw [hhp]; exact vx_Zq.moved hW0.alike (hU.kept hS.2.1)
  have hN' : vx_Zq Bundle.tN "SUPPRESSED_SENTINEL" Bundle.listD A s' s'.heap := by rw [hhp]; exact vx_Zq.moved hW0.alike (hN.kept hS.2.1)
  have h : ∀ w ∈ Bundle.ownAtoms0 own ic cls names, w.before args s' = true := vx_own hat' (vx_isRefq hU'.1) (vx_isRefq hN'.1) hU'.2.word hN'.2.word
  have hown' : s'.vm.findClass own = some m.cls := by rw [hvm]; exact hown
  have hins : (Cond.instantiable cls 6).before args s' = true := h _ (by simp [Bundle.ownAtoms0])
  obtain ⟨vm₁, cX, kX, hfX, hkX, -, -, X₁, st1⟩ := Y.newCold hexec (own := own) (C := cls) (index := ik) (n := 6) hown' hk' hins hini'
    (g := F0 m pc ls rest) rfl (by rw [hb]; exact d0) (Nat.le_refl _) (Nat.le_refl _)
  generalize hT1 : (T.setVm vm₁).pushCell { cls := cX, slots := kX.instanceTypes.map defaultValue, vm := .none } = T1 at X₁ st1
  have hcat : (Value.ref T.heap.size).category = 1 := rfl
  have hcellA : T1.heap[T.heap.size]? = some (freshCell cX kX) := by rw [← hT1]; exact State.heap_pushCell_size _ _
  have d3' : decode c.code (pc + 3) = .ok (.dup, 1) := by rw [hb]; exact d3
  obtain ⟨U, hsteps, hrun, hend, hW, hsame, ce, hce, hO⟩ := X₁.ctorThrow0 hexec htr (own := own) (cls := cls) (names := names) (ic := ic) hown' hcls hnames h (fun x hx => nomatch hx) hfX hkX hcellA (by rw [hhp, hT]; exact Nat.le_refl _)
    (g := { method := m, pc := pc + 4, locals := ls, stack := .ref T.heap.size :: .ref T.heap.size :: rest, locked := none }) rfl hsize rfl rfl (rest := rest) rfl
    (by rw [hb]; exact d4) (by rw [hb]; exact d7) hout hRframes (by simp only [List.map_cons, List.sum_cons, hcat]; omega) hlocks
  obtain ⟨f1, f2⟩ := vx_frame hsame
  rw [hhp] at f1 f2
  have hWs : s.WarmedH U.vm := State.WarmedH.trans hW0 hW
  have hcl : s.vm.findClass cls = some ce.cls := by
    have h9 := hO.cls
    rw [hvm] at h9
    exact h9
  have hall : s.sameButNew ({ U with vm := s.vm } : State) locs mc ms := by
    subst hA
    obtain ⟨e1, e2⟩ := hsame
    rw [State.setFrames_setFrames] at e1
    have h2 : (T.setVm s.vm).sameButNew ({ U with vm := s.vm } : State) [] (0 + 1) (0 + 6) := ⟨e1, e2⟩
    have h3 := X.same.trans h2
    rw [List.append_nil] at h3
    exact h3.mono hc hs
  refine ⟨U, ?_, .threw T.heap.size, hrun, hend, Or.inr ⟨T.heap.size, rfl, cls, ce, locs, hx U hWs.alike f1 (fun q hq => f2 q hq (fun z hz => nomatch hz)), hce, hO.vm, hcl, hWs, hall, hf⟩⟩
  refine st1 _ ?_
  show Steps p.tables e below (T1.setTop { method := m, pc := pc + 3, locals := ls, stack := .ref T.heap.size :: rest, locked := none }) _
  jvm_step X₁.here [X₁.here.top, hexec, d3', Value.category]
  exact hsteps
/-- 'throw new E("text")': new; dup; ldc; invokespecial; athrow -/
theorem vx_throwS {cc : ByteArray} {pc : Nat} (hexec : p.tables.exec = Jvm.exec) (hb : c.code = cc) (hl : l.stackTraces = false) {own cls text : String} {names : List String} {ik is ic mc ms sa : Nat} {A : Nat → Prop}
    (hown : s.vm.findClass own = some m.cls) (hcls : Bundle.fit cls = true) (hnames : ∀ n ∈ names, Bundle.fit n = true)
    (hk : (Cond.classLink own ik cls).before args s = true) (hini : (Cond.initialized cls).before args s = true) (hstr : vk_R own is text sa s) (hat : ∀ w ∈ vx_atS own ic cls names, w.before args s = true)
    (hgood : ∀ w ∈ Cond.classLink own ik cls :: Cond.initialized cls :: vx_atS own ic cls names, vx_ot w = true)
    (hU : vx_Zq Bundle.tN "UNASSIGNED_STACK" Bundle.steD A s s.heap) (hN : vx_Zq Bundle.tN "SUPPRESSED_SENTINEL" Bundle.listD A s s.heap) (hS : va_S A s.heap H locs) (hsize : ls.size = c.maxLocals)
    (d0 : decode cc pc = .ok (.new ik, 3)) (d3 : decode cc (pc + 3) = .ok (.dup, 1)) (d4 : decode cc (pc + 4) = .ok (.ldc is, 2)) (d6 : decode cc (pc + 6) = .ok (.invokespecial ic, 3)) (d9 : decode cc (pc + 9) = .ok (.athrow, 1))
    (hout : ∀ x ∈ c.exceptionTable.toList, covers x (pc + 9) = false)
    (hRframes : names.length + 3 < R.frames) (hRlocals : (rest.map fun v => v.category).sum + (13 * (names.length + 1) + 43) ≤ R.locals) (hRcells : cells + 1 ≤ R.cells) (hRslots : slots + 6 ≤ R.slots) (hlocks : meth.locks = false)
    (hx : ∀ t : State, s.vm.Alike t.vm → H.size ≤ t.heap.size → (∀ q : Nat, q < H.size → t.heap[q]? = H[q]?) → XC cls s t)
    (hf : ∀ z ∈ locs, free z.base) (hc : cells + 1 ≤ mc) (hs : slots + 6 ≤ ms) :
    W p l e R s m args below meth c H locs cells slots (vx_MQ below Qc XC args s mc ms free) (F0 m pc ls rest) := by
  intro T hT X
  have htr : e.platform.stackTraces = false := (show e.platform.stackTraces = l.stackTraces by rw [X.admits.platform]).trans hl
  have Y := vx_rebase X (R' := { frames := R.frames, locals := R.locals, cells := 1, slots := 6 }) (Nat.le_refl _) (Nat.le_refl _) hRcells hRslots
  obtain ⟨s', hA⟩ : ∃ z, z = (T.setVm s.vm).setFrames (.invoking m args :: below) := ⟨_, rfl⟩
  rw [← hA] at Y
  have hvm : s'.vm = s.vm := by rw [hA]; rfl
  have hhp : s'.heap = H := by rw [hA]; exact hT
  have hW0 : s.WarmedH s'.vm := by rw [hvm]; exact State.WarmedH.refl s
  have hat' : ∀ w ∈ vx_atS own ic cls names, w.before args s' = true := fun w hw => vx_ot_at hW0 hvm.symm (hgood w (List.mem_cons_of_mem _ (List.mem_cons_of_mem _ hw))) (hat w hw)
  have hk' : (Cond.classLink own ik cls).before args s' = true := vx_ot_at hW0 hvm.symm (hgood _ List.mem_cons_self) hk
  have hini' : (Cond.initialized cls).before args s' = true := vx_ot_at hW0 hvm.symm (hgood _ (List.mem_cons_of_mem _ List.mem_cons_self)) hini
  have hU' : vx_Zq Bundle.tN "UNASSIGNED_STACK" Bundle.steD A s' s'.heap := by rw [hhp]; exact vx_Zq.moved hW0.alike (hU.kept hS.2.1)
  have hN' : vx_Zq Bundle.tN "SUPPRESSED_SENTINEL" Bundle.listD A s' s'.heap := by rw [hhp]; exact vx_Zq.moved hW0.alike (hN.kept hS.2.1)
  have h : ∀ w ∈ Bundle.ownAtoms own ic cls names, w.before args s' = true := vx_own hat' (vx_isRefq hU'.1) (vx_isRefq hN'.1) hU'.2.word hN'.2.word
  have hown' : s'.vm.findClass own = some m.cls := by rw [hvm]; exact hown
  have hins : (Cond.instantiable cls 6).before args s' = true := h _ (by simp [Bundle.ownAtoms])
  obtain ⟨vm₁, cX, kX, hfX, hkX, -, -, X₁, st1⟩ := Y.newCold hexec (own := own) (C := cls) (index := ik) (n := 6) hown' hk' hins hini'
    (g := F0 m pc ls rest) rfl (by rw [hb]; exact d0) (Nat.le_refl _) (Nat.le_refl _)
  generalize hT1 : (T.setVm vm₁).pushCell { cls := cX, slots := kX.instanceTypes.map defaultValue, vm := .none } = T1 at X₁ st1
  have hcat : (Value.ref T.heap.size).category = 1 := rfl
  have hcellA : T1.heap[T.heap.size]? = some (freshCell cX kX) := by rw [← hT1]; exact State.heap_pushCell_size _ _
  have d3' : decode c.code (pc + 3) = .ok (.dup, 1) := by rw [hb]; exact d3
  have d4' : decode c.code (pc + 4) = .ok (.ldc is, 2) := by rw [hb]; exact d4
  have hstr' : vk_R own is text sa s' := vk_R.warm hW0 hstr
  obtain ⟨U, hsteps, hrun, hend, hW, hsame, ce, hce, hO⟩ := X₁.ctorThrowS hexec htr (own := own) (cls := cls) (names := names) (ic := ic) hown' hcls hnames h (fun x hx => nomatch hx) hfX hkX hcellA (by rw [hhp, hT]; exact Nat.le_refl _) (msg := .ref sa) rfl
    (g := { method := m, pc := pc + 6, locals := ls, stack := .ref sa :: .ref T.heap.size :: .ref T.heap.size :: rest, locked := none }) rfl hsize rfl rfl (rest := rest) rfl
    (by rw [hb]; exact d6) (by rw [hb]; exact d9) hout hRframes (by simp only [List.map_cons, List.sum_cons, hcat]; omega) hlocks
  obtain ⟨f1, f2⟩ := vx_frame hsame
  rw [hhp] at f1 f2
  have hWs : s.WarmedH U.vm := State.WarmedH.trans hW0 hW
  have hcl : s.vm.findClass cls = some ce.cls := by
    have h9 := hO.cls
    rw [hvm] at h9
    exact h9
  have hall : s.sameButNew ({ U with vm := s.vm } : State) locs mc ms := by
    subst hA
    obtain ⟨e1, e2⟩ := hsame
    rw [State.setFrames_setFrames] at e1
    have h2 : (T.setVm s.vm).sameButNew ({ U with vm := s.vm } : State) [] (0 + 1) (0 + 6) := ⟨e1, e2⟩
    have h3 := X.same.trans h2
    rw [List.append_nil] at h3
    exact h3.mono hc hs
  refine ⟨U, ?_, .threw T.heap.size, hrun, hend, Or.inr ⟨T.heap.size, rfl, cls, ce, locs, hx U hWs.alike f1 (fun q hq => f2 q hq (fun z hz => nomatch hz)), hce, hO.vm, hcl, hWs, hall, hf⟩⟩
  refine st1 _ ?_
  show Steps p.tables e below (T1.setTop { method := m, pc := pc + 3, locals := ls, stack := .ref T.heap.size :: rest, locked := none }) _
  jvm_step X₁.here [X₁.here.top, hexec, d3', Value.category]
  exact X₁.ldcString hexec (own := own) (text := text) (index := is) (a := sa) hown' hstr'.1 hstr'.2
    (g := { method := m, pc := pc + 4, locals := ls, stack := .ref T.heap.size :: .ref T.heap.size :: rest, locked := none }) rfl d4' _ hsteps
/-- 'throw new E("text")', the text by a wide index -/
theorem vx_throwSW {cc : ByteArray} {pc : Nat} (hexec : p.tables.exec = Jvm.exec) (hb : c.code = cc) (hl : l.stackTraces = false) {own cls text : String} {names : List String} {ik is ic mc ms sa : Nat} {A : Nat → Prop}
    (hown : s.vm.findClass own = some m.cls) (hcls : Bundle.fit cls = true) (hnames : ∀ n ∈ names, Bundle.fit n = true)
    (hk : (Cond.classLink own ik cls).before args s = true) (hini : (Cond.initialized cls).before args s = true) (hstr : vk_R own is text sa s) (hat : ∀ w ∈ vx_atS own ic cls names, w.before args s = true)
    (hgood : ∀ w ∈ Cond.classLink own ik cls :: Cond.initialized cls :: vx_atS own ic cls names, vx_ot w = true)
    (hU : vx_Zq Bundle.tN "UNASSIGNED_STACK" Bundle.steD A s s.heap) (hN : vx_Zq Bundle.tN "SUPPRESSED_SENTINEL" Bundle.listD A s s.heap) (hS : va_S A s.heap H locs) (hsize : ls.size = c.maxLocals)
    (d0 : decode cc pc = .ok (.new ik, 3)) (d3 : decode cc (pc + 3) = .ok (.dup, 1)) (d4 : decode cc (pc + 4) = .ok (.ldc_w is, 3)) (d7 : decode cc (pc + 7) = .ok (.invokespecial ic, 3)) (d10 : decode cc (pc + 10) = .ok (.athrow, 1))
    (hout : ∀ x ∈ c.exceptionTable.toList, covers x (pc + 10) = false)
    (hRframes : names.length + 3 < R.frames) (hRlocals : (rest.map fun v => v.category).sum + (13 * (names.length + 1) + 43) ≤ R.locals) (hRcells : cells + 1 ≤ R.cells) (hRslots : slots + 6 ≤ R.slots) (hlocks : meth.locks = false)
    (hx : ∀ t : State, s.vm.Alike t.vm → H.size ≤ t.heap.size → (∀ q : Nat, q < H.size → t.heap[q]? = H[q]?) → XC cls s t)
    (hf : ∀ z ∈ locs, free z.base) (hc : cells + 1 ≤ mc) (hs : slots + 6 ≤ ms) :
    W p l e R s m args below meth c H locs cells slots (vx_MQ below Qc XC args s mc ms free) (F0 m pc ls rest) := by
  intro T hT X
  have htr : e.platform.stackTraces = false := (show e.platform.stackTraces = l.stackTraces by rw [X.admits.platform]).trans hl
  have Y := vx_rebase X (R' := { frames := R.frames, locals := R.locals, cells := 1, slots := 6 }) (Nat.le_refl _) (Nat.le_refl _) hRcells hRslots
  obtain ⟨s', hA⟩ : ∃ z, z = (T.setVm s.vm).setFrames (.invoking m args :: below) := ⟨_, rfl⟩
  rw [← hA] at Y
  have hvm : s'.vm = s.vm := by rw [hA]; rfl
  have hhp : s'.heap = H := by rw [hA]; exact hT
  have hW0 : s.WarmedH s'.vm := by rw [hvm]; exact State.WarmedH.refl s
  have hat' : ∀ w ∈ vx_atS own ic cls names, w.before args s' = true := fun w hw => vx_ot_at hW0 hvm.symm (hgood w (List.mem_cons_of_mem _ (List.mem_cons_of_mem _ hw))) (hat w hw)
  have hk' : (Cond.classLink own ik cls).before args s' = true := vx_ot_at hW0 hvm.symm (hgood _ List.mem_cons_self) hk
  have hini' : (Cond.initialized cls).before args s' = true := vx_ot_at hW0 hvm.symm (hgood _ (List.mem_cons_of_mem _ List.mem_cons_self)) hini
  have hU' : vx_Zq Bundle.tN "UNASSIGNED_STACK" Bundle.steD A s' s'.heap := by rw [hhp]; exact vx_Zq.moved hW0.alike (hU.kept hS.2.1)
  have hN' : vx_Zq Bundle.tN "SUPPRESSED_SENTINEL" Bundle.listD A s' s'.heap := by rw [hhp]; exact vx_Zq.moved hW0.alike (hN.kept hS.2.1)
  have h : ∀ w ∈ Bundle.ownAtoms own ic cls names, w.before args s' = true := vx_own hat' (vx_isRefq hU'.1) (vx_isRefq hN'.1) hU'.2.word hN'.2.word
  have hown' : s'.vm.findClass own = some m.cls := by rw [hvm]; exact hown
  have hins : (Cond.instantiable cls 6).before args s' = true := h _ (by simp [Bundle.ownAtoms])
  obtain ⟨vm₁, cX, kX, hfX, hkX, -, -, X₁, st1⟩ := Y.newCold hexec (own := own) (C := cls) (index := ik) (n := 6) hown' hk' hins hini'
    (g := F0 m pc ls rest) rfl (by rw [hb]; exact d0) (Nat.le_refl _) (Nat.le_refl _)
  generalize hT1 : (T.setVm vm₁).pushCell { cls := cX, slots := kX.instanceTypes.map defaultValue, vm := .none } = T1 at X₁ st1
  have hcat : (Value.ref T.heap.size).category = 1 := rfl
  have hcellA : T1.heap[T.heap.size]? = some (freshCell cX kX) := by rw [← hT1]; exact State.heap_pushCell_size _ _
  have d3' : decode c.code (pc + 3) = .ok (.dup, 1) := by rw [hb]; exact d3
  have d4' : decode c.code (pc + 4) = .ok (.ldc_w is, 3) := by rw [hb]; exact d4
  have hstr' : vk_R own is text sa s' := vk_R.warm hW0 hstr
  obtain ⟨U, hsteps, hrun, hend, hW, hsame, ce, hce, hO⟩ := X₁.ctorThrowS hexec htr (own := own) (cls := cls) (names := names) (ic := ic) hown' hcls hnames h (fun x hx => nomatch hx) hfX hkX hcellA (by rw [hhp, hT]; exact Nat.le_refl _) (msg := .ref sa) rfl
    (g := { method := m, pc := pc + 7, locals := ls, stack := .ref sa :: .ref T.heap.size :: .ref T.heap.size :: rest, locked := none }) rfl hsize rfl rfl (rest := rest) rfl
    (by rw [hb]; exact d7) (by rw [hb]; exact d10) hout hRframes (by simp only [List.map_cons, List.sum_cons, hcat]; omega) hlocks
  obtain ⟨f1, f2⟩ := vx_frame hsame
  rw [hhp] at f1 f2
  have hWs : s.WarmedH U.vm := State.WarmedH.trans hW0 hW
  have hcl : s.vm.findClass cls = some ce.cls := by
    have h9 := hO.cls
    rw [hvm] at h9
    exact h9
  have hall : s.sameButNew ({ U with vm := s.vm } : State) locs mc ms := by
    subst hA
    obtain ⟨e1, e2⟩ := hsame
    rw [State.setFrames_setFrames] at e1
    have h2 : (T.setVm s.vm).sameButNew ({ U with vm := s.vm } : State) [] (0 + 1) (0 + 6) := ⟨e1, e2⟩
    have h3 := X.same.trans h2
    rw [List.append_nil] at h3
    exact h3.mono hc hs
  refine ⟨U, ?_, .threw T.heap.size, hrun, hend, Or.inr ⟨T.heap.size, rfl, cls, ce, locs, hx U hWs.alike f1 (fun q hq => f2 q hq (fun z hz => nomatch hz)), hce, hO.vm, hcl, hWs, hall, hf⟩⟩
  refine st1 _ ?_
  show Steps p.tables e below (T1.setTop { method := m, pc := pc + 3, locals := ls, stack := .ref T.heap.size :: rest, locked := none }) _
  jvm_step X₁.here [X₁.here.top, hexec, d3', Value.category]
  exact X₁.ldcStringW hexec (own := own) (text := text) (index := is) (a := sa) hown' hstr'.1 hstr'.2
    (g := { method := m, pc := pc + 4, locals := ls, stack := .ref T.heap.size :: .ref T.heap.size :: rest, locked := none }) rfl d4' _ hsteps
end Ends
section Bodies
variable {l : Launch}
theorem vx_ofW {y : MethodName} {ws ws' : List Cond} {rm : Room} {Pc : Array Value → State → Prop} {Qc : Array Value → State → Outcome → State → Prop} {XC : String → State → State → Prop} {mc ms : Nat} {free : Addr → Prop} {cc : ByteArray} {maxL : Nat} {ret : Option FieldType}
    (hy : plainName y.cls = true) (hw : ws = Cond.code y cc maxL ret :: ws')
    (body : ∀ p e s m args below meth c s₁, BodyLoose p l y (headSpec ws rm) cc maxL ret e s m args below meth c s₁ → c.maxLocals = maxL → (∀ x ∈ c.exceptionTable.toList, False) → Pc args s →
      W p l e (headSpec ws rm).room s m args below meth c s.heap [] 0 0 (vx_MQ below Qc XC args s mc ms free) (entryFrame m args maxL)) : vx_Met l y ws rm Pc Qc XC mc ms free := by
  refine MetFree.of_bodyS (code := cc) (maxLocals := maxL) (ret := ret) hy ?_ ?_
  · intro args s m h hn
    obtain ⟨meth, c, h1, h2, h3, h4, h5, h6, -, -⟩ := Cond.code_spec hn (atoms_spec (ws := ws) h _ (by rw [hw]; exact List.mem_cons_self))
    exact ⟨meth, c, h1, h2, h3, h4, h5, h6⟩
  · intro p e s m args below meth c s₁ B hml hP _
    have hh0 : s₁.heap = s.heap := by rw [B.state]; rfl
    have ht : ∀ x ∈ c.exceptionTable.toList, False := by
      obtain ⟨meth9, c9, h1, h2, -, -, -, -, h7, -⟩ := Cond.code_spec B.named (atoms_spec (ws := ws) B.pre _ (by rw [hw]; exact List.mem_cons_self))
      cases Option.some.inj (h1.symm.trans B.method)
      cases Option.some.inj (h2.symm.trans (Stand.of_body B).code)
      intro x hx
      rw [Array.isEmpty_iff.mp h7] at hx
      cases hx
    obtain ⟨t, a1, o, b1, b2, b3⟩ := body p e s m args below meth c s₁ B hml ht hP s₁ hh0 (Stand.of_body B)
    exact ⟨t, o, a1, b1, b2, b3⟩
/-- the table of a body with handlers -/
theorem vx_table {p : Program} {x y : MethodName} {S : Spec} {cc bytes : ByteArray} {maxL maxL' : Nat} {ret ret' : Option FieldType} {e : Env} {s s₁ : State} {m : MethodId} {args : Array Value} {below : List Frame} {meth : Method} {c : Code} {hh : List (Nat × Nat × Nat × Nat)}
    (B : BodyLoose p l y S cc maxL ret e s m args below meth c s₁) (h : (Cond.codeWith y bytes maxL' ret' hh).before args s = true) : c.exceptionTable.toList = tableOf hh := by
  obtain ⟨m9, meth9, c9, hn9, h1, h2, -, -, h6, -⟩ := Cond.codeWith_spec h
  cases Option.some.inj (hn9.symm.trans B.named)
  cases Option.some.inj (h1.symm.trans B.method)
  cases Option.some.inj (h2.symm.trans (Stand.of_body B).code)
  rw [← h6, table_eq]
end Bodies
end VXA
/-! ===== END ===== -/
/-! ===== BEGIN a static call of a method with an exception table ===== -/
section VXS
variable {p : Program} {l : Launch} {e : Env} {R : Room} {s : State} {m : MethodId} {args : Array Value} {below : List Frame} {meth : Method} {c : Code} {T : State} {H : Heap} {locs : List Loc} {cells slots : Nat}
abbrev vx_CSW (R : Room) (s : State) (args : Array Value) (own : String) (index : Nat) (y : MethodName) (bytes : ByteArray) (maxL : Nat) (ret : Option FieldType) (hh : List (Nat × Nat × Nat × Nat)) (ws : List Cond) (rm : Room) (mc ms n : Nat) : Prop :=
  (rm.cells = mc ∧ rm.slots = ms ∧ rm.frames + 1 ≤ R.frames ∧ 8 + (maxL + 11) + rm.locals ≤ R.locals ∧ (∀ w ∈ ws, ∀ (a' : Array Value) (U : State), s.WarmedH U.vm → w.before a' U = true) ∧ Cond.codeWith y bytes maxL ret hh ∈ ws) ∧
  (Cond.codeWith y bytes maxL ret hh).before args s = true ∧ (Cond.initialized y.cls).before args s = true ∧ (y.cls ≠ "java/lang/invoke/MethodHandle" ∧ y.cls ≠ "java/lang/invoke/VarHandle") ∧
  (∀ sig, parseMethodDescriptor y.desc = some sig → n = sig.parameters.length) ∧ (Cond.methodLink own index y).before args s = true ∧ (Cond.static y).before args s = true
theorem vx_cwSW {own : String} {index maxL mc ms : Nat} {y : MethodName} {bytes : ByteArray} {ret : Option FieldType} {hh : List (Nat × Nat × Nat × Nat)} {Ts ws ws' : List Cond} {rm : Room} (n : Nat) (ht : ∀ w ∈ Ts, w.before args s = true) (hT : GoodIn Ts (va_wsS own index y ws)) (hw : ws = Cond.codeWith y bytes maxL ret hh :: ws') (hrc : rm.cells = mc) (hrs : rm.slots = ms)
    (hd : y.cls ≠ "java/lang/invoke/MethodHandle" ∧ y.cls ≠ "java/lang/invoke/VarHandle" ∧ (parseMethodDescriptor y.desc).map (fun d => d.parameters.length) = some n) (hR : rm.frames + 1 ≤ R.frames ∧ 8 + (maxL + 11) + rm.locals ≤ R.locals) :
    vx_CSW R s args own index y bytes maxL ret hh ws rm mc ms n := by
  have ok : ∀ w ∈ va_wsS own index y ws, w.before args s = true := fun w h => ht w (hT w h).1
  have hG : GoodIn Ts ws := fun w h => hT w (by unfold va_wsS; exact List.mem_append_right _ h)
  have hc : Cond.codeWith y bytes maxL ret hh ∈ ws := by rw [hw]; exact List.mem_cons_self
  refine ⟨⟨hrc, hrs, hR.1, hR.2, pay_in ht hG, hc⟩, ht _ (hG _ hc).1, ok _ (by simp [va_wsS]), ⟨hd.1, hd.2.1⟩, fun sig h => ?_, ok _ (by simp [va_wsS]), ok _ (by simp [va_wsS])⟩
  have h2 := hd.2.2
  rw [h] at h2
  exact (Option.some.inj h2).symm
theorem vx_callSW (X : Stand p l e R s m args below meth c T locs cells slots) (hexec : p.tables.exec = Jvm.exec) {own : String} {index : Nat} {y : MethodName} {bytes : ByteArray} {maxL : Nat} {ret : Option FieldType} {hh : List (Nat × Nat × Nat × Nat)}
    (hown : s.vm.findClass own = some m.cls) (hlink : (Cond.methodLink own index y).before args s = true) (hstat : (Cond.static y).before args s = true) (hinit : (Cond.initialized y.cls).before args s = true)
    (hcode : (Cond.codeWith y bytes maxL ret hh).before args s = true) (hy : y.cls ≠ "java/lang/invoke/MethodHandle" ∧ y.cls ≠ "java/lang/invoke/VarHandle")
    {W9 : Nat} {Pre : Pt → Array Value → Prop} {Post : Pt → Array Value → Option Value → Pt → Prop} (hK : Back l R p e below s args y 3 W9 Pre Post)
    {g : JFrame} (hg : g.method = m) (hsize : g.locals.size = c.maxLocals) {argsL rest : List Value} (hlen : ∀ sig, parseMethodDescriptor y.desc = some sig → argsL.length = sig.parameters.length)
    (hstack : g.stack = argsL.reverse ++ rest) (hW : 2 * g.monitorRoom + (rest.map fun v => v.category).sum ≤ W9) (hdg : decode c.code g.pc = .ok (.invokestatic index, 3))
    (hpre : ∀ vm₁, s.WarmedH vm₁ → Pre ⟨T.setVm vm₁, locs, cells, slots⟩ argsL.toArray) :
    ∃ (v : Option Value) (vm₁ : Vm) (B : Pt), s.WarmedH vm₁ ∧ Stand p l e R s m args below meth c B.U B.locs B.cells B.slots ∧ Post ⟨T.setVm vm₁, locs, cells, slots⟩ argsL.toArray v B ∧
      ∀ target, Steps p.tables e below (B.U.setTop { g with pc := g.pc + 3, stack := v.toList ++ rest }) target → Steps p.tables e below (T.setTop g) target := by
  obtain ⟨mk, methM, cM, hnamed, hmethM, -, -, -, -, -, -, hsigM⟩ := Cond.codeWith_spec hcode
  have hstatic : methM.isStatic = true := Cond.static_spec hnamed hmethM hstat
  obtain ⟨kP, hkP, -⟩ := className_of_methodNamed hnamed
  have hinitP : kP.init = .initialized := Cond.initialized_spec (findClass_of_methodNamed hnamed) hkP hinit
  obtain ⟨vm₁, X₁, hstep₁⟩ := X.invokestatic hexec hown hlink hnamed hmethM hstatic hkP hinitP hy (g := g) hg (argsL := argsL) (rest := rest) (hlen _ hsigM) hstack hdg
  obtain ⟨v, B, X', hpost, hsteps⟩ := hK m meth c ⟨T.setVm vm₁, locs, cells, slots⟩ { g with stack := rest } (.invokestatic index) mk argsL.toArray X₁ hg hsize hdg hW (X₁.named hnamed) (hpre vm₁ X₁.warmed)
  exact ⟨v, vm₁, B, X₁.warmed, X', hpost, fun target h => hstep₁ _ fun acts => by rw [doInvoke_state]; exact hsteps.trans h⟩
theorem vx_runSW {y : MethodName} {bytes cc : ByteArray} {maxL nL mc ms n index : Nat} {ret : Option FieldType} {hh : List (Nat × Nat × Nat × Nat)} {ws : List Cond} {rm : Room} {Pc : Array Value → State → Prop} {Qc : Array Value → State → Outcome → State → Prop} {free : Addr → Prop} {Ts : List Cond} {own : String} {As rest : List Value} {g : JFrame}
    (S : CallFix p m c cc nL s args Ts own) (hM : Met l y ws rm Pc Qc mc ms free) (cw : vx_CSW R s args own index y bytes maxL ret hh ws rm mc ms n) (hp : PreS s H Pc As)
    (hg : g.method = m) (hn : As.length = n) (hsize : g.locals.size = nL) (hstack : g.stack = As.reverse ++ rest) (hW : 2 * g.monitorRoom + (rest.map fun v => v.category).sum ≤ 8) (hdg : decode cc g.pc = .ok (.invokestatic index, 3)) (hf : cells + mc ≤ R.cells ∧ slots + ms ≤ R.slots) :
    va_Run p l e R s m args below meth c H locs cells slots mc ms g rest (Qc As.toArray) (free) := by
  obtain ⟨⟨hrc, hrs, hfr, hlo, hws, hcw⟩, hcode, hini, hy, hlen, hl, hstt⟩ := cw
  have hK : Back l R p e below s args y 3 8 (PreOf R mc ms Pc) (PostOf Qc mc ms free) := va_backW (hh := hh) (bytes := bytes) (maxL := maxL) (ret := ret) hM hp.1 hrc hrs hfr hlo hws hcw (fun a' U hW => word_at hW (Or.inl (by first | rfl | simp [Cond.onTables, Cond.keeps, Cond.steady])) hini)
  obtain ⟨hx, hb, hml, ho, -⟩ := S
  intro T hT X
  obtain ⟨v, vm₁, ⟨U', l2, c2, s2⟩, hW₁, X', ⟨g', mk, t, L, e1, e2, hq, h1, hL, h2, h3⟩, st⟩ := vx_callSW X hx (hh := hh) (bytes := bytes) (maxL := maxL) (ret := ret) ho hl hstt hini hcode hy hK hg (hsize.trans hml.symm) (argsL := As) (rest := rest) (fun sig h => hn.trans (hlen sig h)) hstack hW (by rw [hb]; exact hdg)
    (fun vm₁ hW₁ => ⟨hf.1, hf.2, hp.2 (T.setVm vm₁) hT hW₁⟩)
  dsimp only [Pt.U, Pt.locs, Pt.cells, Pt.slots] at X' e1 e2 h1 h2 h3 st
  subst h1; subst h2; subst h3
  exact ⟨v, (T.setVm vm₁).calling g' mk As.toArray, t, U', L, hT, X', hL, e1, e2, hq, st⟩
/-- not caught here, past rows that name other classes: it goes on to the caller -/
theorem vx_outP {p : Program} {l : Launch} {e : Env} {R : Room} {s : State} {m : MethodId} {args : Array Value} {below : List Frame} {meth : Method} {c : Code} {H : Heap} {locs : List Loc} {cells slots : Nat} {free : Addr → Prop} {ls : Array Slot} {rest : List Value} {Qc : Array Value → State → Outcome → State → Prop} {XC : String → State → State → Prop}
    {pc : Nat} {own E : String} {ce : Cell} {q : Addr} {mc ms : Nat} (hown : s.vm.findClass own = some m.cls) (hlocks : meth.locks = false)
    (hpass : ∀ z ∈ c.exceptionTable.toList, covers z pc = false ∨ (z.catchType ≠ 0 ∧ ∃ nm : String, (Cond.classLink own z.catchType nm).before args s = true ∧ va_Nc E nm s)) (hcell : H[q]? = some ce) (hv : ce.vm = .none) (hcl : s.vm.findClass E = some ce.cls)
    (hx : ∀ t : State, t.heap = H → s.vm.Alike t.vm → XC E s t) (hf : ∀ z ∈ locs, free z.base) (hc : cells ≤ mc) (hs : slots ≤ ms) :
    vx_W p l e R s m args below meth c H locs cells slots (vx_MQ below Qc XC args s mc ms free) (F0 m pc ls rest) q := by
  intro T hT X
  have hpl : e.platform.magicAccessors = ({} : Platform).magicAccessors := by rw [X.admits.platform]
  obtain ⟨vm', hW', X', st⟩ := X.outThrough hlocks q (g := F0 m pc ls rest) rfl rfl rfl (cell := ce) (by rw [hT]; exact hcell) (by rw [hv]; rfl)
    (by obtain ⟨k9, h9, -⟩ := Vm.findClass_spec hcl; exact ⟨k9, h9⟩) (fun z hz => by
      rcases hpass z hz with h | ⟨hz0, nm, hl1, hn1⟩
      · exact Or.inl h
      · obtain ⟨c6, hc6, hcl6⟩ := Cond.classLink_spec hown hl1 e.platform hpl
        obtain ⟨a8, b8, h1, h2, h3⟩ := hn1
        cases Option.some.inj (h1.symm.trans hcl)
        cases Option.some.inj (h2.symm.trans hc6)
        exact Or.inr ⟨hz0, _, hcl6, h3⟩)
  obtain ⟨g₀, hfr⟩ := X'.frames_eq
  have hcell9 : ((T.setVm vm').setFrames (.throwing q :: below)).heap[q]? = some ce := by
    show T.heap[q]? = some ce
    rw [hT]; exact hcell
  have hend : Ended ((T.setVm vm').setFrames (.throwing q :: below)) below (.threw q) := State.frames_setFrames _ (State.cur_lt_of_frames hfr)
  refine ⟨(T.setVm vm').setFrames (.throwing q :: below), ?_, .threw q, X'.here.running, hend, Or.inr ⟨q, rfl, E, ce, locs, hx _ hT (X'.ends _).1.alike, hcell9, hv, hcl, (X'.ends _).1, (X'.ends _).2.mono hc hs, hf⟩⟩
  rw [X.pushThrowing_eq]
  exact st
/-- a thing of a world lies in the heap -/
theorem vx_lt {D : va_G} {cl : List vw_C} {ws : va_W} {H1 : Heap} (h : va_P D cl ws H1) {k : Nat} {q : Nat × va_E} (hk : ws[k]? = some q) : q.1 < H1.size := (h k q hk).lt
end VXS
/-! ===== END ===== -/
/-! ===== BEGIN methods with a table of their own: called by a name, returning or throwing ===== -/
section VXH
/-! vx_backW, vx_callVX, vx_callSX, vx_callVW, vx_runVW, vx_runVX, vx_runSX, vx_ofWH follow the same proofs as their sisters above (Free/Laws.lean, Shelf42/LK1.lean); vx_outP calls Shelf42/NT130.lean (outThrough). -/
section
variable {l : Launch} {R : Room} {p : Program} {e : Env} {below : List Frame} {s : State} {sargs : Array Value} {y : MethodName} {len W9 : Nat}
theorem vx_backW {ws : List Cond} {rm : Room} {Pc : Array Value → State → Prop} {Qc : Array Value → State → Outcome → State → Prop} {XC : String → State → State → Prop} {mc ms : Nat} {free : Addr → Prop} {bytes : ByteArray} {maxL : Nat} {ret : Option FieldType} {hh : List (Nat × Nat × Nat × Nat)}
    (hM : vx_Met l y ws rm Pc Qc XC mc ms free) (hblind : FrameBlind Pc) (hrc : rm.cells = mc) (hrs : rm.slots = ms)
    (hframes : rm.frames + 1 ≤ R.frames) (hlocals : W9 + (maxL + 11) + rm.locals ≤ R.locals)
    (hws : ∀ w ∈ ws, ∀ a' U, s.WarmedH U.vm → w.before a' U = true) (hcode : Cond.codeWith y bytes maxL ret hh ∈ ws) (hinit : ∀ a' U, s.WarmedH U.vm → (Cond.initialized y.cls).before a' U = true) :
    vx_Back l R p e below s sargs y len W9 (PreOf R mc ms Pc) (PostOf Qc mc ms free) (vx_Post XC mc ms free) := by
  intro m meth c A g ig mk a X hg hsize hdg hW hn hp
  have h1 : (headSpec ws rm).pre.before a A.U = true := atoms_intro fun w hw => hws w hw _ _ X.warmed
  have h2 : (Cond.codeWith y bytes maxL ret hh).before a A.U = true := hws _ hcode _ _ X.warmed
  have h3 : (Cond.initialized y.cls).before a A.U = true := hinit _ _ X.warmed
  have h4 : A.cells + (headSpec ws rm).room.cells ≤ R.cells := by rw [show (headSpec ws rm).room.cells = mc from hrc]; exact hp.1
  have h5 : A.slots + (headSpec ws rm).room.slots ≤ R.slots := by rw [show (headSpec ws rm).room.slots = ms from hrs]; exact hp.2.1
  have hPc : Pc a (A.U.calling g mk a) := hblind _ _ _ _ hp.2.2
  obtain ⟨U, Ls, c0, s0⟩ := A
  dsimp only [Pt.U, Pt.locs, Pt.cells, Pt.slots] at h1 h2 h3 h4 h5 X hn hPc ⊢
  obtain ⟨m9, methY, cY, hn9, hmY, hcY, -, hlY, -⟩ := Cond.codeWith_spec h2
  cases Option.some.inj (hn9.symm.trans hn)
  obtain ⟨kY, hkY, -⟩ := className_of_methodNamed hn
  have hinitY : kY.init = .initialized := Cond.initialized_spec (findClass_of_methodNamed hn) hkY h3
  have h : At U g.method c below := by rw [hg]; exact X.here
  have hlocals9 : W9 + (maxL + 11) + (headSpec ws rm).room.locals ≤ R.locals := hlocals
  have happ : (headSpec ws rm).appliesLoose y e.platform (U.calling g mk a) = true :=
    Spec.appliesLoose_calling (g := g) h hdg hn hkY hinitY
      (X.room_calling (g := g) (R' := (headSpec ws rm).room) hsize hmY hcY hframes (by rw [hlY]; omega) h4 h5) h1
  obtain ⟨mid, hmid⟩ := h.above
  have hfr : (U.setTop g).frames = (.java g :: mid) ++ below := by rw [State.frames_setTop' g h.top, hmid]; rfl
  obtain ⟨o, s₂, hsteps, -, hend, hq⟩ := Steps.callFree hM p X.admits X.cas X.clock (acts := []) hfr happ hPc trivial
  have hq' : vx_Q Qc XC mc ms free a (U.calling g mk a) o s₂ := hq
  rw [State.frames_setTop' g h.top] at hend
  obtain ⟨g₀, hg0⟩ := Option.isSome_iff_exists.mp h.top
  obtain ⟨r, hr⟩ := State.topJava?_eq_some.mp hg0
  have hr' : (({ U with heap := s₂.heap, slotsUsed := s₂.slotsUsed } : State).setVm s₂.vm).frames = .java g₀ :: r := hr
  rcases hq' with ⟨hqc, L, hfe, hL⟩ | ⟨q, rfl, E, ce, L, hx, hce, hcv, hcl, hW₂, hsm, hL⟩
  · obtain ⟨⟨v, rfl⟩, hW₂, e2, q2, q3, q4, q5, q6⟩ := id hfe
    have e3 : s₂ = ({ (U.calling g mk a).setFrames s₂.frames with heap := s₂.heap, slotsUsed := s₂.slotsUsed } : State).setVm s₂.vm := by
      have : s₂ = ({ s₂ with vm := (U.calling g mk a).vm } : State).setVm s₂.vm := rfl
      rw [e2] at this
      exact this
    obtain ⟨c₂, i₂, len₂, hc₂, hd₂, hf₂⟩ := hend
    have hW' : U.WarmedH s₂.vm := hW₂
    have hcc : c₂ = c := by
      have h1 : s₂.code? g.method = U.code? g.method := by
        rw [State.code?_eq, State.code?_eq, hW'.alike.method?]
      exact Option.some.inj (hc₂.symm.trans (h1.trans h.code))
    subst hcc
    have hlen : len₂ = len := by rw [hdg] at hd₂; cases hd₂; rfl
    subst hlen
    have hs₂ : s₂ = (({ U with heap := s₂.heap, slotsUsed := s₂.slotsUsed } : State).setVm s₂.vm).setTop { g with pc := g.pc + len₂, stack := v.toList ++ g.stack } := by
      refine e3.trans ?_
      rw [hf₂, State.calling_eq h.top, State.setFrames_setFrames, State.setTop_of_frames _ hr', hr]
      rfl
    have hsame : U.sameButNew ({ U with heap := s₂.heap, slotsUsed := s₂.slotsUsed } : State) L mc ms := by
      refine ⟨?_, q2, q3, q4, q5, q6⟩
      obtain ⟨t, ht, -⟩ := State.frames_cons hr
      show ({ U with heap := s₂.heap, slotsUsed := s₂.slotsUsed } : State) = { U.setFrames U.frames with heap := s₂.heap, slotsUsed := s₂.slotsUsed }
      rw [State.setFrames_self ht]
    subst hg
    refine Or.inl ⟨v, ⟨(({ U with heap := s₂.heap, slotsUsed := s₂.slotsUsed } : State).setVm s₂.vm), Ls ++ L, c0 + mc, s0 + ms⟩,
      ⟨X.admits, X.cas, X.clock, X.frames, X.room, X.hears, X.method, X.code, (X.here.setHeapUsed s₂.heap s₂.slotsUsed).setVm hW'.alike, X.tail, State.WarmedH.trans X.warmed hW', X.limits, X.bytes, X.same.trans (hsame.setVm s.vm)⟩,
      ⟨g, mk, s₂, L, rfl, rfl, hqc, rfl, hL, rfl, rfl⟩, ?_⟩
    show Steps p.tables e below _ ((({ U with heap := s₂.heap, slotsUsed := s₂.slotsUsed } : State).setVm s₂.vm).setTop { g with pc := g.pc + len₂, stack := v.toList ++ g.stack })
    rw [← hs₂]
    exact hsteps
  · obtain ⟨e2, q2, q3, q4, q5, q6⟩ := id hsm
    have e3 : s₂ = ({ (U.calling g mk a).setFrames s₂.frames with heap := s₂.heap, slotsUsed := s₂.slotsUsed } : State).setVm s₂.vm := by
      have : s₂ = ({ s₂ with vm := (U.calling g mk a).vm } : State).setVm s₂.vm := rfl
      rw [e2] at this
      exact this
    have hf₂ : s₂.frames = .throwing q :: .java g :: U.frames.tail := hend
    have hW' : U.WarmedH s₂.vm := hW₂
    have hs₂ : s₂ = ((({ U with heap := s₂.heap, slotsUsed := s₂.slotsUsed } : State).setVm s₂.vm).setTop g).pushFrame (.throwing q) := by
      refine e3.trans ?_
      rw [hf₂, State.calling_eq h.top, State.setFrames_setFrames, State.pushFrame, State.frames_setTop _ hr', State.setTop_of_frames _ hr', State.setFrames_setFrames, hr]
      rfl
    have hsame : U.sameButNew ({ U with heap := s₂.heap, slotsUsed := s₂.slotsUsed } : State) L mc ms := by
      refine ⟨?_, q2, q3, q4, q5, q6⟩
      obtain ⟨t, ht, -⟩ := State.frames_cons hr
      show ({ U with heap := s₂.heap, slotsUsed := s₂.slotsUsed } : State) = { U.setFrames U.frames with heap := s₂.heap, slotsUsed := s₂.slotsUsed }
      rw [State.setFrames_self ht]
    subst hg
    refine Or.inr ⟨q, ⟨(({ U with heap := s₂.heap, slotsUsed := s₂.slotsUsed } : State).setVm s₂.vm), Ls ++ L, c0 + mc, s0 + ms⟩,
      ⟨X.admits, X.cas, X.clock, X.frames, X.room, X.hears, X.method, X.code, (X.here.setHeapUsed s₂.heap s₂.slotsUsed).setVm hW'.alike, X.tail, State.WarmedH.trans X.warmed hW', X.limits, X.bytes, X.same.trans (hsame.setVm s.vm)⟩,
      ⟨g, mk, s₂, L, E, ce, rfl, rfl, hx, hce, hcv, hcl, rfl, hL, rfl, rfl⟩, ?_⟩
    show Steps p.tables e below _ (((({ U with heap := s₂.heap, slotsUsed := s₂.slotsUsed } : State).setVm s₂.vm).setTop g).pushFrame (.throwing q))
    rw [← hs₂]
    exact hsteps
end
variable {p : Program} {l : Launch} {e : Env} {R : Room} {s : State} {m : MethodId} {args : Array Value} {below : List Frame} {meth : Method} {c : Code} {T : State} {H : Heap} {locs : List Loc} {cells slots : Nat}
theorem vx_callVX (X : Stand p l e R s m args below meth c T locs cells slots) (hexec : p.tables.exec = Jvm.exec) {own C : String} {index : Nat} {y : MethodName} {bytes : ByteArray} {maxL : Nat} {ret : Option FieldType} {hh : List (Nat × Nat × Nat × Nat)}
    (hown : s.vm.findClass own = some m.cls) (hlink : (Cond.methodLink own index y).before args s = true) (hinst : (Cond.instanceMethod y).before args s = true) (hsel : (Cond.selects C y y).before args s = true)
    (hcode : (Cond.codeWith y bytes maxL ret hh).before args s = true) (hy : y.cls ≠ "java/lang/invoke/MethodHandle" ∧ y.cls ≠ "java/lang/invoke/VarHandle")
    {W9 : Nat} {Pre : Pt → Array Value → Prop} {Post : Pt → Array Value → Option Value → Pt → Prop} {PostX : Pt → Array Value → Addr → Pt → Prop} (hK : vx_Back l R p e below s args y 3 W9 Pre Post PostX)
    {b : Addr} {cellB : Cell} (hcell : T.heap[b]? = some cellB) (hobj : cellB.vm.isStatics = false) (hcls : s.vm.findClass C = some cellB.cls)
    {g : JFrame} (hg : g.method = m) (hsize : g.locals.size = c.maxLocals) {argsL rest : List Value} (hlen : ∀ sig, parseMethodDescriptor y.desc = some sig → argsL.length = sig.parameters.length)
    (hstack : g.stack = argsL.reverse ++ .ref b :: rest) (hW : 2 * g.monitorRoom + (rest.map fun v => v.category).sum ≤ W9) (hdg : decode c.code g.pc = .ok (.invokevirtual index, 3))
    (hpre : ∀ vm₁, s.WarmedH vm₁ → Pre ⟨T.setVm vm₁, locs, cells, slots⟩ (Value.ref b :: argsL).toArray) :
    (∃ (v : Option Value) (vm₁ : Vm) (B : Pt), s.WarmedH vm₁ ∧ Stand p l e R s m args below meth c B.U B.locs B.cells B.slots ∧ Post ⟨T.setVm vm₁, locs, cells, slots⟩ (Value.ref b :: argsL).toArray v B ∧
      ∀ target, Steps p.tables e below (B.U.setTop { g with pc := g.pc + 3, stack := v.toList ++ rest }) target → Steps p.tables e below (T.setTop g) target) ∨
    (∃ (q : Addr) (vm₁ : Vm) (B : Pt), s.WarmedH vm₁ ∧ Stand p l e R s m args below meth c B.U B.locs B.cells B.slots ∧ PostX ⟨T.setVm vm₁, locs, cells, slots⟩ (Value.ref b :: argsL).toArray q B ∧
      Steps p.tables e below (T.setTop g) ((B.U.setTop { g with stack := rest }).pushFrame (.throwing q))) := by
  obtain ⟨mk, methM, hnamed, hmethM, hstM, habM⟩ := Cond.instanceMethod_spec hinst
  obtain ⟨m8, methM', cM, hn8, hmethM', -, -, -, -, -, -, hsigM⟩ := Cond.codeWith_spec hcode
  cases Option.some.inj (hn8.symm.trans hnamed)
  cases hmethM.symm.trans hmethM'
  obtain ⟨c2, r2, m2, q1, q2, q3, q4, kP, hkP, hkPi⟩ := Cond.selects_spec hsel
  cases hcls.symm.trans q1
  cases (State.methodFound?_of_named hnamed hy).symm.trans q2
  cases hnamed.symm.trans q3
  have hselP : selectMethod e.platform s.vm cellB.cls mk = .method mk := by rw [Launch.admits_selectMethod X.admits]; exact q4
  obtain ⟨vm₁, X₁, hstep₁⟩ := X.invokevirtual hexec hown hlink hnamed hmethM hstM hkP hkPi hy (a := b) (cell := cellB) hcell
    (fun z h => by rw [h] at hobj; cases hobj) hselP hmethM habM hkP hkPi (g := g) hg (argsL := argsL) (rest := rest) (hlen _ hsigM) hstack hdg
  rcases hK m meth c ⟨T.setVm vm₁, locs, cells, slots⟩ { g with stack := rest } (.invokevirtual index) mk (Value.ref b :: argsL).toArray X₁ hg hsize hdg hW (X₁.named hnamed) (hpre vm₁ X₁.warmed) with ⟨v, B, X', hpost, hsteps⟩ | ⟨q, B, X', hpost, hsteps⟩
  · exact Or.inl ⟨v, vm₁, B, X₁.warmed, X', hpost, fun target h => hstep₁ _ fun acts => by rw [doInvoke_state]; exact hsteps.trans h⟩
  · exact Or.inr ⟨q, vm₁, B, X₁.warmed, X', hpost, hstep₁ _ fun acts => by rw [doInvoke_state]; exact hsteps⟩
theorem vx_callSX (X : Stand p l e R s m args below meth c T locs cells slots) (hexec : p.tables.exec = Jvm.exec) {own : String} {index : Nat} {y : MethodName} {bytes : ByteArray} {maxL : Nat} {ret : Option FieldType} {hh : List (Nat × Nat × Nat × Nat)}
    (hown : s.vm.findClass own = some m.cls) (hlink : (Cond.methodLink own index y).before args s = true) (hstat : (Cond.static y).before args s = true) (hinit : (Cond.initialized y.cls).before args s = true)
    (hcode : (Cond.codeWith y bytes maxL ret hh).before args s = true) (hy : y.cls ≠ "java/lang/invoke/MethodHandle" ∧ y.cls ≠ "java/lang/invoke/VarHandle")
    {W9 : Nat} {Pre : Pt → Array Value → Prop} {Post : Pt → Array Value → Option Value → Pt → Prop} {PostX : Pt → Array Value → Addr → Pt → Prop} (hK : vx_Back l R p e below s args y 3 W9 Pre Post PostX)
    {g : JFrame} (hg : g.method = m) (hsize : g.locals.size = c.maxLocals) {argsL rest : List Value} (hlen : ∀ sig, parseMethodDescriptor y.desc = some sig → argsL.length = sig.parameters.length)
    (hstack : g.stack = argsL.reverse ++ rest) (hW : 2 * g.monitorRoom + (rest.map fun v => v.category).sum ≤ W9) (hdg : decode c.code g.pc = .ok (.invokestatic index, 3))
    (hpre : ∀ vm₁, s.WarmedH vm₁ → Pre ⟨T.setVm vm₁, locs, cells, slots⟩ argsL.toArray) :
    (∃ (v : Option Value) (vm₁ : Vm) (B : Pt), s.WarmedH vm₁ ∧ Stand p l e R s m args below meth c B.U B.locs B.cells B.slots ∧ Post ⟨T.setVm vm₁, locs, cells, slots⟩ argsL.toArray v B ∧
      ∀ target, Steps p.tables e below (B.U.setTop { g with pc := g.pc + 3, stack := v.toList ++ rest }) target → Steps p.tables e below (T.setTop g) target) ∨
    (∃ (q : Addr) (vm₁ : Vm) (B : Pt), s.WarmedH vm₁ ∧ Stand p l e R s m args below meth c B.U B.locs B.cells B.slots ∧ PostX ⟨T.setVm vm₁, locs, cells, slots⟩ argsL.toArray q B ∧
      Steps p.tables e below (T.setTop g) ((B.U.setTop { g with stack := rest }).pushFrame (.throwing q))) := by
  obtain ⟨mk, methM, cM, hnamed, hmethM, -, -, -, -, -, -, hsigM⟩ := Cond.codeWith_spec hcode
  have hstatic : methM.isStatic = true := Cond.static_spec hnamed hmethM hstat
  obtain ⟨kP, hkP, -⟩ := className_of_methodNamed hnamed
  have hinitP : kP.init = .initialized := Cond.initialized_spec (findClass_of_methodNamed hnamed) hkP hinit
  obtain ⟨vm₁, X₁, hstep₁⟩ := X.invokestatic hexec hown hlink hnamed hmethM hstatic hkP hinitP hy (g := g) hg (argsL := argsL) (rest := rest) (hlen _ hsigM) hstack hdg
  rcases hK m meth c ⟨T.setVm vm₁, locs, cells, slots⟩ { g with stack := rest } (.invokestatic index) mk argsL.toArray X₁ hg hsize hdg hW (X₁.named hnamed) (hpre vm₁ X₁.warmed) with ⟨v, B, X', hpost, hsteps⟩ | ⟨q, B, X', hpost, hsteps⟩
  · exact Or.inl ⟨v, vm₁, B, X₁.warmed, X', hpost, fun target h => hstep₁ _ fun acts => by rw [doInvoke_state]; exact hsteps.trans h⟩
  · exact Or.inr ⟨q, vm₁, B, X₁.warmed, X', hpost, hstep₁ _ fun acts => by rw [doInvoke_state]; exact hsteps⟩
theorem vx_callVW (X : Stand p l e R s m args below meth c T locs cells slots) (hexec : p.tables.exec = Jvm.exec) {own C : String} {index : Nat} {y : MethodName} {bytes : ByteArray} {maxL : Nat} {ret : Option FieldType} {hh : List (Nat × Nat × Nat × Nat)}
    (hown : s.vm.findClass own = some m.cls) (hlink : (Cond.methodLink own index y).before args s = true) (hinst : (Cond.instanceMethod y).before args s = true) (hsel : (Cond.selects C y y).before args s = true)
    (hcode : (Cond.codeWith y bytes maxL ret hh).before args s = true) (hy : y.cls ≠ "java/lang/invoke/MethodHandle" ∧ y.cls ≠ "java/lang/invoke/VarHandle")
    {W9 : Nat} {Pre : Pt → Array Value → Prop} {Post : Pt → Array Value → Option Value → Pt → Prop} (hK : Back l R p e below s args y 3 W9 Pre Post)
    {b : Addr} {cellB : Cell} (hcell : T.heap[b]? = some cellB) (hobj : cellB.vm.isStatics = false) (hcls : s.vm.findClass C = some cellB.cls)
    {g : JFrame} (hg : g.method = m) (hsize : g.locals.size = c.maxLocals) {argsL rest : List Value} (hlen : ∀ sig, parseMethodDescriptor y.desc = some sig → argsL.length = sig.parameters.length)
    (hstack : g.stack = argsL.reverse ++ .ref b :: rest) (hW : 2 * g.monitorRoom + (rest.map fun v => v.category).sum ≤ W9) (hdg : decode c.code g.pc = .ok (.invokevirtual index, 3))
    (hpre : ∀ vm₁, s.WarmedH vm₁ → Pre ⟨T.setVm vm₁, locs, cells, slots⟩ (Value.ref b :: argsL).toArray) :
    ∃ (v : Option Value) (vm₁ : Vm) (B : Pt), s.WarmedH vm₁ ∧ Stand p l e R s m args below meth c B.U B.locs B.cells B.slots ∧ Post ⟨T.setVm vm₁, locs, cells, slots⟩ (Value.ref b :: argsL).toArray v B ∧
      ∀ target, Steps p.tables e below (B.U.setTop { g with pc := g.pc + 3, stack := v.toList ++ rest }) target → Steps p.tables e below (T.setTop g) target := by
  obtain ⟨mk, methM, hnamed, hmethM, hstM, habM⟩ := Cond.instanceMethod_spec hinst
  obtain ⟨m8, methM', cM, hn8, hmethM', -, -, -, -, -, -, hsigM⟩ := Cond.codeWith_spec hcode
  cases Option.some.inj (hn8.symm.trans hnamed)
  cases hmethM.symm.trans hmethM'
  obtain ⟨c2, r2, m2, q1, q2, q3, q4, kP, hkP, hkPi⟩ := Cond.selects_spec hsel
  cases hcls.symm.trans q1
  cases (State.methodFound?_of_named hnamed hy).symm.trans q2
  cases hnamed.symm.trans q3
  have hselP : selectMethod e.platform s.vm cellB.cls mk = .method mk := by rw [Launch.admits_selectMethod X.admits]; exact q4
  obtain ⟨vm₁, X₁, hstep₁⟩ := X.invokevirtual hexec hown hlink hnamed hmethM hstM hkP hkPi hy (a := b) (cell := cellB) hcell
    (fun z h => by rw [h] at hobj; cases hobj) hselP hmethM habM hkP hkPi (g := g) hg (argsL := argsL) (rest := rest) (hlen _ hsigM) hstack hdg
  obtain ⟨v, B, X', hpost, hsteps⟩ := hK m meth c ⟨T.setVm vm₁, locs, cells, slots⟩ { g with stack := rest } (.invokevirtual index) mk (Value.ref b :: argsL).toArray X₁ hg hsize hdg hW (X₁.named hnamed) (hpre vm₁ X₁.warmed)
  exact ⟨v, vm₁, B, X₁.warmed, X', hpost, fun target h => hstep₁ _ fun acts => by rw [doInvoke_state]; exact hsteps.trans h⟩
abbrev vx_CVW (R : Room) (s : State) (args : Array Value) (own C : String) (index : Nat) (y : MethodName) (bytes : ByteArray) (maxL : Nat) (ret : Option FieldType) (hh : List (Nat × Nat × Nat × Nat)) (ws : List Cond) (rm : Room) (mc ms n : Nat) : Prop :=
  (rm.cells = mc ∧ rm.slots = ms ∧ rm.frames + 1 ≤ R.frames ∧ 8 + (maxL + 11) + rm.locals ≤ R.locals ∧ (∀ w ∈ ws, ∀ (a' : Array Value) (U : State), s.WarmedH U.vm → w.before a' U = true) ∧ Cond.codeWith y bytes maxL ret hh ∈ ws) ∧
  (Cond.codeWith y bytes maxL ret hh).before args s = true ∧ (Cond.initialized y.cls).before args s = true ∧ (y.cls ≠ "java/lang/invoke/MethodHandle" ∧ y.cls ≠ "java/lang/invoke/VarHandle") ∧
  (∀ sig, parseMethodDescriptor y.desc = some sig → n = sig.parameters.length) ∧ (Cond.methodLink own index y).before args s = true ∧ (Cond.instanceMethod y).before args s = true ∧ (Cond.selects C y y).before args s = true
theorem vx_cwVW {own C : String} {index maxL mc ms : Nat} {y : MethodName} {bytes : ByteArray} {ret : Option FieldType} {hh : List (Nat × Nat × Nat × Nat)} {Ts ws ws' : List Cond} {rm : Room} (n : Nat) (ht : ∀ w ∈ Ts, w.before args s = true) (hT : GoodIn Ts (wsV own index C y ws)) (hw : ws = Cond.codeWith y bytes maxL ret hh :: ws') (hrc : rm.cells = mc) (hrs : rm.slots = ms)
    (hd : y.cls = C ∧ y.cls ≠ "java/lang/invoke/MethodHandle" ∧ y.cls ≠ "java/lang/invoke/VarHandle" ∧ (parseMethodDescriptor y.desc).map (fun d => d.parameters.length) = some n) (hR : rm.frames + 1 ≤ R.frames ∧ 8 + (maxL + 11) + rm.locals ≤ R.locals) :
    vx_CVW R s args own C index y bytes maxL ret hh ws rm mc ms n := by
  obtain ⟨hC, hd⟩ := hd
  subst hC
  have ok : ∀ w ∈ wsV own index y.cls y ws, w.before args s = true := fun w h => ht w (hT w h).1
  have hG : GoodIn Ts ws := fun w h => hT w (by unfold wsV; exact List.mem_append_right _ h)
  have hc : Cond.codeWith y bytes maxL ret hh ∈ ws := by rw [hw]; exact List.mem_cons_self
  refine ⟨⟨hrc, hrs, hR.1, hR.2, pay_in ht hG, hc⟩, ht _ (hG _ hc).1, ok _ (by simp [wsV]), ⟨hd.1, hd.2.1⟩, fun sig h => ?_, ok _ (by simp [wsV]), ok _ (by simp [wsV]), ok _ (by simp [wsV])⟩
  have h2 := hd.2.2
  rw [h] at h2
  exact (Option.some.inj h2).symm
theorem vx_runVW {y : MethodName} {bytes cc : ByteArray} {maxL nL mc ms n index : Nat} {ret : Option FieldType} {hh : List (Nat × Nat × Nat × Nat)} {ws : List Cond} {rm : Room} {Pc : Array Value → State → Prop} {Qc : Array Value → State → Outcome → State → Prop} {free : Addr → Prop} {Ts : List Cond} {own C : String} {b : Addr} {As rest : List Value} {g : JFrame}
    (S : CallFix p m c cc nL s args Ts own) (hM : Met l y ws rm Pc Qc mc ms free) (cw : vx_CVW R s args own C index y bytes maxL ret hh ws rm mc ms n) (hp : PreV s H C b Pc As)
    (hg : g.method = m) (hn : As.length = n) (hsize : g.locals.size = nL) (hstack : g.stack = As.reverse ++ .ref b :: rest) (hW : 2 * g.monitorRoom + (rest.map fun v => v.category).sum ≤ 8) (hdg : decode cc g.pc = .ok (.invokevirtual index, 3)) (hf : cells + mc ≤ R.cells ∧ slots + ms ≤ R.slots) :
    va_Run p l e R s m args below meth c H locs cells slots mc ms g rest (Qc (Value.ref b :: As).toArray) free := by
  obtain ⟨⟨hrc, hrs, hfr, hlo, hws, hcw⟩, hcode, hini, hy, hlen, hl, hin, hse⟩ := cw
  have hK : Back l R p e below s args y 3 8 (PreOf R mc ms Pc) (PostOf Qc mc ms free) := va_backW (hh := hh) (bytes := bytes) (maxL := maxL) (ret := ret) hM hp.1 hrc hrs hfr hlo hws hcw (fun a' U hW => word_at hW (Or.inl (by first | rfl | simp [Cond.onTables, Cond.keeps, Cond.steady])) hini)
  obtain ⟨hx, hb, hml, ho, -⟩ := S
  obtain ⟨-, ⟨cellB, hcB, hoB, hclB⟩, hPc⟩ := hp
  intro T hT X
  obtain ⟨v, vm₁, ⟨U', l2, c2, s2⟩, hW₁, X', ⟨g', mk, t, L, e1, e2, hq, h1, hL, h2, h3⟩, st⟩ := vx_callVW X hx (C := C) (hh := hh) (bytes := bytes) (maxL := maxL) (ret := ret) ho hl hin hse hcode hy hK (by rw [hT]; exact hcB) hoB hclB hg (hsize.trans hml.symm) (argsL := As) (rest := rest) (fun sig h => hn.trans (hlen sig h)) hstack hW (by rw [hb]; exact hdg)
    (fun vm₁ hW₁ => ⟨hf.1, hf.2, hPc (T.setVm vm₁) hT hW₁⟩)
  dsimp only [Pt.U, Pt.locs, Pt.cells, Pt.slots] at X' e1 e2 h1 h2 h3 st
  subst h1; subst h2; subst h3
  exact ⟨v, (T.setVm vm₁).calling g' mk (Value.ref b :: As).toArray, t, U', L, hT, X', hL, e1, e2, hq, st⟩
section
variable {y : MethodName} {bytes cc : ByteArray} {maxL nL mc ms n index : Nat} {ret : Option FieldType} {ws : List Cond} {rm : Room} {Pc : Array Value → State → Prop} {Qc : Array Value → State → Outcome → State → Prop} {XC : String → State → State → Prop} {free : Addr → Prop} {Ts : List Cond} {own C : String} {b : Addr} {As rest : List Value} {g : JFrame}
theorem vx_runVX {hh : List (Nat × Nat × Nat × Nat)} (S : CallFix p m c cc nL s args Ts own) (hM : vx_Met l y ws rm Pc Qc XC mc ms free) (cw : vx_CVW R s args own C index y bytes maxL ret hh ws rm mc ms n) (hp : PreV s H C b Pc As)
    (hg : g.method = m) (hn : As.length = n) (hsize : g.locals.size = nL) (hstack : g.stack = As.reverse ++ .ref b :: rest) (hW : 2 * g.monitorRoom + (rest.map fun v => v.category).sum ≤ 8) (hdg : decode cc g.pc = .ok (.invokevirtual index, 3)) (hf : cells + mc ≤ R.cells ∧ slots + ms ≤ R.slots) :
    vx_Run p l e R s m args below meth c H locs cells slots mc ms g rest (Qc (Value.ref b :: As).toArray) XC free := by
  obtain ⟨⟨hrc, hrs, hfr, hlo, hws, hcw⟩, hcode, hini, hy, hlen, hl, hin, hse⟩ := cw
  have hK : vx_Back l R p e below s args y 3 8 (PreOf R mc ms Pc) (PostOf Qc mc ms free) (vx_Post XC mc ms free) := vx_backW (hh := hh) (bytes := bytes) (maxL := maxL) (ret := ret) hM hp.1 hrc hrs hfr hlo hws hcw (fun a' U hW => word_at hW (Or.inl (by first | rfl | simp [Cond.onTables, Cond.keeps, Cond.steady])) hini)
  obtain ⟨hx, hb, hml, ho, -⟩ := S
  obtain ⟨-, ⟨cellB, hcB, hoB, hclB⟩, hPc⟩ := hp
  intro T hT X
  rcases vx_callVX X hx (C := C) (hh := hh) (bytes := bytes) (maxL := maxL) (ret := ret) ho hl hin hse hcode hy hK (by rw [hT]; exact hcB) hoB hclB hg (hsize.trans hml.symm) (argsL := As) (rest := rest) (fun sig h => hn.trans (hlen sig h)) hstack hW (by rw [hb]; exact hdg)
    (fun vm₁ hW₁ => ⟨hf.1, hf.2, hPc (T.setVm vm₁) hT hW₁⟩) with ⟨v, vm₁, ⟨U', l2, c2, s2⟩, hW₁, X', ⟨g', mk, t, L, e1, e2, hq, h1, hL, h2, h3⟩, st⟩ | ⟨q, vm₁, ⟨U', l2, c2, s2⟩, hW₁, X', ⟨g', mk, t, L, E, ce, e1, e2, hq, hce, hcv, hcl, h1, hL, h2, h3⟩, st⟩
  · dsimp only [Pt.U, Pt.locs, Pt.cells, Pt.slots] at X' e1 e2 h1 h2 h3 st
    subst h1; subst h2; subst h3
    exact Or.inl ⟨v, (T.setVm vm₁).calling g' mk (Value.ref b :: As).toArray, t, U', L, hT, X', hL, e1, e2, hq, st⟩
  · dsimp only [Pt.U, Pt.locs, Pt.cells, Pt.slots] at X' e1 e2 h1 h2 h3 st hcl
    subst h1; subst h2; subst h3
    exact Or.inr ⟨q, (T.setVm vm₁).calling g' mk (Value.ref b :: As).toArray, t, U', L, E, ce, hT, X', hL, e1, e2, hq, hce, hcv, vx_cls hW₁ hcl, st⟩
theorem vx_runSX {hh : List (Nat × Nat × Nat × Nat)} (S : CallFix p m c cc nL s args Ts own) (hM : vx_Met l y ws rm Pc Qc XC mc ms free) (cw : vx_CSW R s args own index y bytes maxL ret hh ws rm mc ms n) (hp : PreS s H Pc As)
    (hg : g.method = m) (hn : As.length = n) (hsize : g.locals.size = nL) (hstack : g.stack = As.reverse ++ rest) (hW : 2 * g.monitorRoom + (rest.map fun v => v.category).sum ≤ 8) (hdg : decode cc g.pc = .ok (.invokestatic index, 3)) (hf : cells + mc ≤ R.cells ∧ slots + ms ≤ R.slots) :
    vx_Run p l e R s m args below meth c H locs cells slots mc ms g rest (Qc As.toArray) XC free := by
  obtain ⟨⟨hrc, hrs, hfr, hlo, hws, hcw⟩, hcode, hini, hy, hlen, hl, hstt⟩ := cw
  have hK : vx_Back l R p e below s args y 3 8 (PreOf R mc ms Pc) (PostOf Qc mc ms free) (vx_Post XC mc ms free) := vx_backW (hh := hh) (bytes := bytes) (maxL := maxL) (ret := ret) hM hp.1 hrc hrs hfr hlo hws hcw (fun a' U hW => word_at hW (Or.inl (by first | rfl | simp [Cond.onTables, Cond.keeps, Cond.steady])) hini)
  obtain ⟨hx, hb, hml, ho, -⟩ := S
  intro T hT X
  rcases vx_callSX X hx (hh := hh) (bytes := bytes) (maxL := maxL) (ret := ret) ho hl hstt hini hcode hy hK hg (hsize.trans hml.symm) (argsL := As) (rest := rest) (fun sig h => hn.trans (hlen sig h)) hstack hW (by rw [hb]; exact hdg)
    (fun vm₁ hW₁ => ⟨hf.1, hf.2, hp.2 (T.setVm vm₁) hT hW₁⟩) with ⟨v, vm₁, ⟨U', l2, c2, s2⟩, hW₁, X', ⟨g', mk, t, L, e1, e2, hq, h1, hL, h2, h3⟩, st⟩ | ⟨q, vm₁, ⟨U', l2, c2, s2⟩, hW₁, X', ⟨g', mk, t, L, E, ce, e1, e2, hq, hce, hcv, hcl, h1, hL, h2, h3⟩, st⟩
  · dsimp only [Pt.U, Pt.locs, Pt.cells, Pt.slots] at X' e1 e2 h1 h2 h3 st
    subst h1; subst h2; subst h3
    exact Or.inl ⟨v, (T.setVm vm₁).calling g' mk As.toArray, t, U', L, hT, X', hL, e1, e2, hq, st⟩
  · dsimp only [Pt.U, Pt.locs, Pt.cells, Pt.slots] at X' e1 e2 h1 h2 h3 st hcl
    subst h1; subst h2; subst h3
    exact Or.inr ⟨q, (T.setVm vm₁).calling g' mk As.toArray, t, U', L, E, ce, hT, X', hL, e1, e2, hq, hce, hcv, vx_cls hW₁ hcl, st⟩
end
end VXH
theorem vx_ofWH {l : Launch} {y : MethodName} {ws ws' : List Cond} {rm : Room} {Pc : Array Value → State → Prop} {Qc : Array Value → State → Outcome → State → Prop} {XC : String → State → State → Prop} {mc ms : Nat} {free : Addr → Prop} {cc : ByteArray} {maxL : Nat} {ret : Option FieldType} {hh : List (Nat × Nat × Nat × Nat)}
    (hy : plainName y.cls = true) (hw : ws = Cond.codeWith y cc maxL ret hh :: ws')
    (body : ∀ p e s m args below meth c s₁, BodyLoose p l y (headSpec ws rm) cc maxL ret e s m args below meth c s₁ → c.maxLocals = maxL → Pc args s →
      W p l e (headSpec ws rm).room s m args below meth c s.heap [] 0 0 (vx_MQ below Qc XC args s mc ms free) (entryFrame m args maxL)) : vx_Met l y ws rm Pc Qc XC mc ms free := by
  refine MetFree.of_bodyS (code := cc) (maxLocals := maxL) (ret := ret) hy ?_ ?_
  · intro args s m h hn
    obtain ⟨m9, meth, c, hn9, h1, h2, h3, h4, -, h5, h6, -⟩ := Cond.codeWith_spec (atoms_spec (ws := ws) h _ (by rw [hw]; exact List.mem_cons_self))
    cases hn.symm.trans hn9
    exact ⟨meth, c, h1, h2, h3, h4, h5, h6⟩
  · intro p e s m args below meth c s₁ B hml hP _
    have hh0 : s₁.heap = s.heap := by rw [B.state]; rfl
    obtain ⟨t, a1, o, b1, b2, b3⟩ := body p e s m args below meth c s₁ B hml hP s₁ hh0 (Stand.of_body B)
    exact ⟨t, o, a1, b1, b2, b3⟩
/-! ===== END ===== -/
/-! ===== BEGIN what the machine throws by itself, no traces kept ===== -/
section VXM
set_option maxHeartbeats 1000000 in
/-- the machine throws cls with the message text, no traces kept: from its note over the frame g to 'throwing' over the same frame (follows the proofs of Stand.vmThrowsMessage, Shelf/KitTracedVmS.lean, and Stand.throwsMessageColdBareV, StandMessageColdV.lean, without the step out of the frame) -/
theorem vx_vmAt {p : Program} {l : Launch} {e : Env} {R : Room} {s : State} {m₀ : MethodId} {args : Array Value} {below : List Frame} {meth : Method} {c : Code} {W : State} {locs : List Loc} {cells slots : Nat}
    (X : Stand p l e R s m₀ args below meth c W locs cells slots) (hexec : p.tables.exec = Jvm.exec) (htr : e.platform.stackTraces = false) {cls : String} {names : List String} {text : String}
    (hcls : Bundle.fit cls = true) (hnames : ∀ n ∈ names, Bundle.fit n = true) (hsoe : (cls == "java/lang/StackOverflowError") = false) (hoom : (cls == "java/lang/OutOfMemoryError") = false)
    (h : ∀ a ∈ Bundle.messageArmAtoms cls names, a.before args s = true)
    (hlocs : ∀ x ∈ locs, ∀ cell, s.heap[x.base]? = some cell → cell.vm.isStatics = false)
    (htext : (text == notModelled) = false) (hlimit : ¬ (stringBytes (stringToUtf16 text)).size > e.platform.arrayLengthLimit) (hheap : ¬ (stringBytes (stringToUtf16 text)).size * componentBytes .byte > e.platform.maxHeapBytes)
    {g : JFrame} (hg : g.method = m₀) (hsize : g.locals.size = c.maxLocals)
    (hRframes : names.length + 4 < R.frames) (hRlocals : 2 * g.monitorRoom + (g.stack.map fun v => v.category).sum + 10240 ≤ R.locals) (hshort : 13 * names.length + 55 ≤ 10240)
    (hRcells : cells + 3 ≤ R.cells) (hRslots : slots + ((stringBytes (stringToUtf16 text)).size + 4 + 6) ≤ R.slots) (hlocks : meth.locks = false) :
    ∃ (S : State) (q : Addr) (ce : Cell), (∀ target, Steps p.tables e below ((S.setTop g).pushFrame (.throwing q)) target → Steps p.tables e below ((W.setTop g).pushFrame (.throwNew cls (some text) none)) target) ∧
      Stand p l e R s m₀ args below meth c S locs (cells + 3) (slots + ((stringBytes (stringToUtf16 text)).size + 4 + 6)) ∧ S.heap[q]? = some ce ∧ s.vm.findClass cls = some ce.cls ∧ ce.vm = .none := by
  have howns : e.platform.frameOwnsMonitors = true := by rw [X.admits.platform]
  have hfin : e.platform.finalization = false := by rw [X.admits.platform]
  have hpl : e.platform.magicAccessors = ({} : Platform).magicAccessors := by rw [X.admits.platform]
  have a : ∀ x, x ∈ Bundle.messageArmAtoms cls names → x.holds args s none s [] = true := fun x hx => h x hx
  obtain ⟨T, Z0, L, -, Y⟩ := ThrowableC.of_atoms (args := args) howns hfin hpl (fun x hx => h x (by simp [Bundle.messageArmAtoms, hx]))
  obtain ⟨Z, M, LZ, LM, hnZ⟩ := Init0T.ofS_atoms (args := args) hpl L Y (fun x hx => h x (by simp [Bundle.messageArmAtoms, hx]))
  obtain ⟨P1, Ps, hlen, L1, hL, hP1m, hlink1, hlink⟩ := Bundle.chainS (args := args) hpl hnZ names cls hcls hnames (fun x hx => h x (by simp [Bundle.messageArmAtoms, hx]))
  obtain ⟨Zs, LZs, hn4, hfitv, hfitc⟩ := StringT.of_atoms (args := args) (fun x hx => h x (by simp [Bundle.messageArmAtoms, hx]))
  have hfound : s.vm.findClass cls = some P1.m.cls := findClass_of_methodNamed hP1m
  obtain ⟨c1, kX, hc1, hk, hord, -, -, hn6⟩ := Cond.instantiable_spec (a (.instantiable cls 6) (by simp [Bundle.messageArmAtoms]))
  cases Option.some.inj (hc1.symm.trans hfound)
  have hinit := Cond.initialized_spec hfound hk (a (.initialized cls) (by simp [Bundle.messageArmAtoms]))
  have hctor : kX.findMethod "<init>" "(Ljava/lang/String;)V" = some P1.m.idx := findMethod_of_methodNamed hP1m hk
  have hsel0 : selectMethod e.platform s.vm P1.m.cls T.fill0 = .method T.fill0 := by
    obtain ⟨c2, r2, m2, q1, q2, q3, q4, -⟩ := Cond.selects_spec (a (.selects cls Bundle.tFill0 Bundle.tFill0) (by simp [Bundle.messageArmAtoms]))
    cases Option.some.inj (q1.symm.trans hfound)
    cases Option.some.inj (q2.symm.trans (State.methodFound?_of_named Y.fill0 (by decide)))
    cases Option.some.inj (q3.symm.trans Y.fill0)
    rw [Launch.admits_selectMethod X.admits]; exact q4
  have hselF : selectMethod e.platform s.vm P1.m.cls T.fill = .method T.fill := by
    obtain ⟨c2, r2, m2, q1, q2, q3, q4, -⟩ := Cond.selects_spec (a (.selects cls Bundle.tFill Bundle.tFill) (by simp [Bundle.messageArmAtoms]))
    cases Option.some.inj (q1.symm.trans hfound)
    cases Option.some.inj (q2.symm.trans (State.methodFound?_of_named Y.fill (by decide)))
    cases Option.some.inj (q3.symm.trans Y.fill)
    rw [Launch.admits_selectMethod X.admits]; exact q4
  obtain ⟨cellS0, hcS0, hiss⟩ := Y.statics
  obtain ⟨u0, hu0⟩ := Cond.staticRefV Y.unassigned L.unassignedStatic L.statics hcS0 hiss (a (.isRef (.static Bundle.tN "UNASSIGNED_STACK" Bundle.steD)) (by simp [Bundle.messageArmAtoms]))
  obtain ⟨sen, hsen⟩ := Cond.staticRefV Y.sentinel L.sentinelStatic L.statics hcS0 hiss (a (.isRef (.static Bundle.tN "SUPPRESSED_SENTINEL" Bundle.listD)) (by simp [Bundle.messageArmAtoms]))
  obtain ⟨ci198, i198, fB, hk198, hg198, ha198, hsB, -, hnB, htB, hffB⟩ := Cond.ownField (t := .object "java/lang/Object") Y.found L.cls (by decide +kernel) (a (.fieldLink Bundle.tN 198 Bundle.tN "backtrace" "Ljava/lang/Object;") (by simp [Bundle.messageArmAtoms])) (a (.lays Bundle.tN Bundle.tN "backtrace" "Ljava/lang/Object;") (by simp [Bundle.messageArmAtoms])) e.platform hpl
  obtain ⟨cellS, hcS', heS, -, hkeep⟩ := X.same.2.2.2.2.2 T.aS cellS0 hcS0
  have hcellS : W.heap[T.aS]? = some cellS := hcS'
  have hout' : ∀ i, (⟨T.aS, i⟩ : Loc) ∉ locs := fun i hmem => by
    have := hlocs _ hmem cellS0 hcS0
    rw [hiss] at this; cases this
  have hknownS : cellS.vm ≠ .unknown := by
    rw [heS]; intro hu
    rw [show cellS0.vm = .unknown from hu] at hiss
    cases hiss
  have hvU : cellS.slots[T.fUnassigned.slot]? = some u0.v := by rw [hkeep _ (hout' _)]; exact hu0
  have hvSen : cellS.slots[T.fSentinel.slot]? = some sen.v := by rw [hkeep _ (hout' _)]; exact hsen
  obtain ⟨iM, hffM⟩ := Y.msg
  obtain ⟨tyC, dC, hdC, hdnC⟩ := Cond.laysAt hfound hk Y.cause (a (.lays cls Bundle.tN "cause" "Ljava/lang/Throwable;") (by simp [Bundle.messageArmAtoms]))
  obtain ⟨tyS, dS, hdS, hdnS⟩ := Cond.laysAt hfound hk Y.stack (a (.lays cls Bundle.tN "stackTrace" Bundle.steD) (by simp [Bundle.messageArmAtoms]))
  obtain ⟨tyP, dP, hdP, hdnP⟩ := Cond.laysAt hfound hk Y.supp (a (.lays cls Bundle.tN "suppressedExceptions" Bundle.listD) (by simp [Bundle.messageArmAtoms]))
  obtain ⟨tyM, dM, hdM, hdnM⟩ := Cond.laysAt hfound hk hffM (a (.lays cls Bundle.tN "detailMessage" "Ljava/lang/String;") (by simp [Bundle.messageArmAtoms]))
  obtain ⟨tyB, dB, hdB, hdnB⟩ := Cond.laysAt hfound hk hffB (a (.lays cls Bundle.tN "backtrace" "Ljava/lang/Object;") (by simp [Bundle.messageArmAtoms]))
  have bC := Cond.laysApart hdB hdC hdnB hdnC (by rw [hnB, Y.causeName]; decide)
  have bS := Cond.laysApart hdB hdS hdnB hdnS (by rw [hnB, Y.stackName]; decide)
  have bP := Cond.laysApart hdB hdP hdnB hdnP (by rw [hnB, Y.suppName]; decide)
  have hbk : ((preparedCellV T.toThrowableT (freshCell P1.m.cls kX) (W.heap.size + 2) u0 sen).withEntry W.cur).slots[fB.slot]? = some .null := by
    have := fresh_default (c := P1.m.cls) tyB
    rw [htB] at this
    simpa [preparedCellV, Cell.setSlot, Cell.withEntry, Array.getElem?_setIfInBounds, bC, bS, bP, bC.symm, bS.symm, bP.symm, defaultValue] using this
  have tkC := Takes.of_laid (v := .ref (W.heap.size + 2)) hk hord tyC (by rw [Y.causeType]; rfl)
  have tkS := Takes.of_laid (v := u0.v) hk hord tyS (by rw [Y.stackType]; exact fits_refV_array _ u0)
  have tkP := Takes.of_laid (v := sen.v) hk hord tyP (by rw [Y.suppType]; exact fits_refV_object _ sen)
  have tkM := Takes.of_laid (v := .ref (W.heap.size + 1)) hk hord tyM (by rw [Y.msgType]; rfl)
  have hskip : SkipFacts T e.platform s (fun u => u) u0 ((preparedCellV T.toThrowableT (freshCell P1.m.cls kX) (W.heap.size + 2) u0 sen).withEntry W.cur) := ⟨{ ci198 := ci198, i198 := i198, fBack := fB }, ⟨hk198, hg198, ha198, hsB⟩, hbk, fun _ _ => rfl⟩
  have h0 : At W g.method c below := by rw [hg]; exact X.here
  obtain ⟨hbeyond, hfreeW⟩ := X.vmMayThrow hsize (.throwNew cls (some text) none) (fun f hf => by cases hf) rfl hRlocals
  have hfr' : W.frames.length + Ps.length + 4 < (e.platform.stackLimits W.me).1 := by have := X.framesAbove hRframes; omega
  have hwd' : (stackUse (.java g :: W.frames.tail)).2 + 13 * Ps.length + 55 ≤ (e.platform.stackLimits W.me).2 := by have := X.stackAbove hsize (K := 13 * Ps.length + 55) (by omega); omega
  have hslots : W.slotsUsed + (stringBytes (stringToUtf16 text)).size + Zs.kS.instanceTypes.size + kX.instanceTypes.size ≤ e.platform.maxSlots := by
    have := X.slotsAbove hRslots
    rw [hn4, hn6]
    omega
  obtain ⟨vm', hW', st⟩ := Steps.vmThrowsMessageColdByV p (s₀ := s) (S := W) (g := g) h0 hexec T L Z LZ M LM X.warmed (t := W.cur) rfl Zs LZs P1 L1 Ps hL hlink1 hlink hsoe hoom hfound hk hinit hord hctor
    (Launch.admits_hotImplicitExceptions X.admits) hbeyond hfreeW htext hlimit hheap (X.cellsAbove hRcells) hslots (hfitv _) (hfitc _)
    (Nn := fun u => u) heapOnly_id (fun _ _ => rfl) (fun _ => rfl) (fun u x y => setCell_twice _ _ _ _) (fun _ => Nat.le_refl _) (cN := ((preparedCellV T.toThrowableT (freshCell P1.m.cls kX) (W.heap.size + 2) u0 sen).withEntry W.cur))
    hsel0 hcellS hknownS hvU tkS (fun _ hu => hu) (fun _ hu => hu) rfl rfl rfl (by simp [preparedCellV, Cell.setSlot, Cell.withEntry]) hskip (fun _ _ hA hW _ hroom _ hrest => L.nativeOff p htr hA hW hroom hrest) hselF hvSen tkC tkP tkM Y.objLocals rfl hfr' hwd'
  rw [plainBareV_eq T.toThrowableT (W.heap.size + 2) u0 sen (.ref (W.heap.size + 1)) W.cur rfl rfl] at st
  obtain ⟨-, -, w3, w4, -, -, -⟩ := withThrown_facts e.platform W Zs text P1.m.cls kX
  have X3 := ((X.pushed (bytesOf Zs.cB (stringToUtf16 text))).pushed (stringAt Zs.cS Zs.kS Zs.fv Zs.fc (stringToUtf16 text) W.heap.size)).pushed (freshCell P1.m.cls kX)
  rw [← withString_eq] at X3
  have X4 := X3.noted hW'
  have ha : (W.heap.size + 2) < ((withThrown W Zs text P1.m.cls kX).setVm vm').heap.size := by show _ < (withThrown W Zs text P1.m.cls kX).heap.size; rw [w3]; omega
  have hcell : ((withThrown W Zs text P1.m.cls kX).setVm vm').heap[(W.heap.size + 2)]? = some (freshCell P1.m.cls kX) := w4
  have X5 := ((((X4.stored hcell T.fCause.slot (.ref (W.heap.size + 2))).storedAgain ha T.fStack.slot u0.v).storedAgain ha T.fSupp.slot sen.v).storedAgain ha T.fStack.slot u0.v).storedAgain ha T.fMsg.slot (.ref (W.heap.size + 1))
  obtain ⟨g₁, hfrM⟩ := X5.frames_eq
  have hU : ((((withThrown W Zs text P1.m.cls kX).setVm vm').setCell (W.heap.size + 2) (plainBareV T.toThrowableT (freshCell P1.m.cls kX) (W.heap.size + 2) u0 sen (.ref (W.heap.size + 1)))).setTop g).pushFrame (.throwing (W.heap.size + 2)) = (((withThrown W Zs text P1.m.cls kX).setVm vm').setCell (W.heap.size + 2) (plainBareV T.toThrowableT (freshCell P1.m.cls kX) (W.heap.size + 2) u0 sen (.ref (W.heap.size + 1)))).setFrames (.throwing (W.heap.size + 2) :: .java g :: below) := by
    rw [State.pushFrame, State.frames_setTop _ hfrM, State.setTop_of_frames _ hfrM, State.setFrames_setFrames]
  have b1 : (bytesOf Zs.cB (stringToUtf16 text)).slots.size = (stringBytes (stringToUtf16 text)).size := by
    rw [(Cell.writeAll_facts _ _).2.2]; simp [bytes0]
  have b2 : (stringAt Zs.cS Zs.kS Zs.fv Zs.fc (stringToUtf16 text) W.heap.size).slots.size = 4 := by simp [string0, Cell.setSlot, hn4]
  have b3 : (freshCell P1.m.cls kX).slots.size = 6 := by simp [hn6]
  rw [b1, b2, b3] at X5
  have e9 : slots + (stringBytes (stringToUtf16 text)).size + 4 + 6 = slots + ((stringBytes (stringToUtf16 text)).size + 4 + 6) := by omega
  rw [e9] at X5
  simp only [List.append_assoc, List.cons_append, List.nil_append] at X5
  refine ⟨((withThrown W Zs text P1.m.cls kX).setVm vm').setCell (W.heap.size + 2) (plainBareV T.toThrowableT (freshCell P1.m.cls kX) (W.heap.size + 2) u0 sen (.ref (W.heap.size + 1))), W.heap.size + 2, _, fun target ht => st _ (by rw [X.tail, ← hU]; exact ht),
    X5.forget (fun y hy => ?_), heapAt_setCell_self _ ha, hfound, rfl⟩
  simp only [List.mem_cons, List.not_mem_nil, or_false] at hy
  have hge : s.heap.size ≤ W.heap.size := X.same.2.1
  rcases hy with rfl | rfl | rfl | rfl | rfl <;> exact Nat.le_trans hge (Nat.le_add_right _ 2)
set_option maxHeartbeats 1000000 in
/-- the machine throws NullPointerException, no traces kept: from its note over the frame g to 'throwing' over the same frame (follows the proof of Stand.vmThrowsNpe, Shelf42/KT2.lean; throwsNpeColdBareVAt, Shelf42/NT91.lean, called) -/
theorem vx_npeAt {p : Program} {l : Launch} {e : Env} {R : Room} {s : State} {m₀ : MethodId} {args : Array Value} {below : List Frame} {meth : Method} {c : Code} {W : State} {locs : List Loc} {cells slots : Nat}
    (X : Stand p l e R s m₀ args below meth c W locs cells slots) (hexec : p.tables.exec = Jvm.exec) (htr : e.platform.stackTraces = false) {n : Nat}
    (h : ∀ a ∈ Bundle.npeArmAtoms n, a.before args s = true)
    (hlocs : ∀ x ∈ locs, ∀ cell, s.heap[x.base]? = some cell → cell.vm.isStatics = false)
    {g : JFrame} (hg : g.method = m₀) (hsize : g.locals.size = c.maxLocals)
    (hRframes : 7 < R.frames) (hRlocals : 2 * g.monitorRoom + (g.stack.map fun v => v.category).sum + 10240 ≤ R.locals)
    (hRcells : cells + 1 ≤ R.cells) (hRslots : slots + n ≤ R.slots) (hlocks : meth.locks = false) :
    ∃ (S : State) (q : Addr) (ce : Cell), (∀ target, Steps p.tables e below ((S.setTop g).pushFrame (.throwing q)) target → Steps p.tables e below ((W.setTop g).pushFrame (.throwNew "java/lang/NullPointerException" none none)) target) ∧
      Stand p l e R s m₀ args below meth c S locs (cells + 1) (slots + n) ∧ S.heap[q]? = some ce ∧ s.vm.findClass "java/lang/NullPointerException" = some ce.cls ∧ ce.vm = .none := by
  have howns : e.platform.frameOwnsMonitors = true := by rw [X.admits.platform]
  have hfin : e.platform.finalization = false := by rw [X.admits.platform]
  have hpl : e.platform.magicAccessors = ({} : Platform).magicAccessors := by rw [X.admits.platform]
  have hpl2 : e.platform.arrayCloneIsPublic = true := by rw [X.admits.platform]
  have a' : ∀ x, x ∈ Bundle.npeArmAtoms n → x.holds args s none s [] = true := fun x hx => h x hx
  obtain ⟨T, Z, L, LZ, Y⟩ := ThrowableC.of_atoms (args := args) howns hfin hpl (fun x hx => h x (by simp [Bundle.npeArmAtoms, hx]))
  obtain ⟨N, LN, hcN, hnNF, hordN, hffS⟩ := NpeC.of_atoms (args := args) hpl hpl2 L Y (fun x hx => h x (by simp [Bundle.npeArmAtoms, hx]))
  obtain ⟨P1, L1, hP1m, hP1s⟩ := PassC.of_atoms (args := args) (s := s) hpl (X := Bundle.nN) (Y := Bundle.rN) (by decide) (by decide) LibCode.NullPointerException.Init0.at_0 LibCode.NullPointerException.Init0.at_1 LibCode.NullPointerException.Init0.at_4 (fun x hx => h x (by simp [Bundle.npeArmAtoms, hx]))
  obtain ⟨PR, LR, hPRm, hPRs⟩ := PassC.of_atoms (args := args) (s := s) hpl (X := Bundle.rN) (Y := Bundle.eN) (by decide) (by decide) LibCode.RuntimeException.Init0.at_0 LibCode.RuntimeException.Init0.at_1 LibCode.RuntimeException.Init0.at_4 (fun x hx => h x (by simp [Bundle.npeArmAtoms, hx]))
  obtain ⟨PE, LEx, hPEm, hPEs⟩ := PassC.of_atoms (args := args) (s := s) hpl (X := Bundle.eN) (Y := Bundle.tN) (by decide) (by decide) LibCode.Exception.Init0.at_0 LibCode.Exception.Init0.at_1 LibCode.Exception.Init0.at_4 (fun x hx => h x (by simp [Bundle.npeArmAtoms, hx]))
  have hfound : s.vm.findClass Bundle.nN = some P1.m.cls := findClass_of_methodNamed hP1m
  have ecls : N.cN = P1.m.cls := Option.some.inj (hcN.symm.trans hfound)
  have hk : s.vm.classes[P1.m.cls]? = some N.kN := by rw [← ecls]; exact LN.cls
  have hinit := Cond.initialized_spec hfound hk (a' (.initialized Bundle.nN) (by simp [Bundle.npeArmAtoms]))
  have hctor : N.kN.findMethod "<init>" "()V" = some P1.m.idx := findMethod_of_methodNamed hP1m hk
  obtain ⟨c1, k1, hc1, hk1, -, -, -, hn⟩ := Cond.instantiable_spec (a' (.instantiable Bundle.nN n) (by simp [Bundle.npeArmAtoms]))
  cases Option.some.inj (hc1.symm.trans hfound)
  cases Option.some.inj (hk1.symm.trans hk)
  have hfsz : (freshCell P1.m.cls N.kN).slots.size = n := by simp [hn]
  have hlink1 : P1.sup = PR.m := Option.some.inj (hP1s.symm.trans hPRm)
  have hlinkR : PR.sup = PE.m := Option.some.inj (hPRs.symm.trans hPEm)
  have hlinkE : PE.sup = Z.m T.toThrowableT := Option.some.inj (hPEs.symm.trans Y.init0)
  have hLs : ∀ P, P ∈ [PR, PE] → P.Links0 e.platform s := fun P hP => by
    simp only [List.mem_cons, List.not_mem_nil, or_false] at hP
    rcases hP with rfl | rfl
    · exact LR
    · exact LEx
  have hsel0 : selectMethod e.platform s.vm P1.m.cls T.fill0 = .method T.fill0 := by
    obtain ⟨c2, r2, m2, q1, q2, q3, q4, -⟩ := Cond.selects_spec (a' (.selects Bundle.nN Bundle.tFill0 Bundle.tFill0) (by simp [Bundle.npeArmAtoms]))
    cases Option.some.inj (q1.symm.trans hfound)
    cases Option.some.inj (q2.symm.trans (State.methodFound?_of_named Y.fill0 (by decide)))
    cases Option.some.inj (q3.symm.trans Y.fill0)
    rw [Launch.admits_selectMethod X.admits]; exact q4
  have hselF : selectMethod e.platform s.vm P1.m.cls T.fill = .method N.fill := by
    obtain ⟨c2, r2, m2, q1, q2, q3, q4, -⟩ := Cond.selects_spec (a' (.selects Bundle.nN Bundle.tFill Bundle.nFill) (by simp [Bundle.npeArmAtoms]))
    cases Option.some.inj (q1.symm.trans hfound)
    cases Option.some.inj (q2.symm.trans (State.methodFound?_of_named Y.fill (by decide)))
    cases Option.some.inj (q3.symm.trans hnNF)
    rw [Launch.admits_selectMethod X.admits]; exact q4
  obtain ⟨cellS0, hcS0, hiss⟩ := Y.statics
  obtain ⟨u0, hu0⟩ := Cond.staticRefV Y.unassigned L.unassignedStatic L.statics hcS0 hiss (a' (.isRef (.static Bundle.tN "UNASSIGNED_STACK" Bundle.steD)) (by simp [Bundle.npeArmAtoms]))
  obtain ⟨sen, hsen⟩ := Cond.staticRefV Y.sentinel L.sentinelStatic L.statics hcS0 hiss (a' (.isRef (.static Bundle.tN "SUPPRESSED_SENTINEL" Bundle.listD)) (by simp [Bundle.npeArmAtoms]))
  obtain ⟨ci198, i198, fB, hk198, hg198, ha198, hsB, -, hnB, htB, hffB⟩ := Cond.ownField (t := .object "java/lang/Object") Y.found L.cls (by decide +kernel) (a' (.fieldLink Bundle.tN 198 Bundle.tN "backtrace" Bundle.objD) (by simp [Bundle.npeArmAtoms])) (a' (.lays Bundle.tN Bundle.tN "backtrace" Bundle.objD) (by simp [Bundle.npeArmAtoms])) e.platform hpl
  obtain ⟨cellS, hcS', heS, -, hkeep⟩ := X.same.2.2.2.2.2 T.aS cellS0 hcS0
  have hcellS : W.heap[T.aS]? = some cellS := hcS'
  have hout' : ∀ i, (⟨T.aS, i⟩ : Loc) ∉ locs := fun i hmem => by
    have := hlocs _ hmem cellS0 hcS0
    rw [hiss] at this; cases this
  have hknownS : cellS.vm ≠ .unknown := by
    rw [heS]; intro hu
    rw [show cellS0.vm = .unknown from hu] at hiss
    cases hiss
  have hvU : cellS.slots[T.fUnassigned.slot]? = some u0.v := by rw [hkeep _ (hout' _)]; exact hu0
  have hvSen : cellS.slots[T.fSentinel.slot]? = some sen.v := by rw [hkeep _ (hout' _)]; exact hsen
  obtain ⟨tyC, dC, hdC, hdnC⟩ := Cond.laysAt hfound hk Y.cause (a' (.lays Bundle.nN Bundle.tN "cause" "Ljava/lang/Throwable;") (by simp [Bundle.npeArmAtoms]))
  obtain ⟨tyS, dS, hdS, hdnS⟩ := Cond.laysAt hfound hk Y.stack (a' (.lays Bundle.nN Bundle.tN "stackTrace" Bundle.steD) (by simp [Bundle.npeArmAtoms]))
  obtain ⟨tyP, dP, hdP, hdnP⟩ := Cond.laysAt hfound hk Y.supp (a' (.lays Bundle.nN Bundle.tN "suppressedExceptions" Bundle.listD) (by simp [Bundle.npeArmAtoms]))
  obtain ⟨tyX, dX, hdX, hdnX⟩ := Cond.laysAt hfound hk hffS (a' (.lays Bundle.nN Bundle.nN "extendedMessageState" "I") (by simp [Bundle.npeArmAtoms, Bundle.npeAtoms]))
  obtain ⟨hnX, htX⟩ := State.fieldFound?_type hffS (t := .int) (by decide +kernel)
  have xC := Cond.laysApart hdC hdX hdnC hdnX (by rw [hnX, Y.causeName]; decide)
  have xS := Cond.laysApart hdS hdX hdnS hdnX (by rw [hnX, Y.stackName]; decide)
  have xP := Cond.laysApart hdP hdX hdnP hdnX (by rw [hnX, Y.suppName]; decide)
  have hv0 : (freshCell P1.m.cls N.kN).slots[N.fState.slot]? = some (.int 0) := by
    have := fresh_default (c := P1.m.cls) tyX
    rw [htX] at this; exact this
  obtain ⟨tyB, dB, hdB, hdnB⟩ := Cond.laysAt hfound hk hffB (a' (.lays Bundle.nN Bundle.tN "backtrace" Bundle.objD) (by simp [Bundle.npeArmAtoms]))
  have bC := Cond.laysApart hdB hdC hdnB hdnC (by rw [hnB, Y.causeName]; decide)
  have bS := Cond.laysApart hdB hdS hdnB hdnS (by rw [hnB, Y.stackName]; decide)
  have bP := Cond.laysApart hdB hdP hdnB hdnP (by rw [hnB, Y.suppName]; decide)
  have bX := Cond.laysApart hdB hdX hdnB hdnX (by rw [hnB, hnX]; decide)
  have hbk : ((npeCell N.toNpeT (preparedCellV T.toThrowableT (freshCell P1.m.cls N.kN) W.heap.size u0 sen) W.cur).withEntry W.cur).slots[fB.slot]? = some .null := by
    have := fresh_default (c := P1.m.cls) tyB
    rw [htB] at this
    simpa [npeCell, preparedCellV, Cell.setSlot, Cell.withEntry, Array.getElem?_setIfInBounds, bC, bS, bP, bX, bC.symm, bS.symm, bP.symm, bX.symm, defaultValue] using this
  have tkC := Takes.of_laid (v := .ref W.heap.size) hk hordN tyC (by rw [Y.causeType]; rfl)
  have tkS := Takes.of_laid (v := u0.v) hk hordN tyS (by rw [Y.stackType]; exact fits_refV_array _ u0)
  have tkP := Takes.of_laid (v := sen.v) hk hordN tyP (by rw [Y.suppType]; exact fits_refV_object _ sen)
  have tkX := Takes.of_laid (v := .int 1) hk hordN tyX (by rw [htX]; rfl)
  have hskip : SkipFacts T e.platform s (fun u => u) u0 ((npeCell N.toNpeT (preparedCellV T.toThrowableT (freshCell P1.m.cls N.kN) W.heap.size u0 sen) W.cur).withEntry W.cur) := ⟨{ ci198 := ci198, i198 := i198, fBack := fB }, ⟨hk198, hg198, ha198, hsB⟩, hbk, fun _ _ => rfl⟩
  obtain ⟨vm', X3, st, -⟩ := X.throwsNpeColdBareVAt hexec hg hsize T L Z LZ N LN P1 L1 [PR, PE] hLs hlink1 ⟨hlinkR, hlinkE, trivial⟩ hfound hk hinit hordN hctor hsel0 hselF hcellS hknownS hvU hvSen
    hv0 xC xS xP tkC tkS tkP tkX Y.objLocals hskip (fun _ _ hA hW _ hroom _ hrest => L.nativeOff p htr hA hW hroom hrest) (by simpa using hRframes) hRlocals (by simp) hRcells (by rw [hn]; exact hRslots)
  have hlt : W.heap.size < ((W.pushCell (freshCell P1.m.cls N.kN)).setVm vm').heap.size := by
    show W.heap.size < (W.pushCell (freshCell P1.m.cls N.kN)).heap.size
    rw [State.heap_size_pushCell]; omega
  rw [hfsz] at X3
  obtain ⟨g₁, hfrM⟩ := X3.frames_eq
  have hU : ((((W.pushCell (freshCell P1.m.cls N.kN)).setVm vm').setCell W.heap.size (npeBareV T.toThrowableT N.toNpeT (freshCell P1.m.cls N.kN) W.heap.size u0 sen)).setTop g).pushFrame (.throwing W.heap.size) = (((W.pushCell (freshCell P1.m.cls N.kN)).setVm vm').setCell W.heap.size (npeBareV T.toThrowableT N.toNpeT (freshCell P1.m.cls N.kN) W.heap.size u0 sen)).setFrames (.throwing W.heap.size :: .java g :: below) := by
    rw [State.pushFrame, State.frames_setTop _ hfrM, State.setTop_of_frames _ hfrM, State.setFrames_setFrames]
  refine ⟨_, W.heap.size, _, fun target ht => st.trans (by rw [← hU]; exact ht), X3.forget (fun y hy => ?_), heapAt_setCell_self _ hlt, hfound, rfl⟩
  simp only [List.mem_cons, List.not_mem_nil, or_false] at hy
  have hge : s.heap.size ≤ W.heap.size := X.same.2.1
  rcases hy with rfl | rfl | rfl | rfl | rfl <;> exact hge
/-- the words of a machine's NullPointerException, but the four that speak of the heap -/
def vx_atN (n : Nat) : List Cond := (Bundle.npeArmAtoms n).filter vx_no
/-- the words of a machine's throw with a message, but the four that speak of the heap -/
def vx_atM (X : String) (names : List String) : List Cond := (Bundle.messageArmAtoms X names).filter vx_no
section
variable {p : Program} {l : Launch} {e : Env} {R : Room} {s : State} {m : MethodId} {args : Array Value} {below : List Frame} {meth : Method} {c : Code} {H : Heap} {locs : List Loc} {cells slots : Nat}
/-- a frame seen from a rebased start, seen from the first start again -/
theorem vx_back9 {T S : State} {R' : Room} {k n : Nat} (X : Stand p l e R s m args below meth c T locs cells slots) (Y : Stand p l e R' ((T.setVm s.vm).setFrames (.invoking m args :: below)) m args below meth c T [] 0 0) (Z : Stand p l e R' ((T.setVm s.vm).setFrames (.invoking m args :: below)) m args below meth c S [] k n) :
    Stand p l e R s m args below meth c S locs (cells + k) (slots + n) := by
  have hW0 : s.WarmedH ((T.setVm s.vm).setFrames (.invoking m args :: below)).vm := State.WarmedH.refl s
  refine { admits := X.admits, cas := X.cas, clock := X.clock, frames := X.frames, room := X.room, hears := X.hears, method := X.method, code := X.code, here := Z.here, tail := Z.tail, warmed := State.WarmedH.trans hW0 Z.warmed, limits := Z.limits.trans (Y.limits.symm.trans X.limits), bytes := Z.bytes.trans (Y.bytes.symm.trans X.bytes), same := ?_ }
  obtain ⟨e1, e2⟩ := Z.same
  rw [State.setFrames_setFrames] at e1
  have h2 : (T.setVm s.vm).sameButNew (S.setVm s.vm) [] k n := ⟨e1, e2⟩
  have h3 := X.same.trans h2
  rw [List.append_nil] at h3
  exact h3
/-- from the machine's note that E is thrown here with this text -/
def vx_Note (p : Program) (l : Launch) (e : Env) (R : Room) (s : State) (m : MethodId) (args : Array Value) (below : List Frame) (meth : Method) (c : Code) (H : Heap) (locs : List Loc) (cells slots : Nat) (Q : State → Prop) (g : JFrame) (E text : String) : Prop :=
  ∀ T : State, T.heap = H → Stand p l e R s m args below meth c T locs cells slots → ∃ t, Steps p.tables e below ((T.setTop g).pushFrame (.throwNew E (some text) none)) t ∧ Q t
theorem vx_vm {pc : Nat} {ls : Array Slot} {rest : List Value} {Q : State → Prop} (hexec : p.tables.exec = Jvm.exec) (hl : l.stackTraces = false) {cls text : String} {names : List String} {nb : Nat} {A : Nat → Prop}
    (hcls : Bundle.fit cls = true) (hnames : ∀ n ∈ names, Bundle.fit n = true) (hsoe : (cls == "java/lang/StackOverflowError") = false) (hoom : (cls == "java/lang/OutOfMemoryError") = false)
    (hat : ∀ w ∈ vx_atM cls names, w.before args s = true) (hgood : ∀ w ∈ vx_atM cls names, vx_ot w = true)
    (hU : vx_Zq Bundle.tN "UNASSIGNED_STACK" Bundle.steD A s s.heap) (hN : vx_Zq Bundle.tN "SUPPRESSED_SENTINEL" Bundle.listD A s s.heap) (hS : va_S A s.heap H locs) (hsize : ls.size = c.maxLocals)
    (htext : (text == notModelled) = false) (hnb : (stringBytes (stringToUtf16 text)).size ≤ nb) (hnb1 : nb ≤ 1000)
    (hRframes : names.length + 4 < R.frames) (hRlocals : (rest.map fun v => v.category).sum + 10240 ≤ R.locals) (hshort : 13 * names.length + 55 ≤ 10240) (hRcells : cells + 3 ≤ R.cells) (hRslots : slots + (nb + 10) ≤ R.slots) (hlocks : meth.locks = false)
    (k : ∀ (H1 : Heap) (q9 : Addr) (ce : Cell), H.size ≤ H1.size → (∀ q : Nat, q < H.size → H1[q]? = H[q]?) → va_S A s.heap H1 locs → H1[q9]? = some ce → ce.vm = .none → s.vm.findClass cls = some ce.cls → vx_W p l e R s m args below meth c H1 locs (cells + 3) (slots + (nb + 10)) Q (F0 m pc ls rest) q9) :
    vx_Note p l e R s m args below meth c H locs cells slots Q (F0 m pc ls rest) cls text := by
  intro T hT X
  have htr : e.platform.stackTraces = false := (show e.platform.stackTraces = l.stackTraces by rw [X.admits.platform]).trans hl
  have Y := vx_rebase X (R' := { frames := R.frames, locals := R.locals, cells := 3, slots := nb + 10 }) (Nat.le_refl _) (Nat.le_refl _) hRcells hRslots
  have hhp : ((T.setVm s.vm).setFrames (.invoking m args :: below)).heap = H := hT
  have hW0 : s.WarmedH ((T.setVm s.vm).setFrames (.invoking m args :: below)).vm := State.WarmedH.refl s
  have hat' : ∀ w ∈ vx_atM cls names, w.before args ((T.setVm s.vm).setFrames (.invoking m args :: below)) = true := fun w hw => vx_ot_at hW0 rfl (hgood w hw) (hat w hw)
  have hU' : vx_Zq Bundle.tN "UNASSIGNED_STACK" Bundle.steD A ((T.setVm s.vm).setFrames (.invoking m args :: below)) ((T.setVm s.vm).setFrames (.invoking m args :: below)).heap := by rw [hhp]; exact vx_Zq.moved hW0.alike (hU.kept hS.2.1)
  have hN' : vx_Zq Bundle.tN "SUPPRESSED_SENTINEL" Bundle.listD A ((T.setVm s.vm).setFrames (.invoking m args :: below)) ((T.setVm s.vm).setFrames (.invoking m args :: below)).heap := by rw [hhp]; exact vx_Zq.moved hW0.alike (hN.kept hS.2.1)
  obtain ⟨S, q, ce, st, Z, hce, hcl', hv⟩ := vx_vmAt Y hexec htr (cls := cls) (names := names) (text := text) hcls hnames hsoe hoom (vx_own hat' (vx_isRefq hU'.1) (vx_isRefq hN'.1) hU'.2.word hN'.2.word) (fun x hx => nomatch hx) htext
    (by rw [Launch.admits_arrayLengthLimit X.admits]; omega) (by rw [Launch.admits_maxHeapBytes X.admits]; simp only [componentBytes]; omega)
    (g := F0 m pc ls rest) rfl hsize hRframes (by show 2 * 0 + (rest.map fun v => v.category).sum + 10240 ≤ R.locals; omega) hshort (by show 0 + 3 ≤ 3; omega) (by show 0 + (_ + 4 + 6) ≤ nb + 10; omega) hlocks
  obtain ⟨f1, f2⟩ := vx_frame Z.same
  have f1' : H.size ≤ S.heap.size := by rw [← hT]; exact f1
  have f2' : ∀ q : Nat, q < H.size → S.heap[q]? = H[q]? := fun q hq => by
    rw [← hT]
    exact f2 q (by rw [← hT] at hq; exact hq) (fun z hz => nomatch hz)
  have X5 := vx_back9 X Y Z
  have X6 : Stand p l e R s m args below meth c S locs (cells + 3) (slots + (nb + 10)) := { X5 with same := X5.same.mono (by omega) (by omega) }
  obtain ⟨t, a1, b1⟩ := k S.heap q ce f1' f2' ⟨Nat.le_trans hS.1 f1', fun q h1 h2 => (f2' q (Nat.lt_of_lt_of_le h1 hS.1)).trans (hS.2.1 q h1 h2), hS.2.2⟩ hce hv hcl' S rfl X6
  exact ⟨t, st t a1, b1⟩
/-- from the machine's note that NullPointerException is thrown here -/
def vx_NoteN (p : Program) (l : Launch) (e : Env) (R : Room) (s : State) (m : MethodId) (args : Array Value) (below : List Frame) (meth : Method) (c : Code) (H : Heap) (locs : List Loc) (cells slots : Nat) (Q : State → Prop) (g : JFrame) : Prop :=
  ∀ T : State, T.heap = H → Stand p l e R s m args below meth c T locs cells slots → ∃ t, Steps p.tables e below ((T.setTop g).pushFrame (.throwNew "java/lang/NullPointerException" none none)) t ∧ Q t
theorem vx_npe {pc : Nat} {ls : Array Slot} {rest : List Value} {Q : State → Prop} (hexec : p.tables.exec = Jvm.exec) (hl : l.stackTraces = false) {nb : Nat} {A : Nat → Prop}
    (hat : ∀ w ∈ vx_atN nb, w.before args s = true) (hgood : ∀ w ∈ vx_atN nb, vx_ot w = true)
    (hU : vx_Zq Bundle.tN "UNASSIGNED_STACK" Bundle.steD A s s.heap) (hN : vx_Zq Bundle.tN "SUPPRESSED_SENTINEL" Bundle.listD A s s.heap) (hS : va_S A s.heap H locs) (hsize : ls.size = c.maxLocals)
    (hRframes : 7 < R.frames) (hRlocals : (rest.map fun v => v.category).sum + 10240 ≤ R.locals) (hRcells : cells + 1 ≤ R.cells) (hRslots : slots + nb ≤ R.slots) (hlocks : meth.locks = false)
    (k : ∀ (H1 : Heap) (q9 : Addr) (ce : Cell), H.size ≤ H1.size → (∀ q : Nat, q < H.size → H1[q]? = H[q]?) → va_S A s.heap H1 locs → H1[q9]? = some ce → ce.vm = .none → s.vm.findClass "java/lang/NullPointerException" = some ce.cls → vx_W p l e R s m args below meth c H1 locs (cells + 1) (slots + nb) Q (F0 m pc ls rest) q9) :
    vx_NoteN p l e R s m args below meth c H locs cells slots Q (F0 m pc ls rest) := by
  intro T hT X
  have htr : e.platform.stackTraces = false := (show e.platform.stackTraces = l.stackTraces by rw [X.admits.platform]).trans hl
  have Y := vx_rebase X (R' := { frames := R.frames, locals := R.locals, cells := 1, slots := nb }) (Nat.le_refl _) (Nat.le_refl _) hRcells hRslots
  have hhp : ((T.setVm s.vm).setFrames (.invoking m args :: below)).heap = H := hT
  have hW0 : s.WarmedH ((T.setVm s.vm).setFrames (.invoking m args :: below)).vm := State.WarmedH.refl s
  have hat' : ∀ w ∈ vx_atN nb, w.before args ((T.setVm s.vm).setFrames (.invoking m args :: below)) = true := fun w hw => vx_ot_at hW0 rfl (hgood w hw) (hat w hw)
  have hU' : vx_Zq Bundle.tN "UNASSIGNED_STACK" Bundle.steD A ((T.setVm s.vm).setFrames (.invoking m args :: below)) ((T.setVm s.vm).setFrames (.invoking m args :: below)).heap := by rw [hhp]; exact vx_Zq.moved hW0.alike (hU.kept hS.2.1)
  have hN' : vx_Zq Bundle.tN "SUPPRESSED_SENTINEL" Bundle.listD A ((T.setVm s.vm).setFrames (.invoking m args :: below)) ((T.setVm s.vm).setFrames (.invoking m args :: below)).heap := by rw [hhp]; exact vx_Zq.moved hW0.alike (hN.kept hS.2.1)
  obtain ⟨S, q, ce, st, Z, hce, hcl', hv⟩ := vx_npeAt Y hexec htr (n := nb) (vx_own hat' (vx_isRefq hU'.1) (vx_isRefq hN'.1) hU'.2.word hN'.2.word) (fun x hx => nomatch hx)
    (g := F0 m pc ls rest) rfl hsize hRframes (by show 2 * 0 + (rest.map fun v => v.category).sum + 10240 ≤ R.locals; omega) (by show 0 + 1 ≤ 1; omega) (by show 0 + nb ≤ nb; omega) hlocks
  obtain ⟨f1, f2⟩ := vx_frame Z.same
  have f1' : H.size ≤ S.heap.size := by rw [← hT]; exact f1
  have f2' : ∀ q : Nat, q < H.size → S.heap[q]? = H[q]? := fun q hq => by
    rw [← hT]
    exact f2 q (by rw [← hT] at hq; exact hq) (fun z hz => nomatch hz)
  have X5 := vx_back9 X Y Z
  have X6 : Stand p l e R s m args below meth c S locs (cells + 1) (slots + nb) := { X5 with same := X5.same.mono (by omega) (by omega) }
  obtain ⟨t, a1, b1⟩ := k S.heap q ce f1' f2' ⟨Nat.le_trans hS.1 f1', fun q h1 h2 => (f2' q (Nat.lt_of_lt_of_le h1 hS.1)).trans (hS.2.1 q h1 h2), hS.2.2⟩ hce hv hcl' S rfl X6
  exact ⟨t, st t a1, b1⟩
variable {Q : State → Prop} {cc : ByteArray} {pc : Nat} {ls : Array Slot} {rest : List Value}
theorem vx_idivZ (hexec : p.tables.exec = Jvm.exec) (hb : c.code = cc) {a b : Int32} (h0 : b = 0) (d : decode cc pc = .ok (.idiv, 1)) (k : vx_Note p l e R s m args below meth c H locs cells slots Q (F0 m pc ls rest) "java/lang/ArithmeticException" "/ by zero") :
    W p l e R s m args below meth c H locs cells slots Q (F0 m pc ls (.int b :: .int a :: rest)) := by
  intro T hT X
  obtain ⟨t, st, q⟩ := k T hT X
  exact ⟨t, X.idivZero hexec (g := F0 m pc ls (.int b :: .int a :: rest)) rfl (a := a) (rest := rest) (by rw [h0]) (by rw [hb]; exact d) t st, q⟩
theorem vx_iremZ (hexec : p.tables.exec = Jvm.exec) (hb : c.code = cc) {a b : Int32} (h0 : b = 0) (d : decode cc pc = .ok (.irem, 1)) (k : vx_Note p l e R s m args below meth c H locs cells slots Q (F0 m pc ls rest) "java/lang/ArithmeticException" "/ by zero") :
    W p l e R s m args below meth c H locs cells slots Q (F0 m pc ls (.int b :: .int a :: rest)) := by
  intro T hT X
  obtain ⟨t, st, q⟩ := k T hT X
  exact ⟨t, X.iremZero hexec (g := F0 m pc ls (.int b :: .int a :: rest)) rfl (a := a) (rest := rest) (by rw [h0]) (by rw [hb]; exact d) t st, q⟩
theorem vx_ldivZ (hexec : p.tables.exec = Jvm.exec) (hb : c.code = cc) {a b : Int64} (h0 : b = 0) (d : decode cc pc = .ok (.ldiv, 1)) (k : vx_Note p l e R s m args below meth c H locs cells slots Q (F0 m pc ls rest) "java/lang/ArithmeticException" "/ by zero") :
    W p l e R s m args below meth c H locs cells slots Q (F0 m pc ls (.long b :: .long a :: rest)) := by
  intro T hT X
  obtain ⟨t, st, q⟩ := k T hT X
  exact ⟨t, X.ldivZero hexec (g := F0 m pc ls (.long b :: .long a :: rest)) rfl (a := a) (rest := rest) (by rw [h0]) (by rw [hb]; exact d) t st, q⟩
theorem vx_lremZ (hexec : p.tables.exec = Jvm.exec) (hb : c.code = cc) {a b : Int64} (h0 : b = 0) (d : decode cc pc = .ok (.lrem, 1)) (k : vx_Note p l e R s m args below meth c H locs cells slots Q (F0 m pc ls rest) "java/lang/ArithmeticException" "/ by zero") :
    W p l e R s m args below meth c H locs cells slots Q (F0 m pc ls (.long b :: .long a :: rest)) := by
  intro T hT X
  obtain ⟨t, st, q⟩ := k T hT X
  exact ⟨t, X.lremZero hexec (g := F0 m pc ls (.long b :: .long a :: rest)) rfl (a := a) (rest := rest) (by rw [h0]) (by rw [hb]; exact d) t st, q⟩
theorem vx_ialdZ {D : va_G} {cl : List vw_C} {ws : va_W} {tys : List (ClassId × FieldType)} {a : Nat} (hexec : p.tables.exec = Jvm.exec) (hb : c.code = cc) (hK : va_K D cl tys s) (hP : va_P D cl ws H) (q0 t0 : Nat) {cA : ClassId} {n : Nat} {f : Nat → Int32} (ha : ws[q0]? = some (a, .inl (cA, n, .inl f))) (ht : tys[t0]? = some (cA, .int)) {i : Int32} (hout : ¬ vp_in i n) (hdg : decode cc pc = .ok (.iaload, 1))
    (k : ∀ tx : String, tx = (toString "Index " ++ toString i ++ toString " out of bounds for length " ++ toString n : String) → vx_Note p l e R s m args below meth c H locs cells slots Q (F0 m pc ls rest) "java/lang/ArrayIndexOutOfBoundsException" tx) : W p l e R s m args below meth c H locs cells slots Q (F0 m pc ls (.int i :: .ref a :: rest)) := by
  intro T hT X
  obtain ⟨t, st, q⟩ := k _ rfl T hT X
  refine ⟨t, ?_, q⟩
  have h1 := X.ialoadOut hexec (by rw [hT]; exact hP q0 _ ha) ((hK.2 t0 _ ht).1 n (fun j => .int (f j))) (j := i) (by show (i < 0 ∨ (arrV _ _ _).slots.size ≤ _); rw [arrV_size]; exact Classical.byContradiction hout) (g := F0 m pc ls (.int i :: .ref a :: rest)) rfl (rest := rest) rfl (by rw [hb]; exact hdg) t
  simp only [arrV_size] at h1
  exact h1 st
theorem vx_iastZ {D : va_G} {cl : List vw_C} {ws : va_W} {tys : List (ClassId × FieldType)} {a : Nat} (hexec : p.tables.exec = Jvm.exec) (hb : c.code = cc) (hK : va_K D cl tys s) (hP : va_P D cl ws H) (q0 t0 : Nat) {cA : ClassId} {n : Nat} {f : Nat → Int32} (ha : ws[q0]? = some (a, .inl (cA, n, .inl f))) (ht : tys[t0]? = some (cA, .int)) {i : Int32} {x : Int32} (hout : ¬ vp_in i n) (hdg : decode cc pc = .ok (.iastore, 1))
    (k : ∀ tx : String, tx = (toString "Index " ++ toString i ++ toString " out of bounds for length " ++ toString n : String) → vx_Note p l e R s m args below meth c H locs cells slots Q (F0 m pc ls rest) "java/lang/ArrayIndexOutOfBoundsException" tx) : W p l e R s m args below meth c H locs cells slots Q (F0 m pc ls (.int x :: .int i :: .ref a :: rest)) := by
  intro T hT X
  obtain ⟨t, st, q⟩ := k _ rfl T hT X
  refine ⟨t, ?_, q⟩
  have h1 := X.iastoreOut hexec (by rw [hT]; exact hP q0 _ ha) ((hK.2 t0 _ ht).1 n (fun j => .int (f j))) (j := i) (by show (i < 0 ∨ (arrV _ _ _).slots.size ≤ _); rw [arrV_size]; exact Classical.byContradiction hout) (g := F0 m pc ls (.int x :: .int i :: .ref a :: rest)) rfl (rest := rest) rfl (by rw [hb]; exact hdg) t
  simp only [arrV_size] at h1
  exact h1 st
theorem vx_baldZ {D : va_G} {cl : List vw_C} {ws : va_W} {tys : List (ClassId × FieldType)} {a : Nat} (hexec : p.tables.exec = Jvm.exec) (hb : c.code = cc) (hK : va_K D cl tys s) (hP : va_P D cl ws H) (q0 t0 : Nat) {cA : ClassId} {n : Nat} {f : Nat → Int32} (ha : ws[q0]? = some (a, .inl (cA, n, .inl f))) (ht : tys[t0]? = some (cA, .byte)) {i : Int32} (hout : ¬ vp_in i n) (hdg : decode cc pc = .ok (.baload, 1))
    (k : ∀ tx : String, tx = (toString "Index " ++ toString i ++ toString " out of bounds for length " ++ toString n : String) → vx_Note p l e R s m args below meth c H locs cells slots Q (F0 m pc ls rest) "java/lang/ArrayIndexOutOfBoundsException" tx) : W p l e R s m args below meth c H locs cells slots Q (F0 m pc ls (.int i :: .ref a :: rest)) := by
  intro T hT X
  obtain ⟨t, st, q⟩ := k _ rfl T hT X
  refine ⟨t, ?_, q⟩
  have h1 := X.baloadOut hexec (by rw [hT]; exact hP q0 _ ha) ((hK.2 t0 _ ht).1 n (fun j => .int (f j))) (j := i) (by show (i < 0 ∨ (arrV _ _ _).slots.size ≤ _); rw [arrV_size]; exact Classical.byContradiction hout) (g := F0 m pc ls (.int i :: .ref a :: rest)) rfl (rest := rest) rfl (by rw [hb]; exact hdg) t
  simp only [arrV_size] at h1
  exact h1 st
theorem vx_bastZ {D : va_G} {cl : List vw_C} {ws : va_W} {tys : List (ClassId × FieldType)} {a : Nat} (hexec : p.tables.exec = Jvm.exec) (hb : c.code = cc) (hK : va_K D cl tys s) (hP : va_P D cl ws H) (q0 t0 : Nat) {cA : ClassId} {n : Nat} {f : Nat → Int32} (ha : ws[q0]? = some (a, .inl (cA, n, .inl f))) (ht : tys[t0]? = some (cA, .byte)) {i : Int32} {x : Int32} (hout : ¬ vp_in i n) (hdg : decode cc pc = .ok (.bastore, 1))
    (k : ∀ tx : String, tx = (toString "Index " ++ toString i ++ toString " out of bounds for length " ++ toString n : String) → vx_Note p l e R s m args below meth c H locs cells slots Q (F0 m pc ls rest) "java/lang/ArrayIndexOutOfBoundsException" tx) : W p l e R s m args below meth c H locs cells slots Q (F0 m pc ls (.int x :: .int i :: .ref a :: rest)) := by
  intro T hT X
  obtain ⟨t, st, q⟩ := k _ rfl T hT X
  refine ⟨t, ?_, q⟩
  have h1 := X.bastoreOut hexec (by rw [hT]; exact hP q0 _ ha) ((hK.2 t0 _ ht).1 n (fun j => .int (f j))) (j := i) (by show (i < 0 ∨ (arrV _ _ _).slots.size ≤ _); rw [arrV_size]; exact Classical.byContradiction hout) (g := F0 m pc ls (.int x :: .int i :: .ref a :: rest)) rfl (rest := rest) rfl (by rw [hb]; exact hdg) t
  simp only [arrV_size] at h1
  exact h1 st
theorem vx_zaldZ {D : va_G} {cl : List vw_C} {ws : va_W} {tys : List (ClassId × FieldType)} {a : Nat} (hexec : p.tables.exec = Jvm.exec) (hb : c.code = cc) (hK : va_K D cl tys s) (hP : va_P D cl ws H) (q0 t0 : Nat) {cA : ClassId} {n : Nat} {f : Nat → Int32} (ha : ws[q0]? = some (a, .inl (cA, n, .inl f))) (ht : tys[t0]? = some (cA, .boolean)) {i : Int32} (hout : ¬ vp_in i n) (hdg : decode cc pc = .ok (.baload, 1))
    (k : ∀ tx : String, tx = (toString "Index " ++ toString i ++ toString " out of bounds for length " ++ toString n : String) → vx_Note p l e R s m args below meth c H locs cells slots Q (F0 m pc ls rest) "java/lang/ArrayIndexOutOfBoundsException" tx) : W p l e R s m args below meth c H locs cells slots Q (F0 m pc ls (.int i :: .ref a :: rest)) := by
  intro T hT X
  obtain ⟨t, st, q⟩ := k _ rfl T hT X
  refine ⟨t, ?_, q⟩
  have h1 := X.baloadOut hexec (by rw [hT]; exact hP q0 _ ha) ((hK.2 t0 _ ht).1 n (fun j => .int (f j))) (j := i) (by show (i < 0 ∨ (arrV _ _ _).slots.size ≤ _); rw [arrV_size]; exact Classical.byContradiction hout) (g := F0 m pc ls (.int i :: .ref a :: rest)) rfl (rest := rest) rfl (by rw [hb]; exact hdg) t
  simp only [arrV_size] at h1
  exact h1 st
theorem vx_zastZ {D : va_G} {cl : List vw_C} {ws : va_W} {tys : List (ClassId × FieldType)} {a : Nat} (hexec : p.tables.exec = Jvm.exec) (hb : c.code = cc) (hK : va_K D cl tys s) (hP : va_P D cl ws H) (q0 t0 : Nat) {cA : ClassId} {n : Nat} {f : Nat → Int32} (ha : ws[q0]? = some (a, .inl (cA, n, .inl f))) (ht : tys[t0]? = some (cA, .boolean)) {i : Int32} {x : Int32} (hout : ¬ vp_in i n) (hdg : decode cc pc = .ok (.bastore, 1))
    (k : ∀ tx : String, tx = (toString "Index " ++ toString i ++ toString " out of bounds for length " ++ toString n : String) → vx_Note p l e R s m args below meth c H locs cells slots Q (F0 m pc ls rest) "java/lang/ArrayIndexOutOfBoundsException" tx) : W p l e R s m args below meth c H locs cells slots Q (F0 m pc ls (.int x :: .int i :: .ref a :: rest)) := by
  intro T hT X
  obtain ⟨t, st, q⟩ := k _ rfl T hT X
  refine ⟨t, ?_, q⟩
  have h1 := X.bastoreOut hexec (by rw [hT]; exact hP q0 _ ha) ((hK.2 t0 _ ht).1 n (fun j => .int (f j))) (j := i) (by show (i < 0 ∨ (arrV _ _ _).slots.size ≤ _); rw [arrV_size]; exact Classical.byContradiction hout) (g := F0 m pc ls (.int x :: .int i :: .ref a :: rest)) rfl (rest := rest) rfl (by rw [hb]; exact hdg) t
  simp only [arrV_size] at h1
  exact h1 st
theorem vx_caldZ {D : va_G} {cl : List vw_C} {ws : va_W} {tys : List (ClassId × FieldType)} {a : Nat} (hexec : p.tables.exec = Jvm.exec) (hb : c.code = cc) (hK : va_K D cl tys s) (hP : va_P D cl ws H) (q0 t0 : Nat) {cA : ClassId} {n : Nat} {f : Nat → Int32} (ha : ws[q0]? = some (a, .inl (cA, n, .inl f))) (ht : tys[t0]? = some (cA, .char)) {i : Int32} (hout : ¬ vp_in i n) (hdg : decode cc pc = .ok (.caload, 1))
    (k : ∀ tx : String, tx = (toString "Index " ++ toString i ++ toString " out of bounds for length " ++ toString n : String) → vx_Note p l e R s m args below meth c H locs cells slots Q (F0 m pc ls rest) "java/lang/ArrayIndexOutOfBoundsException" tx) : W p l e R s m args below meth c H locs cells slots Q (F0 m pc ls (.int i :: .ref a :: rest)) := by
  intro T hT X
  obtain ⟨t, st, q⟩ := k _ rfl T hT X
  refine ⟨t, ?_, q⟩
  have h1 := X.caloadOut hexec (by rw [hT]; exact hP q0 _ ha) ((hK.2 t0 _ ht).1 n (fun j => .int (f j))) (j := i) (by show (i < 0 ∨ (arrV _ _ _).slots.size ≤ _); rw [arrV_size]; exact Classical.byContradiction hout) (g := F0 m pc ls (.int i :: .ref a :: rest)) rfl (rest := rest) rfl (by rw [hb]; exact hdg) t
  simp only [arrV_size] at h1
  exact h1 st
theorem vx_castZ {D : va_G} {cl : List vw_C} {ws : va_W} {tys : List (ClassId × FieldType)} {a : Nat} (hexec : p.tables.exec = Jvm.exec) (hb : c.code = cc) (hK : va_K D cl tys s) (hP : va_P D cl ws H) (q0 t0 : Nat) {cA : ClassId} {n : Nat} {f : Nat → Int32} (ha : ws[q0]? = some (a, .inl (cA, n, .inl f))) (ht : tys[t0]? = some (cA, .char)) {i : Int32} {x : Int32} (hout : ¬ vp_in i n) (hdg : decode cc pc = .ok (.castore, 1))
    (k : ∀ tx : String, tx = (toString "Index " ++ toString i ++ toString " out of bounds for length " ++ toString n : String) → vx_Note p l e R s m args below meth c H locs cells slots Q (F0 m pc ls rest) "java/lang/ArrayIndexOutOfBoundsException" tx) : W p l e R s m args below meth c H locs cells slots Q (F0 m pc ls (.int x :: .int i :: .ref a :: rest)) := by
  intro T hT X
  obtain ⟨t, st, q⟩ := k _ rfl T hT X
  refine ⟨t, ?_, q⟩
  have h1 := X.castoreOut hexec (by rw [hT]; exact hP q0 _ ha) ((hK.2 t0 _ ht).1 n (fun j => .int (f j))) (j := i) (by show (i < 0 ∨ (arrV _ _ _).slots.size ≤ _); rw [arrV_size]; exact Classical.byContradiction hout) (g := F0 m pc ls (.int x :: .int i :: .ref a :: rest)) rfl (rest := rest) rfl (by rw [hb]; exact hdg) t
  simp only [arrV_size] at h1
  exact h1 st
theorem vx_saldZ {D : va_G} {cl : List vw_C} {ws : va_W} {tys : List (ClassId × FieldType)} {a : Nat} (hexec : p.tables.exec = Jvm.exec) (hb : c.code = cc) (hK : va_K D cl tys s) (hP : va_P D cl ws H) (q0 t0 : Nat) {cA : ClassId} {n : Nat} {f : Nat → Int32} (ha : ws[q0]? = some (a, .inl (cA, n, .inl f))) (ht : tys[t0]? = some (cA, .short)) {i : Int32} (hout : ¬ vp_in i n) (hdg : decode cc pc = .ok (.saload, 1))
    (k : ∀ tx : String, tx = (toString "Index " ++ toString i ++ toString " out of bounds for length " ++ toString n : String) → vx_Note p l e R s m args below meth c H locs cells slots Q (F0 m pc ls rest) "java/lang/ArrayIndexOutOfBoundsException" tx) : W p l e R s m args below meth c H locs cells slots Q (F0 m pc ls (.int i :: .ref a :: rest)) := by
  intro T hT X
  obtain ⟨t, st, q⟩ := k _ rfl T hT X
  refine ⟨t, ?_, q⟩
  have h1 := X.saloadOut hexec (by rw [hT]; exact hP q0 _ ha) ((hK.2 t0 _ ht).1 n (fun j => .int (f j))) (j := i) (by show (i < 0 ∨ (arrV _ _ _).slots.size ≤ _); rw [arrV_size]; exact Classical.byContradiction hout) (g := F0 m pc ls (.int i :: .ref a :: rest)) rfl (rest := rest) rfl (by rw [hb]; exact hdg) t
  simp only [arrV_size] at h1
  exact h1 st
theorem vx_sastZ {D : va_G} {cl : List vw_C} {ws : va_W} {tys : List (ClassId × FieldType)} {a : Nat} (hexec : p.tables.exec = Jvm.exec) (hb : c.code = cc) (hK : va_K D cl tys s) (hP : va_P D cl ws H) (q0 t0 : Nat) {cA : ClassId} {n : Nat} {f : Nat → Int32} (ha : ws[q0]? = some (a, .inl (cA, n, .inl f))) (ht : tys[t0]? = some (cA, .short)) {i : Int32} {x : Int32} (hout : ¬ vp_in i n) (hdg : decode cc pc = .ok (.sastore, 1))
    (k : ∀ tx : String, tx = (toString "Index " ++ toString i ++ toString " out of bounds for length " ++ toString n : String) → vx_Note p l e R s m args below meth c H locs cells slots Q (F0 m pc ls rest) "java/lang/ArrayIndexOutOfBoundsException" tx) : W p l e R s m args below meth c H locs cells slots Q (F0 m pc ls (.int x :: .int i :: .ref a :: rest)) := by
  intro T hT X
  obtain ⟨t, st, q⟩ := k _ rfl T hT X
  refine ⟨t, ?_, q⟩
  have h1 := X.sastoreOut hexec (by rw [hT]; exact hP q0 _ ha) ((hK.2 t0 _ ht).1 n (fun j => .int (f j))) (j := i) (by show (i < 0 ∨ (arrV _ _ _).slots.size ≤ _); rw [arrV_size]; exact Classical.byContradiction hout) (g := F0 m pc ls (.int x :: .int i :: .ref a :: rest)) rfl (rest := rest) rfl (by rw [hb]; exact hdg) t
  simp only [arrV_size] at h1
  exact h1 st
theorem vx_laldZ {D : va_G} {cl : List vw_C} {ws : va_W} {tys : List (ClassId × FieldType)} {a : Nat} (hexec : p.tables.exec = Jvm.exec) (hb : c.code = cc) (hK : va_K D cl tys s) (hP : va_P D cl ws H) (q0 t0 : Nat) {cA : ClassId} {n : Nat} {f : Nat → Int64} (ha : ws[q0]? = some (a, .inl (cA, n, .inr (.inl f)))) (ht : tys[t0]? = some (cA, .long)) {i : Int32} (hout : ¬ vp_in i n) (hdg : decode cc pc = .ok (.laload, 1))
    (k : ∀ tx : String, tx = (toString "Index " ++ toString i ++ toString " out of bounds for length " ++ toString n : String) → vx_Note p l e R s m args below meth c H locs cells slots Q (F0 m pc ls rest) "java/lang/ArrayIndexOutOfBoundsException" tx) : W p l e R s m args below meth c H locs cells slots Q (F0 m pc ls (.int i :: .ref a :: rest)) := by
  intro T hT X
  obtain ⟨t, st, q⟩ := k _ rfl T hT X
  refine ⟨t, ?_, q⟩
  have h1 := X.laloadOut hexec (by rw [hT]; exact hP q0 _ ha) ((hK.2 t0 _ ht).1 n (fun j => .long (f j))) (j := i) (by show (i < 0 ∨ (arrV _ _ _).slots.size ≤ _); rw [arrV_size]; exact Classical.byContradiction hout) (g := F0 m pc ls (.int i :: .ref a :: rest)) rfl (rest := rest) rfl (by rw [hb]; exact hdg) t
  simp only [arrV_size] at h1
  exact h1 st
theorem vx_lastZ {D : va_G} {cl : List vw_C} {ws : va_W} {tys : List (ClassId × FieldType)} {a : Nat} (hexec : p.tables.exec = Jvm.exec) (hb : c.code = cc) (hK : va_K D cl tys s) (hP : va_P D cl ws H) (q0 t0 : Nat) {cA : ClassId} {n : Nat} {f : Nat → Int64} (ha : ws[q0]? = some (a, .inl (cA, n, .inr (.inl f)))) (ht : tys[t0]? = some (cA, .long)) {i : Int32} {x : Int64} (hout : ¬ vp_in i n) (hdg : decode cc pc = .ok (.lastore, 1))
    (k : ∀ tx : String, tx = (toString "Index " ++ toString i ++ toString " out of bounds for length " ++ toString n : String) → vx_Note p l e R s m args below meth c H locs cells slots Q (F0 m pc ls rest) "java/lang/ArrayIndexOutOfBoundsException" tx) : W p l e R s m args below meth c H locs cells slots Q (F0 m pc ls (.long x :: .int i :: .ref a :: rest)) := by
  intro T hT X
  obtain ⟨t, st, q⟩ := k _ rfl T hT X
  refine ⟨t, ?_, q⟩
  have h1 := X.lastoreOut hexec (by rw [hT]; exact hP q0 _ ha) ((hK.2 t0 _ ht).1 n (fun j => .long (f j))) (j := i) (by show (i < 0 ∨ (arrV _ _ _).slots.size ≤ _); rw [arrV_size]; exact Classical.byContradiction hout) (g := F0 m pc ls (.long x :: .int i :: .ref a :: rest)) rfl (rest := rest) rfl (by rw [hb]; exact hdg) t
  simp only [arrV_size] at h1
  exact h1 st
theorem vx_faldZ {D : va_G} {cl : List vw_C} {ws : va_W} {tys : List (ClassId × FieldType)} {a : Nat} (hexec : p.tables.exec = Jvm.exec) (hb : c.code = cc) (hK : va_K D cl tys s) (hP : va_P D cl ws H) (q0 t0 : Nat) {cA : ClassId} {n : Nat} {f : Nat → UInt32} (ha : ws[q0]? = some (a, .inl (cA, n, .inr (.inr (.inl f))))) (ht : tys[t0]? = some (cA, .float)) {i : Int32} (hout : ¬ vp_in i n) (hdg : decode cc pc = .ok (.faload, 1))
    (k : ∀ tx : String, tx = (toString "Index " ++ toString i ++ toString " out of bounds for length " ++ toString n : String) → vx_Note p l e R s m args below meth c H locs cells slots Q (F0 m pc ls rest) "java/lang/ArrayIndexOutOfBoundsException" tx) : W p l e R s m args below meth c H locs cells slots Q (F0 m pc ls (.int i :: .ref a :: rest)) := by
  intro T hT X
  obtain ⟨t, st, q⟩ := k _ rfl T hT X
  refine ⟨t, ?_, q⟩
  have h1 := X.faloadOut hexec (by rw [hT]; exact hP q0 _ ha) ((hK.2 t0 _ ht).1 n (fun j => .float (f j))) (j := i) (by show (i < 0 ∨ (arrV _ _ _).slots.size ≤ _); rw [arrV_size]; exact Classical.byContradiction hout) (g := F0 m pc ls (.int i :: .ref a :: rest)) rfl (rest := rest) rfl (by rw [hb]; exact hdg) t
  simp only [arrV_size] at h1
  exact h1 st
theorem vx_fastZ {D : va_G} {cl : List vw_C} {ws : va_W} {tys : List (ClassId × FieldType)} {a : Nat} (hexec : p.tables.exec = Jvm.exec) (hb : c.code = cc) (hK : va_K D cl tys s) (hP : va_P D cl ws H) (q0 t0 : Nat) {cA : ClassId} {n : Nat} {f : Nat → UInt32} (ha : ws[q0]? = some (a, .inl (cA, n, .inr (.inr (.inl f))))) (ht : tys[t0]? = some (cA, .float)) {i : Int32} {x : UInt32} (hout : ¬ vp_in i n) (hdg : decode cc pc = .ok (.fastore, 1))
    (k : ∀ tx : String, tx = (toString "Index " ++ toString i ++ toString " out of bounds for length " ++ toString n : String) → vx_Note p l e R s m args below meth c H locs cells slots Q (F0 m pc ls rest) "java/lang/ArrayIndexOutOfBoundsException" tx) : W p l e R s m args below meth c H locs cells slots Q (F0 m pc ls (.float x :: .int i :: .ref a :: rest)) := by
  intro T hT X
  obtain ⟨t, st, q⟩ := k _ rfl T hT X
  refine ⟨t, ?_, q⟩
  have h1 := X.fastoreOut hexec (by rw [hT]; exact hP q0 _ ha) ((hK.2 t0 _ ht).1 n (fun j => .float (f j))) (j := i) (by show (i < 0 ∨ (arrV _ _ _).slots.size ≤ _); rw [arrV_size]; exact Classical.byContradiction hout) (g := F0 m pc ls (.float x :: .int i :: .ref a :: rest)) rfl (rest := rest) rfl (by rw [hb]; exact hdg) t
  simp only [arrV_size] at h1
  exact h1 st
theorem vx_daldZ {D : va_G} {cl : List vw_C} {ws : va_W} {tys : List (ClassId × FieldType)} {a : Nat} (hexec : p.tables.exec = Jvm.exec) (hb : c.code = cc) (hK : va_K D cl tys s) (hP : va_P D cl ws H) (q0 t0 : Nat) {cA : ClassId} {n : Nat} {f : Nat → UInt64} (ha : ws[q0]? = some (a, .inl (cA, n, .inr (.inr (.inr (.inl f)))))) (ht : tys[t0]? = some (cA, .double)) {i : Int32} (hout : ¬ vp_in i n) (hdg : decode cc pc = .ok (.daload, 1))
    (k : ∀ tx : String, tx = (toString "Index " ++ toString i ++ toString " out of bounds for length " ++ toString n : String) → vx_Note p l e R s m args below meth c H locs cells slots Q (F0 m pc ls rest) "java/lang/ArrayIndexOutOfBoundsException" tx) : W p l e R s m args below meth c H locs cells slots Q (F0 m pc ls (.int i :: .ref a :: rest)) := by
  intro T hT X
  obtain ⟨t, st, q⟩ := k _ rfl T hT X
  refine ⟨t, ?_, q⟩
  have h1 := X.daloadOut hexec (by rw [hT]; exact hP q0 _ ha) ((hK.2 t0 _ ht).1 n (fun j => .double (f j))) (j := i) (by show (i < 0 ∨ (arrV _ _ _).slots.size ≤ _); rw [arrV_size]; exact Classical.byContradiction hout) (g := F0 m pc ls (.int i :: .ref a :: rest)) rfl (rest := rest) rfl (by rw [hb]; exact hdg) t
  simp only [arrV_size] at h1
  exact h1 st
theorem vx_dastZ {D : va_G} {cl : List vw_C} {ws : va_W} {tys : List (ClassId × FieldType)} {a : Nat} (hexec : p.tables.exec = Jvm.exec) (hb : c.code = cc) (hK : va_K D cl tys s) (hP : va_P D cl ws H) (q0 t0 : Nat) {cA : ClassId} {n : Nat} {f : Nat → UInt64} (ha : ws[q0]? = some (a, .inl (cA, n, .inr (.inr (.inr (.inl f)))))) (ht : tys[t0]? = some (cA, .double)) {i : Int32} {x : UInt64} (hout : ¬ vp_in i n) (hdg : decode cc pc = .ok (.dastore, 1))
    (k : ∀ tx : String, tx = (toString "Index " ++ toString i ++ toString " out of bounds for length " ++ toString n : String) → vx_Note p l e R s m args below meth c H locs cells slots Q (F0 m pc ls rest) "java/lang/ArrayIndexOutOfBoundsException" tx) : W p l e R s m args below meth c H locs cells slots Q (F0 m pc ls (.double x :: .int i :: .ref a :: rest)) := by
  intro T hT X
  obtain ⟨t, st, q⟩ := k _ rfl T hT X
  refine ⟨t, ?_, q⟩
  have h1 := X.dastoreOut hexec (by rw [hT]; exact hP q0 _ ha) ((hK.2 t0 _ ht).1 n (fun j => .double (f j))) (j := i) (by show (i < 0 ∨ (arrV _ _ _).slots.size ≤ _); rw [arrV_size]; exact Classical.byContradiction hout) (g := F0 m pc ls (.double x :: .int i :: .ref a :: rest)) rfl (rest := rest) rfl (by rw [hb]; exact hdg) t
  simp only [arrV_size] at h1
  exact h1 st
theorem vx_arraylengthN (hexec : p.tables.exec = Jvm.exec) (hb : c.code = cc) (hdg : decode cc pc = .ok (.arraylength, 1)) (k : vx_NoteN p l e R s m args below meth c H locs cells slots Q (F0 m pc ls rest)) : W p l e R s m args below meth c H locs cells slots Q (F0 m pc ls (.null :: rest)) := by
  intro T hT X
  obtain ⟨t, st, q⟩ := k T hT X
  exact ⟨t, X.arraylengthNull hexec (g := F0 m pc ls (.null :: rest)) rfl (rest := rest) rfl (by rw [hb]; exact hdg) t st, q⟩
theorem vx_ialoadN (hexec : p.tables.exec = Jvm.exec) (hb : c.code = cc) {i : Int32} (hdg : decode cc pc = .ok (.iaload, 1)) (k : vx_NoteN p l e R s m args below meth c H locs cells slots Q (F0 m pc ls rest)) : W p l e R s m args below meth c H locs cells slots Q (F0 m pc ls (.int i :: .null :: rest)) := by
  intro T hT X
  obtain ⟨t, st, q⟩ := k T hT X
  exact ⟨t, X.ialoadNull hexec (g := F0 m pc ls (.int i :: .null :: rest)) rfl (rest := rest) rfl (by rw [hb]; exact hdg) t st, q⟩
theorem vx_laloadN (hexec : p.tables.exec = Jvm.exec) (hb : c.code = cc) {i : Int32} (hdg : decode cc pc = .ok (.laload, 1)) (k : vx_NoteN p l e R s m args below meth c H locs cells slots Q (F0 m pc ls rest)) : W p l e R s m args below meth c H locs cells slots Q (F0 m pc ls (.int i :: .null :: rest)) := by
  intro T hT X
  obtain ⟨t, st, q⟩ := k T hT X
  exact ⟨t, X.laloadNull hexec (g := F0 m pc ls (.int i :: .null :: rest)) rfl (rest := rest) rfl (by rw [hb]; exact hdg) t st, q⟩
theorem vx_faloadN (hexec : p.tables.exec = Jvm.exec) (hb : c.code = cc) {i : Int32} (hdg : decode cc pc = .ok (.faload, 1)) (k : vx_NoteN p l e R s m args below meth c H locs cells slots Q (F0 m pc ls rest)) : W p l e R s m args below meth c H locs cells slots Q (F0 m pc ls (.int i :: .null :: rest)) := by
  intro T hT X
  obtain ⟨t, st, q⟩ := k T hT X
  exact ⟨t, X.faloadNull hexec (g := F0 m pc ls (.int i :: .null :: rest)) rfl (rest := rest) rfl (by rw [hb]; exact hdg) t st, q⟩
theorem vx_daloadN (hexec : p.tables.exec = Jvm.exec) (hb : c.code = cc) {i : Int32} (hdg : decode cc pc = .ok (.daload, 1)) (k : vx_NoteN p l e R s m args below meth c H locs cells slots Q (F0 m pc ls rest)) : W p l e R s m args below meth c H locs cells slots Q (F0 m pc ls (.int i :: .null :: rest)) := by
  intro T hT X
  obtain ⟨t, st, q⟩ := k T hT X
  exact ⟨t, X.daloadNull hexec (g := F0 m pc ls (.int i :: .null :: rest)) rfl (rest := rest) rfl (by rw [hb]; exact hdg) t st, q⟩
theorem vx_aaloadN (hexec : p.tables.exec = Jvm.exec) (hb : c.code = cc) {i : Int32} (hdg : decode cc pc = .ok (.aaload, 1)) (k : vx_NoteN p l e R s m args below meth c H locs cells slots Q (F0 m pc ls rest)) : W p l e R s m args below meth c H locs cells slots Q (F0 m pc ls (.int i :: .null :: rest)) := by
  intro T hT X
  obtain ⟨t, st, q⟩ := k T hT X
  exact ⟨t, X.aaloadNull hexec (g := F0 m pc ls (.int i :: .null :: rest)) rfl (rest := rest) rfl (by rw [hb]; exact hdg) t st, q⟩
theorem vx_baloadN (hexec : p.tables.exec = Jvm.exec) (hb : c.code = cc) {i : Int32} (hdg : decode cc pc = .ok (.baload, 1)) (k : vx_NoteN p l e R s m args below meth c H locs cells slots Q (F0 m pc ls rest)) : W p l e R s m args below meth c H locs cells slots Q (F0 m pc ls (.int i :: .null :: rest)) := by
  intro T hT X
  obtain ⟨t, st, q⟩ := k T hT X
  exact ⟨t, X.baloadNull hexec (g := F0 m pc ls (.int i :: .null :: rest)) rfl (rest := rest) rfl (by rw [hb]; exact hdg) t st, q⟩
theorem vx_caloadN (hexec : p.tables.exec = Jvm.exec) (hb : c.code = cc) {i : Int32} (hdg : decode cc pc = .ok (.caload, 1)) (k : vx_NoteN p l e R s m args below meth c H locs cells slots Q (F0 m pc ls rest)) : W p l e R s m args below meth c H locs cells slots Q (F0 m pc ls (.int i :: .null :: rest)) := by
  intro T hT X
  obtain ⟨t, st, q⟩ := k T hT X
  exact ⟨t, X.caloadNull hexec (g := F0 m pc ls (.int i :: .null :: rest)) rfl (rest := rest) rfl (by rw [hb]; exact hdg) t st, q⟩
theorem vx_saloadN (hexec : p.tables.exec = Jvm.exec) (hb : c.code = cc) {i : Int32} (hdg : decode cc pc = .ok (.saload, 1)) (k : vx_NoteN p l e R s m args below meth c H locs cells slots Q (F0 m pc ls rest)) : W p l e R s m args below meth c H locs cells slots Q (F0 m pc ls (.int i :: .null :: rest)) := by
  intro T hT X
  obtain ⟨t, st, q⟩ := k T hT X
  exact ⟨t, X.saloadNull hexec (g := F0 m pc ls (.int i :: .null :: rest)) rfl (rest := rest) rfl (by rw [hb]; exact hdg) t st, q⟩
theorem vx_iastoreN (hexec : p.tables.exec = Jvm.exec) (hb : c.code = cc) {x : Int32} {i : Int32} (hdg : decode cc pc = .ok (.iastore, 1)) (k : vx_NoteN p l e R s m args below meth c H locs cells slots Q (F0 m pc ls rest)) : W p l e R s m args below meth c H locs cells slots Q (F0 m pc ls (.int x :: .int i :: .null :: rest)) := by
  intro T hT X
  obtain ⟨t, st, q⟩ := k T hT X
  exact ⟨t, X.iastoreNull hexec (g := F0 m pc ls (.int x :: .int i :: .null :: rest)) rfl (rest := rest) rfl (by rw [hb]; exact hdg) t st, q⟩
theorem vx_lastoreN (hexec : p.tables.exec = Jvm.exec) (hb : c.code = cc) {x : Int64} {i : Int32} (hdg : decode cc pc = .ok (.lastore, 1)) (k : vx_NoteN p l e R s m args below meth c H locs cells slots Q (F0 m pc ls rest)) : W p l e R s m args below meth c H locs cells slots Q (F0 m pc ls (.long x :: .int i :: .null :: rest)) := by
  intro T hT X
  obtain ⟨t, st, q⟩ := k T hT X
  exact ⟨t, X.lastoreNull hexec (g := F0 m pc ls (.long x :: .int i :: .null :: rest)) rfl (rest := rest) rfl (by rw [hb]; exact hdg) t st, q⟩
theorem vx_fastoreN (hexec : p.tables.exec = Jvm.exec) (hb : c.code = cc) {x : UInt32} {i : Int32} (hdg : decode cc pc = .ok (.fastore, 1)) (k : vx_NoteN p l e R s m args below meth c H locs cells slots Q (F0 m pc ls rest)) : W p l e R s m args below meth c H locs cells slots Q (F0 m pc ls (.float x :: .int i :: .null :: rest)) := by
  intro T hT X
  obtain ⟨t, st, q⟩ := k T hT X
  exact ⟨t, X.fastoreNull hexec (g := F0 m pc ls (.float x :: .int i :: .null :: rest)) rfl (rest := rest) rfl (by rw [hb]; exact hdg) t st, q⟩
theorem vx_dastoreN (hexec : p.tables.exec = Jvm.exec) (hb : c.code = cc) {x : UInt64} {i : Int32} (hdg : decode cc pc = .ok (.dastore, 1)) (k : vx_NoteN p l e R s m args below meth c H locs cells slots Q (F0 m pc ls rest)) : W p l e R s m args below meth c H locs cells slots Q (F0 m pc ls (.double x :: .int i :: .null :: rest)) := by
  intro T hT X
  obtain ⟨t, st, q⟩ := k T hT X
  exact ⟨t, X.dastoreNull hexec (g := F0 m pc ls (.double x :: .int i :: .null :: rest)) rfl (rest := rest) rfl (by rw [hb]; exact hdg) t st, q⟩
theorem vx_bastoreN (hexec : p.tables.exec = Jvm.exec) (hb : c.code = cc) {x : Int32} {i : Int32} (hdg : decode cc pc = .ok (.bastore, 1)) (k : vx_NoteN p l e R s m args below meth c H locs cells slots Q (F0 m pc ls rest)) : W p l e R s m args below meth c H locs cells slots Q (F0 m pc ls (.int x :: .int i :: .null :: rest)) := by
  intro T hT X
  obtain ⟨t, st, q⟩ := k T hT X
  exact ⟨t, X.bastoreNull hexec (g := F0 m pc ls (.int x :: .int i :: .null :: rest)) rfl (rest := rest) rfl (by rw [hb]; exact hdg) t st, q⟩
theorem vx_castoreN (hexec : p.tables.exec = Jvm.exec) (hb : c.code = cc) {x : Int32} {i : Int32} (hdg : decode cc pc = .ok (.castore, 1)) (k : vx_NoteN p l e R s m args below meth c H locs cells slots Q (F0 m pc ls rest)) : W p l e R s m args below meth c H locs cells slots Q (F0 m pc ls (.int x :: .int i :: .null :: rest)) := by
  intro T hT X
  obtain ⟨t, st, q⟩ := k T hT X
  exact ⟨t, X.castoreNull hexec (g := F0 m pc ls (.int x :: .int i :: .null :: rest)) rfl (rest := rest) rfl (by rw [hb]; exact hdg) t st, q⟩
theorem vx_sastoreN (hexec : p.tables.exec = Jvm.exec) (hb : c.code = cc) {x : Int32} {i : Int32} (hdg : decode cc pc = .ok (.sastore, 1)) (k : vx_NoteN p l e R s m args below meth c H locs cells slots Q (F0 m pc ls rest)) : W p l e R s m args below meth c H locs cells slots Q (F0 m pc ls (.int x :: .int i :: .null :: rest)) := by
  intro T hT X
  obtain ⟨t, st, q⟩ := k T hT X
  exact ⟨t, X.sastoreNull hexec (g := F0 m pc ls (.int x :: .int i :: .null :: rest)) rfl (rest := rest) rfl (by rw [hb]; exact hdg) t st, q⟩
theorem vx_invokeN {own C : String} {index maxL : Nat} {y : MethodName} {bytes : ByteArray} {ret : Option FieldType} (hexec : p.tables.exec = Jvm.exec) (hb : c.code = cc) (hown : s.vm.findClass own = some m.cls) (hlink : (Cond.methodLink own index y).before args s = true) (hinst : (Cond.instanceMethod y).before args s = true) (hcode : (Cond.code y bytes maxL ret).before args s = true) (hsel : (Cond.selects C y y).before args s = true)
    (hx : y.cls ≠ "java/lang/invoke/MethodHandle" ∧ y.cls ≠ "java/lang/invoke/VarHandle") {As : List Value} (hlen : (parseMethodDescriptor y.desc).map (fun d => d.parameters.length) = some As.length) (hdg : decode cc pc = .ok (.invokevirtual index, 3))
    (k : vx_NoteN p l e R s m args below meth c H locs cells slots Q (F0 m pc ls rest)) {st0 : List Value} (hst : st0 = As.reverse ++ .null :: rest) : W p l e R s m args below meth c H locs cells slots Q (F0 m pc ls st0) := by
  intro T hT X
  obtain ⟨r0, r, hn, hrm, hstR, hsigR⟩ := va_Decl.of hinst hcode
  obtain ⟨c2, r2, m2, q1, q2, q3, q4, kP, hkP, hkPi⟩ := Cond.selects_spec hsel
  cases hn.symm.trans q3
  have hl9 : As.length = r.sig.parameters.length := by
    rw [hsigR] at hlen
    exact (Option.some.inj hlen).symm
  obtain ⟨vm', X1, st1⟩ := X.invokevirtualNull hexec hown hlink hn hrm hstR hkP hkPi hx (g := F0 m pc ls st0) rfl (argsL := As) (rest := rest) hl9 hst (by rw [hb]; exact hdg)
  obtain ⟨t, st, q⟩ := k (T.setVm vm') hT X1
  exact ⟨t, st1 t st, q⟩
theorem vx_newarrayZ {atype : ArrayType} (hexec : p.tables.exec = Jvm.exec) (hb : c.code = cc) {n : Int32} (h0 : n < 0) (hdg : decode cc pc = .ok (.newarray atype, 2)) (k : ∀ tx : String, tx = toString n → vx_Note p l e R s m args below meth c H locs cells slots Q (F0 m pc ls rest) "java/lang/NegativeArraySizeException" tx) : W p l e R s m args below meth c H locs cells slots Q (F0 m pc ls (.int n :: rest)) := by
  intro T hT X
  obtain ⟨t, st, q⟩ := k _ rfl T hT X
  exact ⟨t, X.newarrayNegative hexec (g := F0 m pc ls (.int n :: rest)) rfl h0 (rest := rest) rfl (by rw [hb]; exact hdg) t st, q⟩
end
end VXM
/-! ===== END ===== -/
/-! ===== BEGIN an exception as an object: made, kept, thrown later (no traces kept) ===== -/
section VXK
variable {p : Program} {l : Launch} {e : Env} {R : Room} {s : State} {m₀ : MethodId} {args : Array Value} {below : List Frame} {meth : Method} {c : Code} {W : State} {locs : List Loc} {cells slots : Nat}
set_option maxHeartbeats 1000000 in
theorem vx_ctorMadeS (X : Stand p l e R s m₀ args below meth c W locs cells slots) (hexec : p.tables.exec = Jvm.exec) (htr : e.platform.stackTraces = false) {own cls : String} {names : List String} {ic : Nat}
    (hown : s.vm.findClass own = some m₀.cls) (hcls : Bundle.fit cls = true) (hnames : ∀ n ∈ names, Bundle.fit n = true)
    (h : ∀ a ∈ Bundle.ownAtoms own ic cls names, a.before args s = true)
    (hlocs : ∀ x ∈ locs, ∀ cell, s.heap[x.base]? = some cell → cell.vm.isStatics = false)
    {a : Addr} {cX : ClassId} {kX : Class} (hfoundX : s.vm.findClass cls = some cX) (hkX : s.vm.classes[cX]? = some kX) (hcell : W.heap[a]? = some (freshCell cX kX)) (hnew : s.heap.size ≤ a)
    {msg : Value} (hmsg : msg.isRef = true)
    {g : JFrame} (hg : g.method = m₀) (hsize : g.locals.size = c.maxLocals) {rest : List Value} (hstack : g.stack = msg :: .ref a :: .ref a :: rest)
    (hd6 : decode c.code g.pc = .ok (.invokespecial ic, 3))
    (hRframes : names.length + 3 < R.frames) (hRlocals : 2 * g.monitorRoom + ((Value.ref a :: rest).map fun v => v.category).sum + (13 * (names.length + 1) + 42) ≤ R.locals) :
    ∃ (V : State) (ce : Cell) (L : List Loc), Stand p l e R s m₀ args below meth c (V.setCell a ce) (locs ++ L) cells slots ∧ (∀ y ∈ L, y.base = a) ∧ a < V.heap.size ∧ ce.cls = cX ∧ ce.vm = .none ∧
      ∀ target, Steps p.tables e below ((V.setCell a ce).setTop { g with stack := .ref a :: rest, pc := g.pc + 3 }) target → Steps p.tables e below (W.setTop g) target := by
  have howns : e.platform.frameOwnsMonitors = true := by rw [X.admits.platform]
  have hfin : e.platform.finalization = false := by rw [X.admits.platform]
  have hpl : e.platform.magicAccessors = ({} : Platform).magicAccessors := by rw [X.admits.platform]
  have a' : ∀ x, x ∈ Bundle.ownAtoms own ic cls names → x.holds args s none s [] = true := fun x hx => h x hx
  obtain ⟨T, Z0, L, -, Y⟩ := ThrowableC.of_atoms (args := args) howns hfin hpl (fun x hx => h x (by simp [Bundle.ownAtoms, hx]))
  obtain ⟨Z, M, LZ, LM, hnZ⟩ := Init0T.ofS_atoms (args := args) hpl L Y (fun x hx => h x (by simp [Bundle.ownAtoms, hx]))
  obtain ⟨P1, Ps, hlen, L1, hL, hP1m, hlink1, hlink⟩ := Bundle.chainS (args := args) hpl hnZ names cls hcls hnames (fun x hx => h x (by simp [Bundle.ownAtoms, hx]))
  have hfound : s.vm.findClass cls = some P1.m.cls := findClass_of_methodNamed hP1m
  cases Option.some.inj (hfoundX.symm.trans hfound)
  obtain ⟨c1, kX', hc1, hk, hord, -, -, hn6⟩ := Cond.instantiable_spec (a' (.instantiable cls 6) (by simp [Bundle.ownAtoms]))
  cases Option.some.inj (hc1.symm.trans hfound)
  cases Option.some.inj (hkX.symm.trans hk)
  have hsel0 : selectMethod e.platform s.vm P1.m.cls T.fill0 = .method T.fill0 := by
    obtain ⟨c2, r2, m2, q1, q2, q3, q4, -⟩ := Cond.selects_spec (a' (.selects cls Bundle.tFill0 Bundle.tFill0) (by simp [Bundle.ownAtoms]))
    cases Option.some.inj (q1.symm.trans hfound)
    cases Option.some.inj (q2.symm.trans (State.methodFound?_of_named Y.fill0 (by decide)))
    cases Option.some.inj (q3.symm.trans Y.fill0)
    rw [Launch.admits_selectMethod X.admits]; exact q4
  have hselF : selectMethod e.platform s.vm P1.m.cls T.fill = .method T.fill := by
    obtain ⟨c2, r2, m2, q1, q2, q3, q4, -⟩ := Cond.selects_spec (a' (.selects cls Bundle.tFill Bundle.tFill) (by simp [Bundle.ownAtoms]))
    cases Option.some.inj (q1.symm.trans hfound)
    cases Option.some.inj (q2.symm.trans (State.methodFound?_of_named Y.fill (by decide)))
    cases Option.some.inj (q3.symm.trans Y.fill)
    rw [Launch.admits_selectMethod X.admits]; exact q4
  obtain ⟨cellS0, hcS0, hiss⟩ := Y.statics
  obtain ⟨u0, hu0⟩ := Cond.staticRefV Y.unassigned L.unassignedStatic L.statics hcS0 hiss (a' (.isRef (.static Bundle.tN "UNASSIGNED_STACK" Bundle.steD)) (by simp [Bundle.ownAtoms]))
  obtain ⟨sen, hsen⟩ := Cond.staticRefV Y.sentinel L.sentinelStatic L.statics hcS0 hiss (a' (.isRef (.static Bundle.tN "SUPPRESSED_SENTINEL" Bundle.listD)) (by simp [Bundle.ownAtoms]))
  obtain ⟨ci198, i198, fB, hk198, hg198, ha198, hsB, -, hnB, htB, hffB⟩ := Cond.ownField (t := .object "java/lang/Object") Y.found L.cls (by decide +kernel) (a' (.fieldLink Bundle.tN 198 Bundle.tN "backtrace" "Ljava/lang/Object;") (by simp [Bundle.ownAtoms])) (a' (.lays Bundle.tN Bundle.tN "backtrace" "Ljava/lang/Object;") (by simp [Bundle.ownAtoms])) e.platform hpl
  obtain ⟨cellS, hcS', heS, -, hkeep⟩ := X.same.2.2.2.2.2 T.aS cellS0 hcS0
  have hcellS : W.heap[T.aS]? = some cellS := hcS'
  have hout' : ∀ i, (⟨T.aS, i⟩ : Loc) ∉ locs := fun i hmem => by
    have := hlocs _ hmem cellS0 hcS0
    rw [hiss] at this; cases this
  have hknownS : cellS.vm ≠ .unknown := by
    rw [heS]; intro hu
    rw [show cellS0.vm = .unknown from hu] at hiss
    cases hiss
  have hneS : T.aS ≠ a := Nat.ne_of_lt (Nat.lt_of_lt_of_le (Array.getElem?_eq_some_iff.mp hcS0).1 hnew)
  obtain ⟨iM, hffM⟩ := Y.msg
  obtain ⟨tyC, dC, hdC, hdnC⟩ := Cond.laysAt hfound hk Y.cause (a' (.lays cls Bundle.tN "cause" "Ljava/lang/Throwable;") (by simp [Bundle.ownAtoms]))
  obtain ⟨tyS, dS, hdS, hdnS⟩ := Cond.laysAt hfound hk Y.stack (a' (.lays cls Bundle.tN "stackTrace" Bundle.steD) (by simp [Bundle.ownAtoms]))
  obtain ⟨tyP, dP, hdP, hdnP⟩ := Cond.laysAt hfound hk Y.supp (a' (.lays cls Bundle.tN "suppressedExceptions" Bundle.listD) (by simp [Bundle.ownAtoms]))
  obtain ⟨tyM, dM, hdM, hdnM⟩ := Cond.laysAt hfound hk hffM (a' (.lays cls Bundle.tN "detailMessage" "Ljava/lang/String;") (by simp [Bundle.ownAtoms]))
  obtain ⟨tyB, dB, hdB, hdnB⟩ := Cond.laysAt hfound hk hffB (a' (.lays cls Bundle.tN "backtrace" "Ljava/lang/Object;") (by simp [Bundle.ownAtoms]))
  have bC := Cond.laysApart hdB hdC hdnB hdnC (by rw [hnB, Y.causeName]; decide)
  have bS := Cond.laysApart hdB hdS hdnB hdnS (by rw [hnB, Y.stackName]; decide)
  have bP := Cond.laysApart hdB hdP hdnB hdnP (by rw [hnB, Y.suppName]; decide)
  have hskip : SkipFacts T e.platform s (fun u => u) u0 ((preparedCellV T.toThrowableT (freshCell P1.m.cls kX) a u0 sen).withEntry W.cur) :=
    ⟨{ ci198 := ci198, i198 := i198, fBack := fB }, ⟨hk198, hg198, ha198, hsB⟩, by
      have := fresh_default (c := P1.m.cls) tyB
      rw [htB] at this
      simpa [preparedCellV, Cell.setSlot, Cell.withEntry, Array.getElem?_setIfInBounds, bC, bS, bP, bC.symm, bS.symm, bP.symm, defaultValue] using this, fun _ _ => rfl⟩
  obtain ⟨tm, methC, cdC, kC, vm₁, hnC, -, -, -, -, -, -, -, hW₁, st1⟩ := Steps.initColdS (tb := p.tables) (e := e) (below := below) (s := s) (U := W) X.here hexec X.warmed hpl hown (t := Bundle.initS cls) rfl rfl (Bundle.fit_spec hcls).2
    (a' (.methodLink own ic (Bundle.initS cls)) (by simp [Bundle.ownAtoms])) (h (.instanceMethod (Bundle.initS cls)) (by cases names <;> simp [Bundle.ownAtoms, Bundle.chainSAtoms, Bundle.passSAtoms])) (bytes := Bundle.six) (maxL := 2) (h (.code (Bundle.initS cls) Bundle.six 2 none) (by cases names <;> simp [Bundle.ownAtoms, Bundle.chainSAtoms, Bundle.passSAtoms]))
    (f := g) hg (a := a) (msg := msg) (rest := .ref a :: rest) hstack hd6
  cases Option.some.inj (hnC.symm.trans hP1m)
  have X₁ := X.noted hW₁
  obtain ⟨vm₂, X₂, st2⟩ := X₁.ctorMessageOffV hexec (g := { g with stack := .ref a :: rest }) hg hsize T L Z LZ M LM (P1 :: Ps)
    (fun P hP => by rcases List.mem_cons.mp hP with rfl | hP; exact L1; exact hL P hP) ⟨hlink1, hlink⟩ (u0 := u0) (sen := sen) (self := a) hmsg (cell := freshCell P1.m.cls kX) (cellS := cellS)
    hcell (fun _ => by simp) (by simp) rfl rfl hsel0 hselF hcellS hneS hknownS (by rw [hkeep _ (hout' _)]; exact hu0) (by rw [hkeep _ (hout' _)]; exact hsen)
    (Takes.of_laid hk hord tyC (by rw [Y.causeType]; rfl)) (Takes.of_laid hk hord tyS (by rw [Y.stackType]; exact fits_refV_array _ u0)) (Takes.of_laid hk hord tyP (by rw [Y.suppType]; exact fits_refV_object _ sen))
    (Takes.of_laid hk hord tyM (by rw [Y.msgType]; exact fits_refV_object _ ⟨msg, hmsg⟩)) Y.objLocals hskip htr [] hd6
    (by simp only [List.length_cons, hlen]; omega) (by simp only [List.length_cons, hlen]; exact hRlocals)
  have hlt : a < ((W.setVm vm₁).setVm vm₂).heap.size := (Array.getElem?_eq_some_iff.mp hcell).1
  refine ⟨(W.setVm vm₁).setVm vm₂, _, _, X₂, fun y hy => ?_, hlt, rfl, rfl, fun target hwalk => st1 _ (fun acts => ?_)⟩
  · simp only [List.mem_cons, List.not_mem_nil, or_false] at hy
    rcases hy with rfl | rfl | rfl | rfl | rfl <;> rfl
  · rw [doInvoke_state]
    exact st2 _ hwalk
set_option maxHeartbeats 1000000 in
theorem vx_ctorMade0 (X : Stand p l e R s m₀ args below meth c W locs cells slots) (hexec : p.tables.exec = Jvm.exec) (htr : e.platform.stackTraces = false) {own cls : String} {names : List String} {ic : Nat}
    (hown : s.vm.findClass own = some m₀.cls) (hcls : Bundle.fit cls = true) (hnames : ∀ n ∈ names, Bundle.fit n = true)
    (h : ∀ a ∈ Bundle.ownAtoms0 own ic cls names, a.before args s = true)
    (hlocs : ∀ x ∈ locs, ∀ cell, s.heap[x.base]? = some cell → cell.vm.isStatics = false)
    {a : Addr} {cX : ClassId} {kX : Class} (hfoundX : s.vm.findClass cls = some cX) (hkX : s.vm.classes[cX]? = some kX) (hcell : W.heap[a]? = some (freshCell cX kX)) (hnew : s.heap.size ≤ a)
    {g : JFrame} (hg : g.method = m₀) (hsize : g.locals.size = c.maxLocals) {rest : List Value} (hstack : g.stack = .ref a :: .ref a :: rest)
    (hd6 : decode c.code g.pc = .ok (.invokespecial ic, 3))
    (hRframes : names.length + 3 < R.frames) (hRlocals : 2 * g.monitorRoom + ((Value.ref a :: rest).map fun v => v.category).sum + (13 * (names.length + 1) + 41) ≤ R.locals) :
    ∃ (V : State) (ce : Cell) (L : List Loc), Stand p l e R s m₀ args below meth c (V.setCell a ce) (locs ++ L) cells slots ∧ (∀ y ∈ L, y.base = a) ∧ a < V.heap.size ∧ ce.cls = cX ∧ ce.vm = .none ∧
      ∀ target, Steps p.tables e below ((V.setCell a ce).setTop { g with stack := .ref a :: rest, pc := g.pc + 3 }) target → Steps p.tables e below (W.setTop g) target := by
  have howns : e.platform.frameOwnsMonitors = true := by rw [X.admits.platform]
  have hfin : e.platform.finalization = false := by rw [X.admits.platform]
  have hpl : e.platform.magicAccessors = ({} : Platform).magicAccessors := by rw [X.admits.platform]
  have a' : ∀ x, x ∈ Bundle.ownAtoms0 own ic cls names → x.holds args s none s [] = true := fun x hx => h x hx
  obtain ⟨T, Z, L, LZ, Y⟩ := ThrowableC.of_atoms (args := args) howns hfin hpl (fun x hx => h x (by simp [Bundle.ownAtoms0, hx]))
  obtain ⟨P1, Ps, hlen, L1, hL, hP1m, hlink1, hlink⟩ := Bundle.chain0 (args := args) hpl Y.init0 names cls hcls hnames (fun x hx => h x (by simp [Bundle.ownAtoms0, hx]))
  have hfound : s.vm.findClass cls = some P1.m.cls := findClass_of_methodNamed hP1m
  cases Option.some.inj (hfoundX.symm.trans hfound)
  obtain ⟨c1, kX', hc1, hk, hord, -, -, hn6⟩ := Cond.instantiable_spec (a' (.instantiable cls 6) (by simp [Bundle.ownAtoms0]))
  cases Option.some.inj (hc1.symm.trans hfound)
  cases Option.some.inj (hkX.symm.trans hk)
  have hsel0 : selectMethod e.platform s.vm P1.m.cls T.fill0 = .method T.fill0 := by
    obtain ⟨c2, r2, m2, q1, q2, q3, q4, -⟩ := Cond.selects_spec (a' (.selects cls Bundle.tFill0 Bundle.tFill0) (by simp [Bundle.ownAtoms0]))
    cases Option.some.inj (q1.symm.trans hfound)
    cases Option.some.inj (q2.symm.trans (State.methodFound?_of_named Y.fill0 (by decide)))
    cases Option.some.inj (q3.symm.trans Y.fill0)
    rw [Launch.admits_selectMethod X.admits]; exact q4
  have hselF : selectMethod e.platform s.vm P1.m.cls T.fill = .method T.fill := by
    obtain ⟨c2, r2, m2, q1, q2, q3, q4, -⟩ := Cond.selects_spec (a' (.selects cls Bundle.tFill Bundle.tFill) (by simp [Bundle.ownAtoms0]))
    cases Option.some.inj (q1.symm.trans hfound)
    cases Option.some.inj (q2.symm.trans (State.methodFound?_of_named Y.fill (by decide)))
    cases Option.some.inj (q3.symm.trans Y.fill)
    rw [Launch.admits_selectMethod X.admits]; exact q4
  obtain ⟨cellS0, hcS0, hiss⟩ := Y.statics
  obtain ⟨u0, hu0⟩ := Cond.staticRefV Y.unassigned L.unassignedStatic L.statics hcS0 hiss (a' (.isRef (.static Bundle.tN "UNASSIGNED_STACK" Bundle.steD)) (by simp [Bundle.ownAtoms0]))
  obtain ⟨sen, hsen⟩ := Cond.staticRefV Y.sentinel L.sentinelStatic L.statics hcS0 hiss (a' (.isRef (.static Bundle.tN "SUPPRESSED_SENTINEL" Bundle.listD)) (by simp [Bundle.ownAtoms0]))
  obtain ⟨ci198, i198, fB, hk198, hg198, ha198, hsB, -, hnB, htB, hffB⟩ := Cond.ownField (t := .object "java/lang/Object") Y.found L.cls (by decide +kernel) (a' (.fieldLink Bundle.tN 198 Bundle.tN "backtrace" "Ljava/lang/Object;") (by simp [Bundle.ownAtoms0])) (a' (.lays Bundle.tN Bundle.tN "backtrace" "Ljava/lang/Object;") (by simp [Bundle.ownAtoms0])) e.platform hpl
  obtain ⟨cellS, hcS', heS, -, hkeep⟩ := X.same.2.2.2.2.2 T.aS cellS0 hcS0
  have hcellS : W.heap[T.aS]? = some cellS := hcS'
  have hout' : ∀ i, (⟨T.aS, i⟩ : Loc) ∉ locs := fun i hmem => by
    have := hlocs _ hmem cellS0 hcS0
    rw [hiss] at this; cases this
  have hknownS : cellS.vm ≠ .unknown := by
    rw [heS]; intro hu
    rw [show cellS0.vm = .unknown from hu] at hiss
    cases hiss
  have hneS : T.aS ≠ a := Nat.ne_of_lt (Nat.lt_of_lt_of_le (Array.getElem?_eq_some_iff.mp hcS0).1 hnew)
  obtain ⟨iM, hffM⟩ := Y.msg
  obtain ⟨tyC, dC, hdC, hdnC⟩ := Cond.laysAt hfound hk Y.cause (a' (.lays cls Bundle.tN "cause" "Ljava/lang/Throwable;") (by simp [Bundle.ownAtoms0]))
  obtain ⟨tyS, dS, hdS, hdnS⟩ := Cond.laysAt hfound hk Y.stack (a' (.lays cls Bundle.tN "stackTrace" Bundle.steD) (by simp [Bundle.ownAtoms0]))
  obtain ⟨tyP, dP, hdP, hdnP⟩ := Cond.laysAt hfound hk Y.supp (a' (.lays cls Bundle.tN "suppressedExceptions" Bundle.listD) (by simp [Bundle.ownAtoms0]))
  obtain ⟨tyM, dM, hdM, hdnM⟩ := Cond.laysAt hfound hk hffM (a' (.lays cls Bundle.tN "detailMessage" "Ljava/lang/String;") (by simp [Bundle.ownAtoms0]))
  obtain ⟨tyB, dB, hdB, hdnB⟩ := Cond.laysAt hfound hk hffB (a' (.lays cls Bundle.tN "backtrace" "Ljava/lang/Object;") (by simp [Bundle.ownAtoms0]))
  have bC := Cond.laysApart hdB hdC hdnB hdnC (by rw [hnB, Y.causeName]; decide)
  have bS := Cond.laysApart hdB hdS hdnB hdnS (by rw [hnB, Y.stackName]; decide)
  have bP := Cond.laysApart hdB hdP hdnB hdnP (by rw [hnB, Y.suppName]; decide)
  have hskip : SkipFacts T e.platform s (fun u => u) u0 ((preparedCellV T.toThrowableT (freshCell P1.m.cls kX) a u0 sen).withEntry W.cur) :=
    ⟨{ ci198 := ci198, i198 := i198, fBack := fB }, ⟨hk198, hg198, ha198, hsB⟩, by
      have := fresh_default (c := P1.m.cls) tyB
      rw [htB] at this
      simpa [preparedCellV, Cell.setSlot, Cell.withEntry, Array.getElem?_setIfInBounds, bC, bS, bP, bC.symm, bS.symm, bP.symm, defaultValue] using this, fun _ _ => rfl⟩
  obtain ⟨tm, methC, cdC, kC, vm₁, hnC, -, -, -, -, -, -, -, hW₁, st1⟩ := Steps.initCold (tb := p.tables) (e := e) (below := below) (s := s) (U := W) X.here hexec X.warmed hpl hown (t := Bundle.init0 cls) rfl rfl (Bundle.fit_spec hcls).2
    (a' (.methodLink own ic (Bundle.init0 cls)) (by simp [Bundle.ownAtoms0])) (h (.instanceMethod (Bundle.init0 cls)) (by cases names <;> simp [Bundle.ownAtoms0, Bundle.chain0Atoms, Bundle.passAtoms])) (bytes := Bundle.five) (maxL := 1) (h (.code (Bundle.init0 cls) Bundle.five 1 none) (by cases names <;> simp [Bundle.ownAtoms0, Bundle.chain0Atoms, Bundle.passAtoms]))
    (f := g) hg (a := a) (rest := .ref a :: rest) hstack hd6
  cases Option.some.inj (hnC.symm.trans hP1m)
  have X₁ := X.noted hW₁
  obtain ⟨vm₂, X₂, st2⟩ := X₁.ctorPlainOffV hexec (g := { g with stack := .ref a :: rest }) hg hsize T L Z LZ (P1 :: Ps)
    (fun P hP => by rcases List.mem_cons.mp hP with rfl | hP; exact L1; exact hL P hP) ⟨hlink1, hlink⟩ (u0 := u0) (sen := sen) (self := a) (cell := freshCell P1.m.cls kX) (cellS := cellS)
    hcell (fun _ => by simp) (by simp) rfl rfl hsel0 hselF hcellS hneS hknownS (by rw [hkeep _ (hout' _)]; exact hu0) (by rw [hkeep _ (hout' _)]; exact hsen)
    (Takes.of_laid hk hord tyC (by rw [Y.causeType]; rfl)) (Takes.of_laid hk hord tyS (by rw [Y.stackType]; exact fits_refV_array _ u0)) (Takes.of_laid hk hord tyP (by rw [Y.suppType]; exact fits_refV_object _ sen)) Y.objLocals hskip htr [] hd6
    (by simp only [List.length_cons, hlen]; omega) (by simp only [List.length_cons, hlen]; exact hRlocals)
  have hlt : a < ((W.setVm vm₁).setVm vm₂).heap.size := (Array.getElem?_eq_some_iff.mp hcell).1
  refine ⟨(W.setVm vm₁).setVm vm₂, _, _, X₂, fun y hy => ?_, hlt, rfl, rfl, fun target hwalk => st1 _ (fun acts => ?_)⟩
  · simp only [List.mem_cons, List.not_mem_nil, or_false] at hy
    rcases hy with rfl | rfl | rfl | rfl <;> rfl
  · rw [doInvoke_state]
    exact st2 _ hwalk
end VXK
section VXK2
variable {p : Program} {l : Launch} {e : Env} {R : Room} {s : State} {m : MethodId} {args : Array Value} {below : List Frame} {meth : Method} {c : Code} {H : Heap} {locs : List Loc} {cells slots : Nat} {Q : State → Prop}
variable {ls : Array Slot} {rest : List Value} {D : va_G} {cl : List vw_C} {tys : List (ClassId × FieldType)} {ws : va_W}
/-- 'new E("text")' that isn't thrown at once: the object goes on the stack -/
theorem vx_makeS {cc : ByteArray} {pc : Nat} (hexec : p.tables.exec = Jvm.exec) (hb : c.code = cc) (hl : l.stackTraces = false) {own cls text : String} {names : List String} {ik is ic sa ci : Nat} {A : Nat → Prop} {T0 : u_T}
    (hown : s.vm.findClass own = some m.cls) (hcls : Bundle.fit cls = true) (hnames : ∀ n ∈ names, Bundle.fit n = true)
    (hk : (Cond.classLink own ik cls).before args s = true) (hini : (Cond.initialized cls).before args s = true) (hstr : vk_R own is text sa s) (hat : ∀ w ∈ vx_atS own ic cls names, w.before args s = true)
    (hgood : ∀ w ∈ Cond.classLink own ik cls :: Cond.initialized cls :: vx_atS own ic cls names, vx_ot w = true)
    (hU : vx_Zq Bundle.tN "UNASSIGNED_STACK" Bundle.steD A s s.heap) (hN : vx_Zq Bundle.tN "SUPPRESSED_SENTINEL" Bundle.listD A s s.heap) (hS : va_S A s.heap H locs) (hsize : ls.size = c.maxLocals)
    (d0 : decode cc pc = .ok (.new ik, 3)) (d3 : decode cc (pc + 3) = .ok (.dup, 1)) (d4 : decode cc (pc + 4) = .ok (.ldc is, 2)) (d6 : decode cc (pc + 6) = .ok (.invokespecial ic, 3))
    (hK : va_K D cl tys s) (hP : va_P D cl ws H) (hD : va_D A ws) (hA : ∀ q, s.heap.size ≤ q → A q) (hc : cl[ci]? = some (cls, T0, 0))
    (hRframes : names.length + 3 < R.frames) (hRlocals : (rest.map fun v => v.category).sum + (13 * (names.length + 1) + 43) ≤ R.locals) (hRcells : cells + 1 ≤ R.cells) (hRslots : slots + 6 ≤ R.slots)
    (kk : ∀ (q : Nat) (H1 : Heap), va_P D cl (ws ++ [(q, .inr (ci, []))]) H1 → va_D A (ws ++ [(q, .inr (ci, []))]) → va_S A s.heap H1 locs → W p l e R s m args below meth c H1 locs (cells + 1) (slots + 6) Q (F0 m (pc + 9) ls (.ref q :: rest))) :
    W p l e R s m args below meth c H locs cells slots Q (F0 m pc ls rest) := by
  intro T hT X
  subst hT
  have htr : e.platform.stackTraces = false := (show e.platform.stackTraces = l.stackTraces by rw [X.admits.platform]).trans hl
  have Y := vx_rebase X (R' := { frames := R.frames, locals := R.locals, cells := 1, slots := 6 }) (Nat.le_refl _) (Nat.le_refl _) hRcells hRslots
  obtain ⟨s', hA'⟩ : ∃ z, z = (T.setVm s.vm).setFrames (.invoking m args :: below) := ⟨_, rfl⟩
  rw [← hA'] at Y
  have hvm : s'.vm = s.vm := by rw [hA']; rfl
  have hhp : s'.heap = T.heap := by rw [hA']; rfl
  have hW0 : s.WarmedH s'.vm := by rw [hvm]; exact State.WarmedH.refl s
  have hat' : ∀ w ∈ vx_atS own ic cls names, w.before args s' = true := fun w hw => vx_ot_at hW0 hvm.symm (hgood w (List.mem_cons_of_mem _ (List.mem_cons_of_mem _ hw))) (hat w hw)
  have hk' : (Cond.classLink own ik cls).before args s' = true := vx_ot_at hW0 hvm.symm (hgood _ List.mem_cons_self) hk
  have hini' : (Cond.initialized cls).before args s' = true := vx_ot_at hW0 hvm.symm (hgood _ (List.mem_cons_of_mem _ List.mem_cons_self)) hini
  have hU' : vx_Zq Bundle.tN "UNASSIGNED_STACK" Bundle.steD A s' s'.heap := by rw [hhp]; exact vx_Zq.moved hW0.alike (hU.kept hS.2.1)
  have hN' : vx_Zq Bundle.tN "SUPPRESSED_SENTINEL" Bundle.listD A s' s'.heap := by rw [hhp]; exact vx_Zq.moved hW0.alike (hN.kept hS.2.1)
  have h : ∀ w ∈ Bundle.ownAtoms own ic cls names, w.before args s' = true := vx_own hat' (vx_isRefq hU'.1) (vx_isRefq hN'.1) hU'.2.word hN'.2.word
  have hown' : s'.vm.findClass own = some m.cls := by rw [hvm]; exact hown
  have hins : (Cond.instantiable cls 6).before args s' = true := h _ (by simp [Bundle.ownAtoms])
  obtain ⟨vm₁, cX, kX, hfX, hkX, -, -, X₁, st1⟩ := Y.newCold hexec (own := own) (C := cls) (index := ik) (n := 6) hown' hk' hins hini'
    (g := F0 m pc ls rest) rfl (by rw [hb]; exact d0) (Nat.le_refl _) (Nat.le_refl _)
  generalize hT1 : (T.setVm vm₁).pushCell { cls := cX, slots := kX.instanceTypes.map defaultValue, vm := .none } = T1 at X₁ st1
  have hcat : (Value.ref T.heap.size).category = 1 := rfl
  have hcellA : T1.heap[T.heap.size]? = some (freshCell cX kX) := by rw [← hT1]; exact State.heap_pushCell_size _ _
  have d3' : decode c.code (pc + 3) = .ok (.dup, 1) := by rw [hb]; exact d3
  have d4' : decode c.code (pc + 4) = .ok (.ldc is, 2) := by rw [hb]; exact d4
  have hstr' : vk_R own is text sa s' := vk_R.warm hW0 hstr
  obtain ⟨V, ce, L, Z, hL, hlt, hcl9, hvm9, st⟩ := vx_ctorMadeS X₁ hexec htr (own := own) (cls := cls) (names := names) (ic := ic) hown' hcls hnames h (fun x hx => nomatch hx) hfX hkX hcellA (by rw [hhp]; exact Nat.le_refl _) (msg := .ref sa) rfl
    (g := { method := m, pc := pc + 6, locals := ls, stack := .ref sa :: .ref T.heap.size :: .ref T.heap.size :: rest, locked := none }) rfl hsize (rest := rest) rfl
    (by rw [hb]; exact d6) hRframes (by simp only [List.map_cons, List.sum_cons, hcat]; omega)
  have Z0 := Stand.forget (locs := []) Z (fun y hy => by rw [hL y hy, hhp]; exact Nat.le_refl _)
  obtain ⟨f1, f2⟩ := vx_frame Z0.same
  rw [hhp] at f1 f2
  have hcid : ce.cls = D.1 ci := by
    rw [hcl9]
    have h1 := (hK.1 ci _ hc).2.1
    rw [hvm] at hfX
    exact Option.some.inj (hfX.symm.trans h1)
  have hh : (V.setCell T.heap.size ce).heap[T.heap.size]? = some ce := heapAt_setCell_self (s := V) ce hlt
  subst hA'
  have X5 := vx_back9 X Y Z0
  have X6 : Stand p l e R s m args below meth c (V.setCell T.heap.size ce) locs (cells + 1) (slots + 6) := { X5 with same := X5.same.mono (by omega) (by omega) }
  have hk9 : ∀ (k : Nat) (x : Nat × va_E), ws[k]? = some x → (V.setCell T.heap.size ce).heap[x.1]? = T.heap[x.1]? := fun k x hx => f2 x.1 ((hP k x hx).lt) (fun z hz => nomatch hz)
  obtain ⟨t, a1, b1⟩ := kk T.heap.size (V.setCell T.heap.size ce).heap ((hP.kept hk9).app (fun k x hx => by
      have hz : k < 1 := (List.getElem?_eq_some_iff.mp hx).1
      rw [show k = 0 by omega] at hx
      cases hx
      exact ⟨_, hc, ce, hh, hcid, hvm9, fun k hk => absurd hk (Nat.not_lt_zero k)⟩)) (hD.push hP rfl (hA _ hS.1)) ⟨Nat.le_trans hS.1 f1, fun q h1 h2 => (f2 q (Nat.lt_of_lt_of_le h1 hS.1) (fun z hz => nomatch hz)).trans (hS.2.1 q h1 h2), hS.2.2⟩ _ rfl X6
  refine ⟨t, st1 _ ?_, b1⟩
  show Steps p.tables e below (T1.setTop { method := m, pc := pc + 3, locals := ls, stack := .ref T.heap.size :: rest, locked := none }) _
  jvm_step X₁.here [X₁.here.top, hexec, d3', Value.category]
  exact X₁.ldcString hexec (own := own) (text := text) (index := is) (a := sa) hown' hstr'.1 hstr'.2
    (g := { method := m, pc := pc + 4, locals := ls, stack := .ref T.heap.size :: .ref T.heap.size :: rest, locked := none }) rfl d4' _ (st _ a1)
/-- 'new E()' that isn't thrown at once: the object goes on the stack -/
theorem vx_make0 {cc : ByteArray} {pc : Nat} (hexec : p.tables.exec = Jvm.exec) (hb : c.code = cc) (hl : l.stackTraces = false) {own cls : String} {names : List String} {ik ic ci : Nat} {A : Nat → Prop} {T0 : u_T}
    (hown : s.vm.findClass own = some m.cls) (hcls : Bundle.fit cls = true) (hnames : ∀ n ∈ names, Bundle.fit n = true)
    (hk : (Cond.classLink own ik cls).before args s = true) (hini : (Cond.initialized cls).before args s = true) (hat : ∀ w ∈ vx_at0 own ic cls names, w.before args s = true)
    (hgood : ∀ w ∈ Cond.classLink own ik cls :: Cond.initialized cls :: vx_at0 own ic cls names, vx_ot w = true)
    (hU : vx_Zq Bundle.tN "UNASSIGNED_STACK" Bundle.steD A s s.heap) (hN : vx_Zq Bundle.tN "SUPPRESSED_SENTINEL" Bundle.listD A s s.heap) (hS : va_S A s.heap H locs) (hsize : ls.size = c.maxLocals)
    (d0 : decode cc pc = .ok (.new ik, 3)) (d3 : decode cc (pc + 3) = .ok (.dup, 1)) (d4 : decode cc (pc + 4) = .ok (.invokespecial ic, 3))
    (hK : va_K D cl tys s) (hP : va_P D cl ws H) (hD : va_D A ws) (hA : ∀ q, s.heap.size ≤ q → A q) (hc : cl[ci]? = some (cls, T0, 0))
    (hRframes : names.length + 3 < R.frames) (hRlocals : (rest.map fun v => v.category).sum + (13 * (names.length + 1) + 42) ≤ R.locals) (hRcells : cells + 1 ≤ R.cells) (hRslots : slots + 6 ≤ R.slots)
    (kk : ∀ (q : Nat) (H1 : Heap), va_P D cl (ws ++ [(q, .inr (ci, []))]) H1 → va_D A (ws ++ [(q, .inr (ci, []))]) → va_S A s.heap H1 locs → W p l e R s m args below meth c H1 locs (cells + 1) (slots + 6) Q (F0 m (pc + 7) ls (.ref q :: rest))) :
    W p l e R s m args below meth c H locs cells slots Q (F0 m pc ls rest) := by
  intro T hT X
  subst hT
  have htr : e.platform.stackTraces = false := (show e.platform.stackTraces = l.stackTraces by rw [X.admits.platform]).trans hl
  have Y := vx_rebase X (R' := { frames := R.frames, locals := R.locals, cells := 1, slots := 6 }) (Nat.le_refl _) (Nat.le_refl _) hRcells hRslots
  obtain ⟨s', hA'⟩ : ∃ z, z = (T.setVm s.vm).setFrames (.invoking m args :: below) := ⟨_, rfl⟩
  rw [← hA'] at Y
  have hvm : s'.vm = s.vm := by rw [hA']; rfl
  have hhp : s'.heap = T.heap := by rw [hA']; rfl
  have hW0 : s.WarmedH s'.vm := by rw [hvm]; exact State.WarmedH.refl s
  have hat' : ∀ w ∈ vx_at0 own ic cls names, w.before args s' = true := fun w hw => vx_ot_at hW0 hvm.symm (hgood w (List.mem_cons_of_mem _ (List.mem_cons_of_mem _ hw))) (hat w hw)
  have hk' : (Cond.classLink own ik cls).before args s' = true := vx_ot_at hW0 hvm.symm (hgood _ List.mem_cons_self) hk
  have hini' : (Cond.initialized cls).before args s' = true := vx_ot_at hW0 hvm.symm (hgood _ (List.mem_cons_of_mem _ List.mem_cons_self)) hini
  have hU' : vx_Zq Bundle.tN "UNASSIGNED_STACK" Bundle.steD A s' s'.heap := by rw [hhp]; exact vx_Zq.moved hW0.alike (hU.kept hS.2.1)
  have hN' : vx_Zq Bundle.tN "SUPPRESSED_SENTINEL" Bundle.listD A s' s'.heap := by rw [hhp]; exact vx_Zq.moved hW0.alike (hN.kept hS.2.1)
  have h : ∀ w ∈ Bundle.ownAtoms0 own ic cls names, w.before args s' = true := vx_own hat' (vx_isRefq hU'.1) (vx_isRefq hN'.1) hU'.2.word hN'.2.word
  have hown' : s'.vm.findClass own = some m.cls := by rw [hvm]; exact hown
  have hins : (Cond.instantiable cls 6).before args s' = true := h _ (by simp [Bundle.ownAtoms0])
  obtain ⟨vm₁, cX, kX, hfX, hkX, -, -, X₁, st1⟩ := Y.newCold hexec (own := own) (C := cls) (index := ik) (n := 6) hown' hk' hins hini'
    (g := F0 m pc ls rest) rfl (by rw [hb]; exact d0) (Nat.le_refl _) (Nat.le_refl _)
  generalize hT1 : (T.setVm vm₁).pushCell { cls := cX, slots := kX.instanceTypes.map defaultValue, vm := .none } = T1 at X₁ st1
  have hcat : (Value.ref T.heap.size).category = 1 := rfl
  have hcellA : T1.heap[T.heap.size]? = some (freshCell cX kX) := by rw [← hT1]; exact State.heap_pushCell_size _ _
  have d3' : decode c.code (pc + 3) = .ok (.dup, 1) := by rw [hb]; exact d3
  obtain ⟨V, ce, L, Z, hL, hlt, hcl9, hvm9, st⟩ := vx_ctorMade0 X₁ hexec htr (own := own) (cls := cls) (names := names) (ic := ic) hown' hcls hnames h (fun x hx => nomatch hx) hfX hkX hcellA (by rw [hhp]; exact Nat.le_refl _)
    (g := { method := m, pc := pc + 4, locals := ls, stack := .ref T.heap.size :: .ref T.heap.size :: rest, locked := none }) rfl hsize (rest := rest) rfl
    (by rw [hb]; exact d4) hRframes (by simp only [List.map_cons, List.sum_cons, hcat]; omega)
  have Z0 := Stand.forget (locs := []) Z (fun y hy => by rw [hL y hy, hhp]; exact Nat.le_refl _)
  obtain ⟨f1, f2⟩ := vx_frame Z0.same
  rw [hhp] at f1 f2
  have hcid : ce.cls = D.1 ci := by
    rw [hcl9]
    have h1 := (hK.1 ci _ hc).2.1
    rw [hvm] at hfX
    exact Option.some.inj (hfX.symm.trans h1)
  have hh : (V.setCell T.heap.size ce).heap[T.heap.size]? = some ce := heapAt_setCell_self (s := V) ce hlt
  subst hA'
  have X5 := vx_back9 X Y Z0
  have X6 : Stand p l e R s m args below meth c (V.setCell T.heap.size ce) locs (cells + 1) (slots + 6) := { X5 with same := X5.same.mono (by omega) (by omega) }
  have hk9 : ∀ (k : Nat) (x : Nat × va_E), ws[k]? = some x → (V.setCell T.heap.size ce).heap[x.1]? = T.heap[x.1]? := fun k x hx => f2 x.1 ((hP k x hx).lt) (fun z hz => nomatch hz)
  obtain ⟨t, a1, b1⟩ := kk T.heap.size (V.setCell T.heap.size ce).heap ((hP.kept hk9).app (fun k x hx => by
      have hz : k < 1 := (List.getElem?_eq_some_iff.mp hx).1
      rw [show k = 0 by omega] at hx
      cases hx
      exact ⟨_, hc, ce, hh, hcid, hvm9, fun k hk => absurd hk (Nat.not_lt_zero k)⟩)) (hD.push hP rfl (hA _ hS.1)) ⟨Nat.le_trans hS.1 f1, fun q h1 h2 => (f2 q (Nat.lt_of_lt_of_le h1 hS.1) (fun z hz => nomatch hz)).trans (hS.2.1 q h1 h2), hS.2.2⟩ _ rfl X6
  refine ⟨t, st1 _ ?_, b1⟩
  show Steps p.tables e below (T1.setTop { method := m, pc := pc + 3, locals := ls, stack := .ref T.heap.size :: rest, locked := none }) _
  jvm_step X₁.here [X₁.here.top, hexec, d3', Value.category]
  exact st _ a1
/-- 'throw x' of an object that was made before -/
theorem vx_athrow {cc : ByteArray} {pc : Nat} (hexec : p.tables.exec = Jvm.exec) (hb : c.code = cc) {q : Addr} (hdg : decode cc pc = .ok (.athrow, 1)) (k : vx_W p l e R s m args below meth c H locs cells slots Q (F0 m pc ls rest) q) : W p l e R s m args below meth c H locs cells slots Q (F0 m pc ls (.ref q :: rest)) := by
  intro T hT X
  obtain ⟨t, st, hq⟩ := k T hT X
  refine ⟨t, ?_, hq⟩
  have hdg' : decode c.code pc = .ok (.athrow, 1) := by rw [hb]; exact hdg
  jvm_step X.here [X.here.top, hexec, hdg', athrow.wp_sem]
  exact st
end VXK2
/-! ===== END ===== -/
/-! ===== BEGIN a constructor that throws (launches without stack traces) ===== -/
section VXIA
variable {p : Program} {l : Launch} {e : Env} {R : Room} {s : State} {m : MethodId} {args : Array Value} {below : List Frame} {meth : Method} {c : Code} {T : State} {locs : List Loc} {cells slots : Nat}
theorem vx_callI (X : Stand p l e R s m args below meth c T locs cells slots) (hexec : p.tables.exec = Jvm.exec) {own : String} {index : Nat} {y : MethodName} {bytes : ByteArray} {maxL : Nat}
    (hown : s.vm.findClass own = some m.cls) (hy1 : y.name = "<init>") (hlink : (Cond.methodLink own index y).before args s = true) (hinst : (Cond.instanceMethod y).before args s = true)
    (hcode : (Cond.code y bytes maxL none).before args s = true) (hy : y.cls ≠ "java/lang/invoke/MethodHandle" ∧ y.cls ≠ "java/lang/invoke/VarHandle")
    {W9 : Nat} {Pre : Pt → Array Value → Prop} {Post : Pt → Array Value → Option Value → Pt → Prop} {PostX : Pt → Array Value → Addr → Pt → Prop} (hK : vx_Back l R p e below s args y 3 W9 Pre Post PostX)
    {g : JFrame} (hg : g.method = m) (hsize : g.locals.size = c.maxLocals) {a : Addr} {argsL rest : List Value} (hlen : ∀ sig, parseMethodDescriptor y.desc = some sig → argsL.length = sig.parameters.length)
    (hstack : g.stack = argsL.reverse ++ .ref a :: rest) (hW : 2 * g.monitorRoom + (rest.map fun v => v.category).sum ≤ W9) (hdg : decode c.code g.pc = .ok (.invokespecial index, 3))
    (hpre : ∀ vm₁, s.WarmedH vm₁ → Pre ⟨T.setVm vm₁, locs, cells, slots⟩ (Value.ref a :: argsL).toArray) :
    (∃ (v : Option Value) (vm₁ : Vm) (B : Pt), s.WarmedH vm₁ ∧ Stand p l e R s m args below meth c B.U B.locs B.cells B.slots ∧ Post ⟨T.setVm vm₁, locs, cells, slots⟩ (Value.ref a :: argsL).toArray v B ∧
      ∀ target, Steps p.tables e below (B.U.setTop { g with pc := g.pc + 3, stack := v.toList ++ rest }) target → Steps p.tables e below (T.setTop g) target) ∨
    (∃ (q : Addr) (vm₁ : Vm) (B : Pt), s.WarmedH vm₁ ∧ Stand p l e R s m args below meth c B.U B.locs B.cells B.slots ∧ PostX ⟨T.setVm vm₁, locs, cells, slots⟩ (Value.ref a :: argsL).toArray q B ∧
      Steps p.tables e below (T.setTop g) ((B.U.setTop { g with stack := rest }).pushFrame (.throwing q))) := by
  subst hg
  have hpl : e.platform.magicAccessors = ({} : Platform).magicAccessors := by rw [X.admits.platform]
  obtain ⟨mk, methM, cM, kP, vm₁, hnamed, hmethM, hcodeM, -, hlocalsM, -, hkP, -, hW₁, hstep₁⟩ := Steps.initColdArgs (e := e) X.here hexec X.warmed hpl hown hy1 hy hlink hinst hcode (f := g) rfl hlen hstack hdg
  have X₁ := X.noted hW₁
  rcases hK g.method meth c ⟨T.setVm vm₁, locs, cells, slots⟩ { g with stack := rest } (.invokespecial index) mk (Value.ref a :: argsL).toArray X₁ rfl hsize hdg hW (X₁.named hnamed) (hpre vm₁ X₁.warmed) with ⟨v, B, X', hpost, hsteps⟩ | ⟨q, B, X', hpost, hsteps⟩
  · exact Or.inl ⟨v, vm₁, B, X₁.warmed, X', hpost, fun target h => hstep₁ _ fun acts => by rw [doInvoke_state]; exact hsteps.trans h⟩
  · exact Or.inr ⟨q, vm₁, B, X₁.warmed, X', hpost, hstep₁ _ fun acts => by rw [doInvoke_state]; exact hsteps⟩
end VXIA
section VXIB
variable {p : Program} {l : Launch} {e : Env} {R : Room} {s : State} {m : MethodId} {args : Array Value} {below : List Frame} {meth : Method} {c : Code} {H : Heap} {locs : List Loc} {cells slots : Nat}
variable {y : MethodName} {bytes cc : ByteArray} {maxL nL mc ms n index : Nat} {ret : Option FieldType} {ws : List Cond} {rm : Room} {Pc : Array Value → State → Prop} {Qc : Array Value → State → Outcome → State → Prop} {XC : String → State → State → Prop} {free : Addr → Prop} {Ts : List Cond} {own C : String} {b : Addr} {As rest : List Value} {g : JFrame}
theorem vx_runI (S : CallFix p m c cc nL s args Ts own) (hM : vx_Met l y ws rm Pc Qc XC mc ms free) (cw : CallB R s args own index y bytes maxL none ws rm mc ms n ∧ y.name = "<init>" ∧ (Cond.instanceMethod y).before args s = true) (hp : PreS s H Pc (.ref b :: As))
    (hg : g.method = m) (hn : As.length = n) (hsize : g.locals.size = nL) (hstack : g.stack = As.reverse ++ .ref b :: rest) (hW : 2 * g.monitorRoom + (rest.map fun v => v.category).sum ≤ 8) (hdg : decode cc g.pc = .ok (.invokespecial index, 3)) (hf : cells + mc ≤ R.cells ∧ slots + ms ≤ R.slots) :
    vx_Run p l e R s m args below meth c H locs cells slots mc ms g rest (Qc (Value.ref b :: As).toArray) XC free := by
  have hK : vx_Back l R p e below s args y 3 8 (PreOf R mc ms Pc) (PostOf Qc mc ms free) (vx_Post XC mc ms free) := vx_callBack cw.1 hM hp.1
  obtain ⟨⟨-, -, -, -, -, -, hcode, -, hy, hlen, hl⟩, hy1, hin⟩ := cw
  obtain ⟨hx, hb, hml, ho, -⟩ := S
  have hPc := hp.2
  intro T hT X
  rcases vx_callI X hx (bytes := bytes) (maxL := maxL) ho hy1 hl hin hcode hy hK hg (hsize.trans hml.symm) (a := b) (argsL := As) (rest := rest) (fun sig h => hn.trans (hlen sig h)) hstack hW (by rw [hb]; exact hdg)
    (fun vm₁ hW₁ => ⟨hf.1, hf.2, hPc (T.setVm vm₁) hT hW₁⟩) with ⟨v, vm₁, ⟨U', l2, c2, s2⟩, hW₁, X', ⟨g', mk, t, L, e1, e2, hq, h1, hL, h2, h3⟩, st⟩ | ⟨q, vm₁, ⟨U', l2, c2, s2⟩, hW₁, X', ⟨g', mk, t, L, E, ce, e1, e2, hq, hce, hcv, hcl, h1, hL, h2, h3⟩, st⟩
  · dsimp only [Pt.U, Pt.locs, Pt.cells, Pt.slots] at X' e1 e2 h1 h2 h3 st
    subst h1; subst h2; subst h3
    exact Or.inl ⟨v, (T.setVm vm₁).calling g' mk (Value.ref b :: As).toArray, t, U', L, hT, X', hL, e1, e2, hq, st⟩
  · dsimp only [Pt.U, Pt.locs, Pt.cells, Pt.slots] at X' e1 e2 h1 h2 h3 st hcl
    subst h1; subst h2; subst h3
    exact Or.inr ⟨q, (T.setVm vm₁).calling g' mk (Value.ref b :: As).toArray, t, U', L, E, ce, hT, X', hL, e1, e2, hq, hce, hcv, vx_cls hW₁ hcl, st⟩
end VXIB
/-! ===== END ===== -/
/-! ===== BEGIN a private constructor of a nest mate that throws ===== -/
section VXIC
variable {p : Program} {l : Launch} {e : Env} {R : Room} {s : State} {m : MethodId} {args : Array Value} {below : List Frame} {meth : Method} {c : Code} {T : State} {locs : List Loc} {cells slots : Nat}
theorem vx_callIN (X : Stand p l e R s m args below meth c T locs cells slots) (hexec : p.tables.exec = Jvm.exec) {own : String} {index : Nat} {host : String} {y : MethodName} {bytes : ByteArray} {maxL : Nat}
    (hown : s.vm.findClass own = some m.cls) (hy1 : y.name = "<init>") (hlink : (Cond.methodLinkNest own index y host).before args s = true) (hinst : (Cond.instanceMethod y).before args s = true)
    (hcode : (Cond.code y bytes maxL none).before args s = true) (hy : y.cls ≠ "java/lang/invoke/MethodHandle" ∧ y.cls ≠ "java/lang/invoke/VarHandle")
    {W9 : Nat} {Pre : Pt → Array Value → Prop} {Post : Pt → Array Value → Option Value → Pt → Prop} {PostX : Pt → Array Value → Addr → Pt → Prop} (hK : vx_Back l R p e below s args y 3 W9 Pre Post PostX)
    {g : JFrame} (hg : g.method = m) (hsize : g.locals.size = c.maxLocals) {a : Addr} {argsL rest : List Value} (hlen : ∀ sig, parseMethodDescriptor y.desc = some sig → argsL.length = sig.parameters.length)
    (hstack : g.stack = argsL.reverse ++ .ref a :: rest) (hW : 2 * g.monitorRoom + (rest.map fun v => v.category).sum ≤ W9) (hdg : decode c.code g.pc = .ok (.invokespecial index, 3))
    (hpre : ∀ vm₁, s.WarmedH vm₁ → Pre ⟨T.setVm vm₁, locs, cells, slots⟩ (Value.ref a :: argsL).toArray) :
    (∃ (v : Option Value) (vm₁ : Vm) (B : Pt), s.WarmedH vm₁ ∧ Stand p l e R s m args below meth c B.U B.locs B.cells B.slots ∧ Post ⟨T.setVm vm₁, locs, cells, slots⟩ (Value.ref a :: argsL).toArray v B ∧
      ∀ target, Steps p.tables e below (B.U.setTop { g with pc := g.pc + 3, stack := v.toList ++ rest }) target → Steps p.tables e below (T.setTop g) target) ∨
    (∃ (q : Addr) (vm₁ : Vm) (B : Pt), s.WarmedH vm₁ ∧ Stand p l e R s m args below meth c B.U B.locs B.cells B.slots ∧ PostX ⟨T.setVm vm₁, locs, cells, slots⟩ (Value.ref a :: argsL).toArray q B ∧
      Steps p.tables e below (T.setTop g) ((B.U.setTop { g with stack := rest }).pushFrame (.throwing q))) := by
  subst hg
  have hpl : e.platform.magicAccessors = ({} : Platform).magicAccessors := by rw [X.admits.platform]
  obtain ⟨mk, methM, cM, kP, vm₁, hnamed, hmethM, hcodeM, -, hlocalsM, -, hkP, -, hW₁, hstep₁⟩ := Steps.initColdArgsNest (e := e) X.here hexec X.warmed hpl hown hy1 hy hlink hinst hcode (f := g) rfl hlen hstack hdg
  have X₁ := X.noted hW₁
  rcases hK g.method meth c ⟨T.setVm vm₁, locs, cells, slots⟩ { g with stack := rest } (.invokespecial index) mk (Value.ref a :: argsL).toArray X₁ rfl hsize hdg hW (X₁.named hnamed) (hpre vm₁ X₁.warmed) with ⟨v, B, X', hpost, hsteps⟩ | ⟨q, B, X', hpost, hsteps⟩
  · exact Or.inl ⟨v, vm₁, B, X₁.warmed, X', hpost, fun target h => hstep₁ _ fun acts => by rw [doInvoke_state]; exact hsteps.trans h⟩
  · exact Or.inr ⟨q, vm₁, B, X₁.warmed, X', hpost, hstep₁ _ fun acts => by rw [doInvoke_state]; exact hsteps⟩
end VXIC
section VXID
variable {p : Program} {l : Launch} {e : Env} {R : Room} {s : State} {m : MethodId} {args : Array Value} {below : List Frame} {meth : Method} {c : Code} {H : Heap} {locs : List Loc} {cells slots : Nat}
theorem vx_runIN {y : MethodName} {bytes cc : ByteArray} {maxL nL mc ms n index : Nat} {ws : List Cond} {rm : Room} {Pc : Array Value → State → Prop} {Qc : Array Value → State → Outcome → State → Prop} {XC : String → State → State → Prop} {free : Addr → Prop} {Ts : List Cond} {own host : String} {b : Addr} {As rest : List Value} {g : JFrame}
    (S : CallFix p m c cc nL s args Ts own) (hM : vx_Met l y ws rm Pc Qc XC mc ms free) (cw : va_CN R s args own index y host bytes maxL none ws rm mc ms n ∧ y.name = "<init>" ∧ (Cond.instanceMethod y).before args s = true) (hp : PreS s H Pc (.ref b :: As))
    (hg : g.method = m) (hn : As.length = n) (hsize : g.locals.size = nL) (hstack : g.stack = As.reverse ++ .ref b :: rest) (hW : 2 * g.monitorRoom + (rest.map fun v => v.category).sum ≤ 8) (hdg : decode cc g.pc = .ok (.invokespecial index, 3)) (hf : cells + mc ≤ R.cells ∧ slots + ms ≤ R.slots) :
    vx_Run p l e R s m args below meth c H locs cells slots mc ms g rest (Qc (Value.ref b :: As).toArray) XC free := by
  obtain ⟨⟨⟨hrc, hrs, hfr, hlo, hws, hcw⟩, hcode, hini, hy, hlen, hl⟩, hx1, hx2⟩ := cw
  have hK : vx_Back l R p e below s args y 3 8 (PreOf R mc ms Pc) (PostOf Qc mc ms free) (vx_Post XC mc ms free) := vx_back (bytes := bytes) (maxL := maxL) (ret := none) hM hp.1 hrc hrs hfr hlo hws hcw (fun a' U hW => word_at hW (Or.inl (by first | rfl | simp [Cond.onTables, Cond.keeps, Cond.steady])) hini)
  obtain ⟨hx, hb, hml, ho, -⟩ := S
  have hPc := hp.2
  intro T hT X
  rcases vx_callIN X hx (bytes := bytes) (maxL := maxL) ho hx1 hl hx2 hcode hy hK hg (hsize.trans hml.symm) (a := b) (argsL := As) (rest := rest) (fun sig h => hn.trans (hlen sig h)) hstack hW (by rw [hb]; exact hdg)
    (fun vm₁ hW₁ => ⟨hf.1, hf.2, hPc (T.setVm vm₁) hT hW₁⟩) with ⟨v, vm₁, ⟨U', l2, c2, s2⟩, hW₁, X', ⟨g', mk, t, L, e1, e2, hq, h1, hL, h2, h3⟩, st⟩ | ⟨q, vm₁, ⟨U', l2, c2, s2⟩, hW₁, X', ⟨g', mk, t, L, E, ce, e1, e2, hq, hce, hcv, hcl, h1, hL, h2, h3⟩, st⟩
  · dsimp only [Pt.U, Pt.locs, Pt.cells, Pt.slots] at X' e1 e2 h1 h2 h3 st
    subst h1; subst h2; subst h3
    exact Or.inl ⟨v, (T.setVm vm₁).calling g' mk (Value.ref b :: As).toArray, t, U', L, hT, X', hL, e1, e2, hq, st⟩
  · dsimp only [Pt.U, Pt.locs, Pt.cells, Pt.slots] at X' e1 e2 h1 h2 h3 st hcl
    subst h1; subst h2; subst h3
    exact Or.inr ⟨q, (T.setVm vm₁).calling g' mk (Value.ref b :: As).toArray, t, U', L, E, ce, hT, X', hL, e1, e2, hq, hce, hcv, vx_cls hW₁ hcl, st⟩
end VXID
/-! ===== END ===== -/
/-! ===== BEGIN a method of a class above, found by the receiver, that may throw (follows va_callVU, va_runU of this kit) ===== -/
section
variable {p : Program} {l : Launch} {e : Env} {R : Room} {s : State} {m : MethodId} {args : Array Value} {below : List Frame} {meth : Method} {c : Code} {H : Heap} {locs : List Loc} {cells slots : Nat}
theorem vx_callVU {T : State} {locs : List Loc} {cells slots : Nat} (X : Stand p l e R s m args below meth c T locs cells slots) (hexec : p.tables.exec = Jvm.exec) {own C owner : String} {index : Nat} {x y : MethodName} {bytes : ByteArray} {maxL : Nat} {ret : Option FieldType}
    (hown : s.vm.findClass own = some m.cls) (hlink : (Cond.methodLink own index x).before args s = true) (hsame : (Cond.sameMethod x.cls owner x.name x.desc).before args s = true)
    (hd0 : va_Decl s ⟨owner, x.name, x.desc⟩) (howner : owner ≠ "java/lang/invoke/MethodHandle" ∧ owner ≠ "java/lang/invoke/VarHandle")
    (hsel : (Cond.selects C x y).before args s = true) (hinst : (Cond.instanceMethod y).before args s = true) (hcode : (Cond.code y bytes maxL ret).before args s = true)
    {W : Nat} {Pre : Pt → Array Value → Prop} {Post : Pt → Array Value → Option Value → Pt → Prop} {PostX : Pt → Array Value → Addr → Pt → Prop} (hK : vx_Back l R p e below s args y 3 W Pre Post PostX)
    {b : Addr} {cellB : Cell} (hcell : T.heap[b]? = some cellB) (hobj : cellB.vm.isStatics = false) (hcls : s.vm.findClass C = some cellB.cls)
    {g : JFrame} (hg : g.method = m) (hsize : g.locals.size = c.maxLocals) {argsL rest : List Value} (hlen : ∀ sig, parseMethodDescriptor x.desc = some sig → argsL.length = sig.parameters.length)
    (hstack : g.stack = argsL.reverse ++ .ref b :: rest) (hW : 2 * g.monitorRoom + (rest.map fun v => v.category).sum ≤ W) (hdg : decode c.code g.pc = .ok (.invokevirtual index, 3))
    (hpre : ∀ vm₁, s.WarmedH vm₁ → Pre ⟨T.setVm vm₁, locs, cells, slots⟩ (Value.ref b :: argsL).toArray) :
    (∃ (v : Option Value) (vm₁ : Vm) (B : Pt), s.WarmedH vm₁ ∧ Stand p l e R s m args below meth c B.U B.locs B.cells B.slots ∧ Post ⟨T.setVm vm₁, locs, cells, slots⟩ (Value.ref b :: argsL).toArray v B ∧
      ∀ target, Steps p.tables e below (B.U.setTop { g with pc := g.pc + 3, stack := v.toList ++ rest }) target → Steps p.tables e below (T.setTop g) target) ∨
    (∃ (q : Addr) (vm₁ : Vm) (B : Pt), s.WarmedH vm₁ ∧ Stand p l e R s m args below meth c B.U B.locs B.cells B.slots ∧ PostX ⟨T.setVm vm₁, locs, cells, slots⟩ (Value.ref b :: argsL).toArray q B ∧
      Steps p.tables e below (T.setTop g) ((B.U.setTop { g with stack := rest }).pushFrame (.throwing q))) := by
  obtain ⟨r0, r, hn, hrm, hstR, hsigR⟩ := hd0
  obtain ⟨cn, ck, r1, hcn, hck, hni, hf, hn1⟩ := Cond.sameMethod_found hsame
  cases hn.symm.trans hn1
  obtain ⟨mk, methM, hnamed, hmethM, -, habM⟩ := Cond.instanceMethod_spec hinst
  obtain ⟨c2, r2, m2, q1, q2, q3, q4, kP, hkP, hkPi⟩ := Cond.selects_spec hsel
  cases hcls.symm.trans q1
  cases hf.symm.trans q2
  cases hnamed.symm.trans q3
  have hselP : selectMethod e.platform s.vm cellB.cls r0 = .method mk := by rw [Launch.admits_selectMethod X.admits]; exact q4
  obtain ⟨vm₁, X₁, hstep₁⟩ := X.invokevirtualUp hexec hown hlink hsame howner hn hrm hstR (a := b) (cell := cellB) hcell
    (fun z h => by rw [h] at hobj; cases hobj) hselP hmethM habM hkP hkPi (g := g) hg (argsL := argsL) (rest := rest) (hlen _ hsigR) hstack hdg
  rcases hK m meth c ⟨T.setVm vm₁, locs, cells, slots⟩ { g with stack := rest } (.invokevirtual index) mk (Value.ref b :: argsL).toArray X₁ hg hsize hdg hW (X₁.named hnamed) (hpre vm₁ X₁.warmed) with ⟨v, B, X', hpost, hsteps⟩ | ⟨q, B, X', hpost, hsteps⟩
  · exact Or.inl ⟨v, vm₁, B, X₁.warmed, X', hpost, fun target h => hstep₁ _ fun acts => by rw [doInvoke_state]; exact hsteps.trans h⟩
  · exact Or.inr ⟨q, vm₁, B, X₁.warmed, X', hpost, hstep₁ _ fun acts => by rw [doInvoke_state]; exact hsteps⟩
theorem vx_runU {x y : MethodName} {bytes cc : ByteArray} {maxL nL mc ms n index : Nat} {ret : Option FieldType} {ws : List Cond} {rm : Room} {Pc : Array Value → State → Prop} {Qc : Array Value → State → Outcome → State → Prop} {XC : String → State → State → Prop} {free : Addr → Prop} {Ts : List Cond} {own C owner : String} {b : Addr} {As rest : List Value} {g : JFrame}
    (S : CallFix p m c cc nL s args Ts own) (hM : vx_Met l y ws rm Pc Qc XC mc ms free) (cw : va_CU R s args own C owner index x y bytes maxL ret ws rm mc ms n) (hp : PreV s H C b Pc As)
    (hg : g.method = m) (hn : As.length = n) (hsize : g.locals.size = nL) (hstack : g.stack = As.reverse ++ .ref b :: rest) (hW : 2 * g.monitorRoom + (rest.map fun v => v.category).sum ≤ 8) (hdg : decode cc g.pc = .ok (.invokevirtual index, 3)) (hf : cells + mc ≤ R.cells ∧ slots + ms ≤ R.slots) :
    vx_Run p l e R s m args below meth c H locs cells slots mc ms g rest (Qc (Value.ref b :: As).toArray) XC free := by
  obtain ⟨hrc, hrs, hfr, hlo, hws, hcw⟩ := cw.back
  have hini := cw.init
  have hK : vx_Back l R p e below s args y 3 8 (PreOf R mc ms Pc) (PostOf Qc mc ms free) (vx_Post XC mc ms free) := vx_back (bytes := bytes) (maxL := maxL) (ret := ret) hM hp.1 hrc hrs hfr hlo hws hcw (fun a' U hW => word_at hW (Or.inl (by first | rfl | simp [Cond.onTables, Cond.keeps, Cond.steady])) hini)
  obtain ⟨hx, hb, hml, ho, -⟩ := S
  obtain ⟨-, ⟨cellB, hcB, hoB, hclB⟩, hPc⟩ := hp
  intro T hT X
  rcases vx_callVU X hx (C := C) (owner := owner) (bytes := bytes) (maxL := maxL) (ret := ret) ho cw.link cw.same cw.decl cw.notMH cw.sel cw.inst cw.code hK (by rw [hT]; exact hcB) hoB hclB hg (hsize.trans hml.symm) (argsL := As) (rest := rest) (fun sig h => hn.trans (cw.len sig h)) hstack hW (by rw [hb]; exact hdg)
    (fun vm₁ hW₁ => ⟨hf.1, hf.2, hPc (T.setVm vm₁) hT hW₁⟩) with ⟨v, vm₁, ⟨U', l2, c2, s2⟩, hW₁, X', ⟨g', mk, t, L, e1, e2, hq, h1, hL, h2, h3⟩, st⟩ | ⟨q, vm₁, ⟨U', l2, c2, s2⟩, hW₁, X', ⟨g', mk, t, L, E, ce, e1, e2, hq, hce, hcv, hcl, h1, hL, h2, h3⟩, st⟩
  · dsimp only [Pt.U, Pt.locs, Pt.cells, Pt.slots] at X' e1 e2 h1 h2 h3 st
    subst h1; subst h2; subst h3
    exact Or.inl ⟨v, (T.setVm vm₁).calling g' mk (Value.ref b :: As).toArray, t, U', L, hT, X', hL, e1, e2, hq, st⟩
  · dsimp only [Pt.U, Pt.locs, Pt.cells, Pt.slots] at X' e1 e2 h1 h2 h3 st hcl
    subst h1; subst h2; subst h3
    exact Or.inr ⟨q, (T.setVm vm₁).calling g' mk (Value.ref b :: As).toArray, t, U', L, E, ce, hT, X', hL, e1, e2, hq, hce, hcv, vx_cls hW₁ hcl, st⟩
end
/-! ===== END ===== -/
/-! ===== BEGIN super.m(..) that may throw (follows va_callSU, va_runSU) ===== -/
section
variable {p : Program} {l : Launch} {e : Env} {R : Room} {s : State} {m : MethodId} {args : Array Value} {below : List Frame} {meth : Method} {c : Code} {H : Heap} {locs : List Loc} {cells slots : Nat}
theorem vx_callSU {T : State} {locs : List Loc} {cells slots : Nat} (X : Stand p l e R s m args below meth c T locs cells slots) (hexec : p.tables.exec = Jvm.exec) {own : String} {index : Nat} {y : MethodName} {bytes : ByteArray} {maxL : Nat} {ret : Option FieldType}
    (hown : s.vm.findClass own = some m.cls) (hlink : (Cond.methodLink own index y).before args s = true) (hsame : (Cond.sameMethod y.cls y.cls y.name y.desc).before args s = true) (hsup : (Cond.superclass own y.cls).before args s = true)
    (hinst : (Cond.instanceMethod y).before args s = true) (hcode : (Cond.code y bytes maxL ret).before args s = true) (hno : y.name ≠ "<init>")
    {W : Nat} {Pre : Pt → Array Value → Prop} {Post : Pt → Array Value → Option Value → Pt → Prop} {PostX : Pt → Array Value → Addr → Pt → Prop} (hK : vx_Back l R p e below s args y 3 W Pre Post PostX)
    {b : Addr} {cellB : Cell} {kB : Class} (hcell : T.heap[b]? = some cellB) (hobj : cellB.vm.isStatics = false) (hkB : s.vm.classes[cellB.cls]? = some kB)
    {g : JFrame} (hg : g.method = m) (hsize : g.locals.size = c.maxLocals) {argsL rest : List Value} (hlen : ∀ sig, parseMethodDescriptor y.desc = some sig → argsL.length = sig.parameters.length)
    (hstack : g.stack = argsL.reverse ++ .ref b :: rest) (hW : 2 * g.monitorRoom + (rest.map fun v => v.category).sum ≤ W) (hdg : decode c.code g.pc = .ok (.invokespecial index, 3))
    (hpre : ∀ vm₁, s.WarmedH vm₁ → Pre ⟨T.setVm vm₁, locs, cells, slots⟩ (Value.ref b :: argsL).toArray) :
    (∃ (v : Option Value) (vm₁ : Vm) (B : Pt), s.WarmedH vm₁ ∧ Stand p l e R s m args below meth c B.U B.locs B.cells B.slots ∧ Post ⟨T.setVm vm₁, locs, cells, slots⟩ (Value.ref b :: argsL).toArray v B ∧
      ∀ target, Steps p.tables e below (B.U.setTop { g with pc := g.pc + 3, stack := v.toList ++ rest }) target → Steps p.tables e below (T.setTop g) target) ∨
    (∃ (q : Addr) (vm₁ : Vm) (B : Pt), s.WarmedH vm₁ ∧ Stand p l e R s m args below meth c B.U B.locs B.cells B.slots ∧ PostX ⟨T.setVm vm₁, locs, cells, slots⟩ (Value.ref b :: argsL).toArray q B ∧
      Steps p.tables e below (T.setTop g) ((B.U.setTop { g with stack := rest }).pushFrame (.throwing q))) := by
  obtain ⟨mk, methM, hnamed, hmethM, hstM, habM⟩ := Cond.instanceMethod_spec hinst
  obtain ⟨methM', cM, hmethM', -, -, -, -, -, -, hsigM⟩ := Cond.code_spec hnamed hcode
  cases hmethM.symm.trans hmethM'
  obtain ⟨ps, dk, kp, hps, hdk, hkp, hsuper, -, -, hnid⟩ := Cond.superclass_spec hown hsup
  have hn : s.methodNamed? ⟨y.cls, y.name, y.desc⟩ = some mk := hnamed
  have hpm : ps = mk.cls := Option.some.inj (hps.symm.trans (findClass_of_methodNamed hnamed))
  have hsub : s.vm.isSubclass ps mk.cls = true := by rw [hpm]; simp [Vm.isSubclass, Vm.isSubclassAux]
  obtain ⟨vm₁, X₁, hstep₁⟩ := X.invokespecialUp hexec hown hlink hsame hn hmethM hstM habM hno hdk hnid hps hsuper hsub (a := b) (cell := cellB) hcell
    (fun z h => by rw [h] at hobj; cases hobj) hkB (g := g) hg (argsL := argsL) (rest := rest) (hlen _ hsigM) hstack hdg
  rcases hK m meth c ⟨T.setVm vm₁, locs, cells, slots⟩ { g with stack := rest } (.invokespecial index) mk (Value.ref b :: argsL).toArray X₁ hg hsize hdg hW (X₁.named hnamed) (hpre vm₁ X₁.warmed) with ⟨v, B, X', hpost, hsteps⟩ | ⟨q, B, X', hpost, hsteps⟩
  · exact Or.inl ⟨v, vm₁, B, X₁.warmed, X', hpost, fun target h => hstep₁ _ (by rw [doInvoke_state]; exact hsteps.trans h)⟩
  · exact Or.inr ⟨q, vm₁, B, X₁.warmed, X', hpost, hstep₁ _ (by rw [doInvoke_state]; exact hsteps)⟩
theorem vx_runSU {y : MethodName} {bytes cc : ByteArray} {maxL nL mc ms n index : Nat} {ret : Option FieldType} {ws : List Cond} {rm : Room} {Pc : Array Value → State → Prop} {Qc : Array Value → State → Outcome → State → Prop} {XC : String → State → State → Prop} {free : Addr → Prop} {Ts : List Cond} {own C : String} {cC : ClassId} {b : Addr} {As rest : List Value} {g : JFrame}
    (hat : ClassAt s C cC) (S : CallFix p m c cc nL s args Ts own) (hM : vx_Met l y ws rm Pc Qc XC mc ms free) (cw : va_CS R s args own index y bytes maxL ret ws rm mc ms n) (hp : PreV s H C b Pc As)
    (hg : g.method = m) (hn : As.length = n) (hsize : g.locals.size = nL) (hstack : g.stack = As.reverse ++ .ref b :: rest) (hW : 2 * g.monitorRoom + (rest.map fun v => v.category).sum ≤ 8) (hdg : decode cc g.pc = .ok (.invokespecial index, 3)) (hf : cells + mc ≤ R.cells ∧ slots + ms ≤ R.slots) :
    vx_Run p l e R s m args below meth c H locs cells slots mc ms g rest (Qc (Value.ref b :: As).toArray) XC free := by
  obtain ⟨⟨hrc, hrs, hfr, hlo, hws, hcw⟩, hl1, hl2, hl3, hl4, hini, hcode, hno, hlen⟩ := cw
  have hK : vx_Back l R p e below s args y 3 8 (PreOf R mc ms Pc) (PostOf Qc mc ms free) (vx_Post XC mc ms free) := vx_back (bytes := bytes) (maxL := maxL) (ret := ret) hM hp.1 hrc hrs hfr hlo hws hcw (fun a' U hW => word_at hW (Or.inl (by first | rfl | simp [Cond.onTables, Cond.keeps, Cond.steady])) hini)
  obtain ⟨hx, hb, hml, ho, -⟩ := S
  obtain ⟨-, ⟨cellB, hcB, hoB, hclB⟩, hPc⟩ := hp
  obtain ⟨hfc, kB, hkB, -⟩ := hat
  cases hfc.symm.trans hclB
  intro T hT X
  rcases vx_callSU X hx (bytes := bytes) (maxL := maxL) (ret := ret) ho hl1 hl2 hl3 hl4 hcode hno hK (by rw [hT]; exact hcB) hoB hkB hg (hsize.trans hml.symm) (argsL := As) (rest := rest) (fun sig h => hn.trans (hlen sig h)) hstack hW (by rw [hb]; exact hdg)
    (fun vm₁ hW₁ => ⟨hf.1, hf.2, hPc (T.setVm vm₁) hT hW₁⟩) with ⟨v, vm₁, ⟨U', l2, c2, s2⟩, hW₁, X', ⟨g', mk, t, L, e1, e2, hq, h1, hL, h2, h3⟩, st⟩ | ⟨q, vm₁, ⟨U', l2, c2, s2⟩, hW₁, X', ⟨g', mk, t, L, E, ce, e1, e2, hq, hce, hcv, hcl, h1, hL, h2, h3⟩, st⟩
  · dsimp only [Pt.U, Pt.locs, Pt.cells, Pt.slots] at X' e1 e2 h1 h2 h3 st
    subst h1; subst h2; subst h3
    exact Or.inl ⟨v, (T.setVm vm₁).calling g' mk (Value.ref b :: As).toArray, t, U', L, hT, X', hL, e1, e2, hq, st⟩
  · dsimp only [Pt.U, Pt.locs, Pt.cells, Pt.slots] at X' e1 e2 h1 h2 h3 st hcl
    subst h1; subst h2; subst h3
    exact Or.inr ⟨q, (T.setVm vm₁).calling g' mk (Value.ref b :: As).toArray, t, U', L, E, ce, hT, X', hL, e1, e2, hq, hce, hcv, vx_cls hW₁ hcl, st⟩
end
/-! ===== END ===== -/
/-! ===== BEGIN a private method of a nest mate that may throw (follows va_callVN, va_callSN, va_runVN, va_runSN) ===== -/
section
variable {p : Program} {l : Launch} {e : Env} {R : Room} {s : State} {m : MethodId} {args : Array Value} {below : List Frame} {meth : Method} {c : Code} {H : Heap} {locs : List Loc} {cells slots : Nat}
variable {T : State}
theorem vx_callVN (X : Stand p l e R s m args below meth c T locs cells slots) (hexec : p.tables.exec = Jvm.exec) {own C : String} {index : Nat} {host : String} {y : MethodName} {bytes : ByteArray} {maxL : Nat} {ret : Option FieldType}
    (hown : s.vm.findClass own = some m.cls) (hlink : (Cond.methodLinkNest own index y host).before args s = true) (hinst : (Cond.instanceMethod y).before args s = true) (hsel : (Cond.selects C y y).before args s = true)
    (hcode : (Cond.code y bytes maxL ret).before args s = true) (hy : y.cls ≠ "java/lang/invoke/MethodHandle" ∧ y.cls ≠ "java/lang/invoke/VarHandle")
    {W : Nat} {Pre : Pt → Array Value → Prop} {Post : Pt → Array Value → Option Value → Pt → Prop} {PostX : Pt → Array Value → Addr → Pt → Prop} (hK : vx_Back l R p e below s args y 3 W Pre Post PostX)
    {b : Addr} {cellB : Cell} (hcell : T.heap[b]? = some cellB) (hobj : cellB.vm.isStatics = false) (hcls : s.vm.findClass C = some cellB.cls)
    {g : JFrame} (hg : g.method = m) (hsize : g.locals.size = c.maxLocals) {argsL rest : List Value} (hlen : ∀ sig, parseMethodDescriptor y.desc = some sig → argsL.length = sig.parameters.length)
    (hstack : g.stack = argsL.reverse ++ .ref b :: rest) (hW : 2 * g.monitorRoom + (rest.map fun v => v.category).sum ≤ W) (hdg : decode c.code g.pc = .ok (.invokevirtual index, 3))
    (hpre : ∀ vm₁, s.WarmedH vm₁ → Pre ⟨T.setVm vm₁, locs, cells, slots⟩ (Value.ref b :: argsL).toArray) :
    (∃ (v : Option Value) (vm₁ : Vm) (B : Pt), s.WarmedH vm₁ ∧ Stand p l e R s m args below meth c B.U B.locs B.cells B.slots ∧ Post ⟨T.setVm vm₁, locs, cells, slots⟩ (Value.ref b :: argsL).toArray v B ∧
      ∀ target, Steps p.tables e below (B.U.setTop { g with pc := g.pc + 3, stack := v.toList ++ rest }) target → Steps p.tables e below (T.setTop g) target) ∨
    (∃ (q : Addr) (vm₁ : Vm) (B : Pt), s.WarmedH vm₁ ∧ Stand p l e R s m args below meth c B.U B.locs B.cells B.slots ∧ PostX ⟨T.setVm vm₁, locs, cells, slots⟩ (Value.ref b :: argsL).toArray q B ∧
      Steps p.tables e below (T.setTop g) ((B.U.setTop { g with stack := rest }).pushFrame (.throwing q))) := by
  obtain ⟨mk, methM, hnamed, hmethM, hstM, habM⟩ := Cond.instanceMethod_spec hinst
  obtain ⟨methM', cM, hmethM', -, -, -, -, -, -, hsigM⟩ := Cond.code_spec hnamed hcode
  cases hmethM.symm.trans hmethM'
  obtain ⟨c2, r2, m2, q1, q2, q3, q4, kP, hkP, hkPi⟩ := Cond.selects_spec hsel
  cases hcls.symm.trans q1
  cases (State.methodFound?_of_named hnamed hy).symm.trans q2
  cases hnamed.symm.trans q3
  have hselP : selectMethod e.platform s.vm cellB.cls mk = .method mk := by rw [Launch.admits_selectMethod X.admits]; exact q4
  obtain ⟨vm₁, X₁, hstep₁⟩ := X.invokevirtualNest hexec hown hlink hnamed hmethM hstM hkP hkPi hy (a := b) (cell := cellB) hcell
    (fun z h => by rw [h] at hobj; cases hobj) hselP hmethM habM hkP hkPi (g := g) hg (argsL := argsL) (rest := rest) (hlen _ hsigM) hstack hdg
  rcases hK m meth c ⟨T.setVm vm₁, locs, cells, slots⟩ { g with stack := rest } (.invokevirtual index) mk (Value.ref b :: argsL).toArray X₁ hg hsize hdg hW (X₁.named hnamed) (hpre vm₁ X₁.warmed) with ⟨v, B, X', hpost, hsteps⟩ | ⟨q, B, X', hpost, hsteps⟩
  · exact Or.inl ⟨v, vm₁, B, X₁.warmed, X', hpost, fun target h => hstep₁ _ fun acts => by rw [doInvoke_state]; exact hsteps.trans h⟩
  · exact Or.inr ⟨q, vm₁, B, X₁.warmed, X', hpost, hstep₁ _ fun acts => by rw [doInvoke_state]; exact hsteps⟩
theorem vx_callSN (X : Stand p l e R s m args below meth c T locs cells slots) (hexec : p.tables.exec = Jvm.exec) {own : String} {index : Nat} {host : String} {y : MethodName} {bytes : ByteArray} {maxL : Nat} {ret : Option FieldType}
    (hown : s.vm.findClass own = some m.cls) (hlink : (Cond.methodLinkNest own index y host).before args s = true) (hstat : (Cond.static y).before args s = true) (hinit : (Cond.initialized y.cls).before args s = true)
    (hcode : (Cond.code y bytes maxL ret).before args s = true) (hy : y.cls ≠ "java/lang/invoke/MethodHandle" ∧ y.cls ≠ "java/lang/invoke/VarHandle")
    {W : Nat} {Pre : Pt → Array Value → Prop} {Post : Pt → Array Value → Option Value → Pt → Prop} {PostX : Pt → Array Value → Addr → Pt → Prop} (hK : vx_Back l R p e below s args y 3 W Pre Post PostX)
    {g : JFrame} (hg : g.method = m) (hsize : g.locals.size = c.maxLocals) {argsL rest : List Value} (hlen : ∀ sig, parseMethodDescriptor y.desc = some sig → argsL.length = sig.parameters.length)
    (hstack : g.stack = argsL.reverse ++ rest) (hW : 2 * g.monitorRoom + (rest.map fun v => v.category).sum ≤ W) (hdg : decode c.code g.pc = .ok (.invokestatic index, 3))
    (hpre : ∀ vm₁, s.WarmedH vm₁ → Pre ⟨T.setVm vm₁, locs, cells, slots⟩ argsL.toArray) :
    (∃ (v : Option Value) (vm₁ : Vm) (B : Pt), s.WarmedH vm₁ ∧ Stand p l e R s m args below meth c B.U B.locs B.cells B.slots ∧ Post ⟨T.setVm vm₁, locs, cells, slots⟩ argsL.toArray v B ∧
      ∀ target, Steps p.tables e below (B.U.setTop { g with pc := g.pc + 3, stack := v.toList ++ rest }) target → Steps p.tables e below (T.setTop g) target) ∨
    (∃ (q : Addr) (vm₁ : Vm) (B : Pt), s.WarmedH vm₁ ∧ Stand p l e R s m args below meth c B.U B.locs B.cells B.slots ∧ PostX ⟨T.setVm vm₁, locs, cells, slots⟩ argsL.toArray q B ∧
      Steps p.tables e below (T.setTop g) ((B.U.setTop { g with stack := rest }).pushFrame (.throwing q))) := by
  obtain ⟨mk, hnamed⟩ := Cond.code_named hcode
  obtain ⟨methM, cM, hmethM, -, -, -, -, -, -, hsigM⟩ := Cond.code_spec hnamed hcode
  have hstatic : methM.isStatic = true := Cond.static_spec hnamed hmethM hstat
  obtain ⟨kP, hkP, -⟩ := className_of_methodNamed hnamed
  have hinitP : kP.init = .initialized := Cond.initialized_spec (findClass_of_methodNamed hnamed) hkP hinit
  obtain ⟨vm₁, X₁, hstep₁⟩ := X.invokestaticNest hexec hown hlink hnamed hmethM hstatic hkP hinitP hy (g := g) hg (argsL := argsL) (rest := rest) (hlen _ hsigM) hstack hdg
  rcases hK m meth c ⟨T.setVm vm₁, locs, cells, slots⟩ { g with stack := rest } (.invokestatic index) mk argsL.toArray X₁ hg hsize hdg hW (X₁.named hnamed) (hpre vm₁ X₁.warmed) with ⟨v, B, X', hpost, hsteps⟩ | ⟨q, B, X', hpost, hsteps⟩
  · exact Or.inl ⟨v, vm₁, B, X₁.warmed, X', hpost, fun target h => hstep₁ _ fun acts => by rw [doInvoke_state]; exact hsteps.trans h⟩
  · exact Or.inr ⟨q, vm₁, B, X₁.warmed, X', hpost, hstep₁ _ fun acts => by rw [doInvoke_state]; exact hsteps⟩
theorem vx_runVN {y : MethodName} {bytes cc : ByteArray} {maxL nL mc ms n index : Nat} {ret : Option FieldType} {ws : List Cond} {rm : Room} {Pc : Array Value → State → Prop} {Qc : Array Value → State → Outcome → State → Prop} {XC : String → State → State → Prop} {free : Addr → Prop} {Ts : List Cond} {own C host : String} {b : Addr} {As rest : List Value} {g : JFrame}
    (S : CallFix p m c cc nL s args Ts own) (hM : vx_Met l y ws rm Pc Qc XC mc ms free) (cw : va_CN R s args own index y host bytes maxL ret ws rm mc ms n ∧ (Cond.instanceMethod y).before args s = true ∧ (Cond.selects C y y).before args s = true) (hp : PreV s H C b Pc As)
    (hg : g.method = m) (hn : As.length = n) (hsize : g.locals.size = nL) (hstack : g.stack = As.reverse ++ .ref b :: rest) (hW : 2 * g.monitorRoom + (rest.map fun v => v.category).sum ≤ 8) (hdg : decode cc g.pc = .ok (.invokevirtual index, 3)) (hf : cells + mc ≤ R.cells ∧ slots + ms ≤ R.slots) :
    vx_Run p l e R s m args below meth c H locs cells slots mc ms g rest (Qc (Value.ref b :: As).toArray) XC free := by
  obtain ⟨⟨⟨hrc, hrs, hfr, hlo, hws, hcw⟩, hcode, hini, hy, hlen, hl⟩, hx1, hx2⟩ := cw
  have hK : vx_Back l R p e below s args y 3 8 (PreOf R mc ms Pc) (PostOf Qc mc ms free) (vx_Post XC mc ms free) := vx_back (bytes := bytes) (maxL := maxL) (ret := ret) hM hp.1 hrc hrs hfr hlo hws hcw (fun a' U hW => word_at hW (Or.inl (by first | rfl | simp [Cond.onTables, Cond.keeps, Cond.steady])) hini)
  obtain ⟨hx, hb, hml, ho, -⟩ := S
  obtain ⟨-, ⟨cellB, hcB, hoB, hclB⟩, hPc⟩ := hp
  intro T hT X
  rcases vx_callVN X hx (C := C) (bytes := bytes) (maxL := maxL) (ret := ret) ho hl hx1 hx2 hcode hy hK (by rw [hT]; exact hcB) hoB hclB hg (hsize.trans hml.symm) (argsL := As) (rest := rest) (fun sig h => hn.trans (hlen sig h)) hstack hW (by rw [hb]; exact hdg)
    (fun vm₁ hW₁ => ⟨hf.1, hf.2, hPc (T.setVm vm₁) hT hW₁⟩) with ⟨v, vm₁, ⟨U', l2, c2, s2⟩, hW₁, X', ⟨g', mk, t, L, e1, e2, hq, h1, hL, h2, h3⟩, st⟩ | ⟨q, vm₁, ⟨U', l2, c2, s2⟩, hW₁, X', ⟨g', mk, t, L, E, ce, e1, e2, hq, hce, hcv, hcl, h1, hL, h2, h3⟩, st⟩
  · dsimp only [Pt.U, Pt.locs, Pt.cells, Pt.slots] at X' e1 e2 h1 h2 h3 st
    subst h1; subst h2; subst h3
    exact Or.inl ⟨v, (T.setVm vm₁).calling g' mk (Value.ref b :: As).toArray, t, U', L, hT, X', hL, e1, e2, hq, st⟩
  · dsimp only [Pt.U, Pt.locs, Pt.cells, Pt.slots] at X' e1 e2 h1 h2 h3 st hcl
    subst h1; subst h2; subst h3
    exact Or.inr ⟨q, (T.setVm vm₁).calling g' mk (Value.ref b :: As).toArray, t, U', L, E, ce, hT, X', hL, e1, e2, hq, hce, hcv, vx_cls hW₁ hcl, st⟩
theorem vx_runSN {y : MethodName} {bytes cc : ByteArray} {maxL nL mc ms n index : Nat} {ret : Option FieldType} {ws : List Cond} {rm : Room} {Pc : Array Value → State → Prop} {Qc : Array Value → State → Outcome → State → Prop} {XC : String → State → State → Prop} {free : Addr → Prop} {Ts : List Cond} {own host : String} {As rest : List Value} {g : JFrame}
    (S : CallFix p m c cc nL s args Ts own) (hM : vx_Met l y ws rm Pc Qc XC mc ms free) (cw : va_CN R s args own index y host bytes maxL ret ws rm mc ms n ∧ (Cond.static y).before args s = true ∧ True) (hp : PreS s H Pc As)
    (hg : g.method = m) (hn : As.length = n) (hsize : g.locals.size = nL) (hstack : g.stack = As.reverse ++ rest) (hW : 2 * g.monitorRoom + (rest.map fun v => v.category).sum ≤ 8) (hdg : decode cc g.pc = .ok (.invokestatic index, 3)) (hf : cells + mc ≤ R.cells ∧ slots + ms ≤ R.slots) :
    vx_Run p l e R s m args below meth c H locs cells slots mc ms g rest (Qc As.toArray) XC free := by
  obtain ⟨⟨⟨hrc, hrs, hfr, hlo, hws, hcw⟩, hcode, hini, hy, hlen, hl⟩, hx1, hx2⟩ := cw
  have hK : vx_Back l R p e below s args y 3 8 (PreOf R mc ms Pc) (PostOf Qc mc ms free) (vx_Post XC mc ms free) := vx_back (bytes := bytes) (maxL := maxL) (ret := ret) hM hp.1 hrc hrs hfr hlo hws hcw (fun a' U hW => word_at hW (Or.inl (by first | rfl | simp [Cond.onTables, Cond.keeps, Cond.steady])) hini)
  obtain ⟨hx, hb, hml, ho, -⟩ := S
  have hPc := hp.2
  intro T hT X
  rcases vx_callSN X hx (bytes := bytes) (maxL := maxL) (ret := ret) ho hl hx1 hini hcode hy hK hg (hsize.trans hml.symm) (argsL := As) (rest := rest) (fun sig h => hn.trans (hlen sig h)) hstack hW (by rw [hb]; exact hdg)
    (fun vm₁ hW₁ => ⟨hf.1, hf.2, hPc (T.setVm vm₁) hT hW₁⟩) with ⟨v, vm₁, ⟨U', l2, c2, s2⟩, hW₁, X', ⟨g', mk, t, L, e1, e2, hq, h1, hL, h2, h3⟩, st⟩ | ⟨q, vm₁, ⟨U', l2, c2, s2⟩, hW₁, X', ⟨g', mk, t, L, E, ce, e1, e2, hq, hce, hcv, hcl, h1, hL, h2, h3⟩, st⟩
  · dsimp only [Pt.U, Pt.locs, Pt.cells, Pt.slots] at X' e1 e2 h1 h2 h3 st
    subst h1; subst h2; subst h3
    exact Or.inl ⟨v, (T.setVm vm₁).calling g' mk As.toArray, t, U', L, hT, X', hL, e1, e2, hq, st⟩
  · dsimp only [Pt.U, Pt.locs, Pt.cells, Pt.slots] at X' e1 e2 h1 h2 h3 st hcl
    subst h1; subst h2; subst h3
    exact Or.inr ⟨q, (T.setVm vm₁).calling g' mk As.toArray, t, U', L, E, ce, hT, X', hL, e1, e2, hq, hce, hcv, vx_cls hW₁ hcl, st⟩
end
/-! ===== END ===== -/
/-! ===== BEGIN calls by an interface of methods that may throw (vx_callIF, vx_runF follow va_callIF, va_runF of this kit) ===== -/
section
variable {p : Program} {l : Launch} {e : Env} {R : Room} {s : State} {m : MethodId} {args : Array Value} {below : List Frame} {meth : Method} {c : Code} {H : Heap} {locs : List Loc} {cells slots : Nat} {Q : State → Prop}
variable {mc ms : Nat} {free : Addr → Prop} {A0 A1 : Nat → Prop} {H0 : Heap} {a : Array Value} {pc : Nat} {ls : Array Slot} {st0 rest : List Value}
def vx_Run5 (p : Program) (l : Launch) (e : Env) (R : Room) (s : State) (m : MethodId) (args : Array Value) (below : List Frame) (meth : Method) (c : Code) (H : Heap) (locs : List Loc) (cells slots mc ms : Nat) (g : JFrame) (rest : List Value) (Qa : State → Outcome → State → Prop) (XC : String → State → State → Prop) (free : Addr → Prop) : Prop :=
  ∀ T : State, T.heap = H → Stand p l e R s m args below meth c T locs cells slots →
    (∃ (v : Option Value) (st₀ t T' : State) (L : List Loc), st₀.heap = H ∧ Stand p l e R s m args below meth c T' (locs ++ L) (cells + mc) (slots + ms) ∧ (∀ q ∈ L, free q.base) ∧ T'.heap = t.heap ∧ T'.vm = t.vm ∧ Qa st₀ (.returned v) t ∧
      Goes p e below T g T' { g with pc := g.pc + 5, stack := v.toList ++ rest }) ∨
    (∃ (q : Addr) (st₀ t T' : State) (L : List Loc) (E : String) (ce : Cell), st₀.heap = H ∧ Stand p l e R s m args below meth c T' (locs ++ L) (cells + mc) (slots + ms) ∧ (∀ z ∈ L, free z.base) ∧ T'.heap = t.heap ∧ T'.vm = t.vm ∧ XC E st₀ t ∧ t.heap[q]? = some ce ∧ ce.vm = .none ∧ s.vm.findClass E = some ce.cls ∧
      Steps p.tables e below (T.setTop g) ((T'.setTop { g with stack := rest }).pushFrame (.throwing q)))
theorem vx_callIF {T : State} (X : Stand p l e R s m args below meth c T locs cells slots) (hexec : p.tables.exec = Jvm.exec) {own C : String} {index count : Nat} {x y : MethodName} {bytes : ByteArray} {maxL : Nat} {ret : Option FieldType}
    (hown : s.vm.findClass own = some m.cls) (hlink : (Cond.methodLink own index x).before args s = true) (hdecl : (Cond.declares x).before args s = true) (hface : (Cond.interfaceMethod x.cls x.cls x.name x.desc).before args s = true)
    (hsel : (Cond.selects C x y).before args s = true) (hinst : (Cond.instanceMethod y).before args s = true) (hpub : (Cond.publicMethod y).before args s = true) (hunh : (Cond.unhidden C x.name x.desc).before args s = true)
    (hcast : (Cond.castable C x.cls).before args s = true) (hcode : (Cond.code y bytes maxL ret).before args s = true) (hx : x.cls ≠ "java/lang/invoke/MethodHandle" ∧ x.cls ≠ "java/lang/invoke/VarHandle")
    {W9 : Nat} {Pre : Pt → Array Value → Prop} {Post : Pt → Array Value → Option Value → Pt → Prop} {PostX : Pt → Array Value → Addr → Pt → Prop} (hK : vx_Back l R p e below s args y 5 W9 Pre Post PostX)
    {b : Addr} {cellB : Cell} {kB : Class} (hcell : T.heap[b]? = some cellB) (hobj : cellB.vm.isStatics = false) (hcls : s.vm.findClass C = some cellB.cls) (hkB : s.vm.classes[cellB.cls]? = some kB)
    {g : JFrame} (hg : g.method = m) (hsize : g.locals.size = c.maxLocals) {argsL rest : List Value} (hlen : ∀ sig, parseMethodDescriptor x.desc = some sig → argsL.length = sig.parameters.length)
    (hstack : g.stack = argsL.reverse ++ .ref b :: rest) (hW : 2 * g.monitorRoom + (rest.map fun v => v.category).sum ≤ W9) (hdg : decode c.code g.pc = .ok (.invokeinterface index count, 5))
    (hpre : ∀ vm₁, s.WarmedH vm₁ → Pre ⟨T.setVm vm₁, locs, cells, slots⟩ (Value.ref b :: argsL).toArray) :
    (∃ (v : Option Value) (vm₁ : Vm) (B : Pt), s.WarmedH vm₁ ∧ Stand p l e R s m args below meth c B.U B.locs B.cells B.slots ∧ Post ⟨T.setVm vm₁, locs, cells, slots⟩ (Value.ref b :: argsL).toArray v B ∧
      ∀ target, Steps p.tables e below (B.U.setTop { g with pc := g.pc + 5, stack := v.toList ++ rest }) target → Steps p.tables e below (T.setTop g) target) ∨
    (∃ (q : Addr) (vm₁ : Vm) (B : Pt), s.WarmedH vm₁ ∧ Stand p l e R s m args below meth c B.U B.locs B.cells B.slots ∧ PostX ⟨T.setVm vm₁, locs, cells, slots⟩ (Value.ref b :: argsL).toArray q B ∧
      Steps p.tables e below (T.setTop g) ((B.U.setTop { g with stack := rest }).pushFrame (.throwing q))) := by
  obtain ⟨r0, r, hn, hrm, hstR, hsigR⟩ := Cond.declares_spec hdecl
  obtain ⟨cL, kL, r1, hcL, hkL, hiL, hfoundL, hn1⟩ := Cond.interfaceMethod_spec hface
  cases hn.symm.trans hn1
  have hr0cls : r0.cls = cL := Option.some.inj ((findClass_of_methodNamed hn).symm.trans hcL)
  obtain ⟨hnameR, hdescR⟩ := name_of_methodNamed hn hrm
  obtain ⟨mk, methM, hnamed, hmethM, -, habM⟩ := Cond.instanceMethod_spec hinst
  obtain ⟨c2, r2, m2, q1, q2, q3, q4, -⟩ := Cond.selects_spec hsel
  cases hcls.symm.trans q1
  cases hfoundL.symm.trans q2
  cases hnamed.symm.trans q3
  have hselP : selectMethod e.platform s.vm cellB.cls r0 = .method mk := by rw [Launch.admits_selectMethod X.admits]; exact q4
  have hpubM : hasFlag methM.accessFlags Acc.public_ = true := Cond.publicMethod_spec hnamed hmethM hpub
  have hway : ((cellB.cls :: s.vm.superclasses cellB.cls).any fun k => (declaredIn s.vm r.name r.desc k).any fun (_, z) => z.isPrivate || z.isStatic) = false := by
    rw [hnameR, hdescR]; exact Cond.unhidden_spec hcls hunh
  obtain ⟨c3, t3, w1, w2, w3⟩ := Cond.castable_spec hcast
  cases hcls.symm.trans w1
  cases hcL.symm.trans w2
  obtain ⟨vm₁, X₁, hstep₁⟩ := X.invokeinterface hexec hown hlink hn hrm hstR (by rw [hr0cls]; exact hkL) hiL hx (a := b) (cell := cellB) (kcell := kB) hcell
    (fun z h => by rw [h] at hobj; cases hobj) hkB (by rw [hr0cls]; exact w3) hselP hmethM hway hpubM habM (g := g) hg (argsL := argsL) (rest := rest) (hlen _ hsigR) hstack hdg
  rcases hK m meth c ⟨T.setVm vm₁, locs, cells, slots⟩ { g with stack := rest } (.invokeinterface index count) mk (Value.ref b :: argsL).toArray X₁ hg hsize hdg hW (X₁.named hnamed) (hpre vm₁ X₁.warmed) with ⟨v, B, X', hpost, hsteps⟩ | ⟨q, B, X', hpost, hsteps⟩
  · exact Or.inl ⟨v, vm₁, B, X₁.warmed, X', hpost, fun target h => hstep₁ _ fun acts => by rw [doInvoke_state]; exact hsteps.trans h⟩
  · exact Or.inr ⟨q, vm₁, B, X₁.warmed, X', hpost, hstep₁ _ fun acts => by rw [doInvoke_state]; exact hsteps⟩
theorem vx_runF {x y : MethodName} {bytes cc : ByteArray} {maxL nL mc ms n index count : Nat} {ret : Option FieldType} {ws : List Cond} {rm : Room} {Pc : Array Value → State → Prop} {Qc : Array Value → State → Outcome → State → Prop} {XC : String → State → State → Prop} {free : Addr → Prop} {Ts : List Cond} {own C : String} {cC : ClassId} {b : Addr} {As rest : List Value} {g : JFrame}
    (hat : ClassAt s C cC) (S : CallFix p m c cc nL s args Ts own) (hM : vx_Met l y ws rm Pc Qc XC mc ms free) (cw : va_CI R s args own C index x y bytes maxL ret ws rm mc ms n) (hp : PreV s H C b Pc As)
    (hg : g.method = m) (hn : As.length = n) (hsize : g.locals.size = nL) (hstack : g.stack = As.reverse ++ .ref b :: rest) (hW : 2 * g.monitorRoom + (rest.map fun v => v.category).sum ≤ 8) (hdg : decode cc g.pc = .ok (.invokeinterface index count, 5)) (hf : cells + mc ≤ R.cells ∧ slots + ms ≤ R.slots) :
    vx_Run5 p l e R s m args below meth c H locs cells slots mc ms g rest (Qc (Value.ref b :: As).toArray) XC free := by
  obtain ⟨hrc, hrs, hfr, hlo, hws, hcw⟩ := cw.back
  have hini := cw.init
  have hK : vx_Back l R p e below s args y 5 8 (PreOf R mc ms Pc) (PostOf Qc mc ms free) (vx_Post XC mc ms free) := vx_back (bytes := bytes) (maxL := maxL) (ret := ret) hM hp.1 hrc hrs hfr hlo hws hcw (fun a' U hW => word_at hW (Or.inl (by first | rfl | simp [Cond.onTables, Cond.keeps, Cond.steady])) hini)
  obtain ⟨hx, hb, hml, ho, -⟩ := S
  obtain ⟨-, ⟨cellB, hcB, hoB, hclB⟩, hPc⟩ := hp
  obtain ⟨hfc, kB, hkB, -⟩ := hat
  cases hfc.symm.trans hclB
  intro T hT X
  rcases vx_callIF X hx (C := C) (bytes := bytes) (maxL := maxL) (ret := ret) ho cw.link cw.decl cw.face cw.sel cw.inst cw.pub cw.unh cw.cast cw.code cw.notMH hK (by rw [hT]; exact hcB) hoB hclB hkB hg (hsize.trans hml.symm) (argsL := As) (rest := rest) (fun sig h => hn.trans (cw.len sig h)) hstack hW (by rw [hb]; exact hdg)
    (fun vm₁ hW₁ => ⟨hf.1, hf.2, hPc (T.setVm vm₁) hT hW₁⟩) with ⟨v, vm₁, ⟨U', l2, c2, s2⟩, hW₁, X', ⟨g', mk, t, L, e1, e2, hq, h1, hL, h2, h3⟩, st⟩ | ⟨q, vm₁, ⟨U', l2, c2, s2⟩, hW₁, X', ⟨g', mk, t, L, E, ce, e1, e2, hq, hce, hcv, hcl, h1, hL, h2, h3⟩, st⟩
  · dsimp only [Pt.U, Pt.locs, Pt.cells, Pt.slots] at X' e1 e2 h1 h2 h3 st
    subst h1; subst h2; subst h3
    exact Or.inl ⟨v, (T.setVm vm₁).calling g' mk (Value.ref b :: As).toArray, t, U', L, hT, X', hL, e1, e2, hq, st⟩
  · dsimp only [Pt.U, Pt.locs, Pt.cells, Pt.slots] at X' e1 e2 h1 h2 h3 st hcl
    subst h1; subst h2; subst h3
    exact Or.inr ⟨q, (T.setVm vm₁).calling g' mk (Value.ref b :: As).toArray, t, U', L, E, ce, hT, X', hL, e1, e2, hq, hce, hcv, vx_cls hW₁ hcl, st⟩
theorem vx_callFv {S SX : Type} {post : S → Prop} {px : SX → Prop} {B : S → State → Prop} {BX : String → SX → State → Prop} {AX : Nat → Prop} (hr : vx_Run5 p l e R s m args below meth c H locs cells slots mc ms (F0 m pc ls st0) rest (va_Qv post B A1 a) (vx_X px BX AX) free) (hS : va_S A0 H0 H locs) (hA : ∀ q, q < H.size → A1 q → A0 q) (hf : ∀ q, free q → A0 q) (hAX : ∀ q, q < H.size → AX q → A0 q)
    (kx : ∀ (E : String) (ce : Cell) (q9 : Addr) (u : SX) (t : State) (H1 : Heap) (locs1 : List Loc), t.heap = H1 → s.vm.Alike t.vm → px u → BX E u t → H.size ≤ H1.size → (∀ q : Nat, q < H.size → ¬ AX q → H1[q]? = H[q]?) → va_S A0 H0 H1 locs1 → H1[q9]? = some ce → ce.vm = .none → s.vm.findClass E = some ce.cls → vx_W p l e R s m args below meth c H1 locs1 (cells + mc) (slots + ms) Q (F0 m pc ls rest) q9)
    (kk : ∀ (u : S) (t : State) (H1 : Heap) (locs1 : List Loc), t.heap = H1 → s.vm.Alike t.vm → post u → B u t → H.size ≤ H1.size → (∀ q : Nat, q < H.size → ¬ A1 q → H1[q]? = H[q]?) → va_S A0 H0 H1 locs1 → W p l e R s m args below meth c H1 locs1 (cells + mc) (slots + ms) Q (F0 m (pc + 5) ls (rest))) : W p l e R s m args below meth c H locs cells slots Q (F0 m pc ls st0) := by
  intro T hT X
  rcases hr T hT X with ⟨v, st₀, t, T', L, h0, X', hL, e1, e2, ⟨⟨u, hv, hp, hb⟩, hF⟩, st⟩ | ⟨q, st₀, t, T', L, E, ce, h0, X', hL, e1, e2, ⟨u, hp, hb, hF⟩, hce, hcv, hcl, st⟩
  · cases hv
    obtain ⟨k1, k2, k3⟩ := vx_keep h0 e1 hS hA hf hL hF
    obtain ⟨t2, a1, b1⟩ := kk u t T'.heap (locs ++ L) e1.symm (by rw [← e2]; exact X'.warmed.alike) hp hb k1 k2 k3 T' rfl X'
    exact ⟨t2, st t2 a1, b1⟩
  · obtain ⟨k1, k2, k3⟩ := vx_keep h0 e1 hS hAX hf hL hF
    obtain ⟨t2, a1, b1⟩ := kx E ce q u t T'.heap (locs ++ L) e1.symm (by rw [← e2]; exact X'.warmed.alike) hp hb k1 k2 k3 (by rw [e1]; exact hce) hcv hcl T' rfl X'
    exact ⟨t2, st.trans a1, b1⟩
theorem vx_callFi {S SX : Type} {post : Int32 → S → Prop} {px : SX → Prop} {B : S → State → Prop} {BX : String → SX → State → Prop} {AX : Nat → Prop} (hr : vx_Run5 p l e R s m args below meth c H locs cells slots mc ms (F0 m pc ls st0) rest (va_Qi post B A1 a) (vx_X px BX AX) free) (hS : va_S A0 H0 H locs) (hA : ∀ q, q < H.size → A1 q → A0 q) (hf : ∀ q, free q → A0 q) (hAX : ∀ q, q < H.size → AX q → A0 q)
    (kx : ∀ (E : String) (ce : Cell) (q9 : Addr) (u : SX) (t : State) (H1 : Heap) (locs1 : List Loc), t.heap = H1 → s.vm.Alike t.vm → px u → BX E u t → H.size ≤ H1.size → (∀ q : Nat, q < H.size → ¬ AX q → H1[q]? = H[q]?) → va_S A0 H0 H1 locs1 → H1[q9]? = some ce → ce.vm = .none → s.vm.findClass E = some ce.cls → vx_W p l e R s m args below meth c H1 locs1 (cells + mc) (slots + ms) Q (F0 m pc ls rest) q9)
    (kk : ∀ (r : Int32) (u : S) (t : State) (H1 : Heap) (locs1 : List Loc), t.heap = H1 → s.vm.Alike t.vm → post r u → B u t → H.size ≤ H1.size → (∀ q : Nat, q < H.size → ¬ A1 q → H1[q]? = H[q]?) → va_S A0 H0 H1 locs1 → W p l e R s m args below meth c H1 locs1 (cells + mc) (slots + ms) Q (F0 m (pc + 5) ls (.int r :: rest))) : W p l e R s m args below meth c H locs cells slots Q (F0 m pc ls st0) := by
  intro T hT X
  rcases hr T hT X with ⟨v, st₀, t, T', L, h0, X', hL, e1, e2, ⟨⟨r, u, hv, hp, hb⟩, hF⟩, st⟩ | ⟨q, st₀, t, T', L, E, ce, h0, X', hL, e1, e2, ⟨u, hp, hb, hF⟩, hce, hcv, hcl, st⟩
  · cases hv
    obtain ⟨k1, k2, k3⟩ := vx_keep h0 e1 hS hA hf hL hF
    obtain ⟨t2, a1, b1⟩ := kk r u t T'.heap (locs ++ L) e1.symm (by rw [← e2]; exact X'.warmed.alike) hp hb k1 k2 k3 T' rfl X'
    exact ⟨t2, st t2 a1, b1⟩
  · obtain ⟨k1, k2, k3⟩ := vx_keep h0 e1 hS hAX hf hL hF
    obtain ⟨t2, a1, b1⟩ := kx E ce q u t T'.heap (locs ++ L) e1.symm (by rw [← e2]; exact X'.warmed.alike) hp hb k1 k2 k3 (by rw [e1]; exact hce) hcv hcl T' rfl X'
    exact ⟨t2, st.trans a1, b1⟩
theorem vx_callFl {S SX : Type} {post : Int64 → S → Prop} {px : SX → Prop} {B : S → State → Prop} {BX : String → SX → State → Prop} {AX : Nat → Prop} (hr : vx_Run5 p l e R s m args below meth c H locs cells slots mc ms (F0 m pc ls st0) rest (va_Ql post B A1 a) (vx_X px BX AX) free) (hS : va_S A0 H0 H locs) (hA : ∀ q, q < H.size → A1 q → A0 q) (hf : ∀ q, free q → A0 q) (hAX : ∀ q, q < H.size → AX q → A0 q)
    (kx : ∀ (E : String) (ce : Cell) (q9 : Addr) (u : SX) (t : State) (H1 : Heap) (locs1 : List Loc), t.heap = H1 → s.vm.Alike t.vm → px u → BX E u t → H.size ≤ H1.size → (∀ q : Nat, q < H.size → ¬ AX q → H1[q]? = H[q]?) → va_S A0 H0 H1 locs1 → H1[q9]? = some ce → ce.vm = .none → s.vm.findClass E = some ce.cls → vx_W p l e R s m args below meth c H1 locs1 (cells + mc) (slots + ms) Q (F0 m pc ls rest) q9)
    (kk : ∀ (r : Int64) (u : S) (t : State) (H1 : Heap) (locs1 : List Loc), t.heap = H1 → s.vm.Alike t.vm → post r u → B u t → H.size ≤ H1.size → (∀ q : Nat, q < H.size → ¬ A1 q → H1[q]? = H[q]?) → va_S A0 H0 H1 locs1 → W p l e R s m args below meth c H1 locs1 (cells + mc) (slots + ms) Q (F0 m (pc + 5) ls (.long r :: rest))) : W p l e R s m args below meth c H locs cells slots Q (F0 m pc ls st0) := by
  intro T hT X
  rcases hr T hT X with ⟨v, st₀, t, T', L, h0, X', hL, e1, e2, ⟨⟨r, u, hv, hp, hb⟩, hF⟩, st⟩ | ⟨q, st₀, t, T', L, E, ce, h0, X', hL, e1, e2, ⟨u, hp, hb, hF⟩, hce, hcv, hcl, st⟩
  · cases hv
    obtain ⟨k1, k2, k3⟩ := vx_keep h0 e1 hS hA hf hL hF
    obtain ⟨t2, a1, b1⟩ := kk r u t T'.heap (locs ++ L) e1.symm (by rw [← e2]; exact X'.warmed.alike) hp hb k1 k2 k3 T' rfl X'
    exact ⟨t2, st t2 a1, b1⟩
  · obtain ⟨k1, k2, k3⟩ := vx_keep h0 e1 hS hAX hf hL hF
    obtain ⟨t2, a1, b1⟩ := kx E ce q u t T'.heap (locs ++ L) e1.symm (by rw [← e2]; exact X'.warmed.alike) hp hb k1 k2 k3 (by rw [e1]; exact hce) hcv hcl T' rfl X'
    exact ⟨t2, st.trans a1, b1⟩
theorem vx_callFf {S SX : Type} {post : UInt32 → S → Prop} {px : SX → Prop} {B : S → State → Prop} {BX : String → SX → State → Prop} {AX : Nat → Prop} (hr : vx_Run5 p l e R s m args below meth c H locs cells slots mc ms (F0 m pc ls st0) rest (va_Qf post B A1 a) (vx_X px BX AX) free) (hS : va_S A0 H0 H locs) (hA : ∀ q, q < H.size → A1 q → A0 q) (hf : ∀ q, free q → A0 q) (hAX : ∀ q, q < H.size → AX q → A0 q)
    (kx : ∀ (E : String) (ce : Cell) (q9 : Addr) (u : SX) (t : State) (H1 : Heap) (locs1 : List Loc), t.heap = H1 → s.vm.Alike t.vm → px u → BX E u t → H.size ≤ H1.size → (∀ q : Nat, q < H.size → ¬ AX q → H1[q]? = H[q]?) → va_S A0 H0 H1 locs1 → H1[q9]? = some ce → ce.vm = .none → s.vm.findClass E = some ce.cls → vx_W p l e R s m args below meth c H1 locs1 (cells + mc) (slots + ms) Q (F0 m pc ls rest) q9)
    (kk : ∀ (r : UInt32) (u : S) (t : State) (H1 : Heap) (locs1 : List Loc), t.heap = H1 → s.vm.Alike t.vm → post r u → B u t → H.size ≤ H1.size → (∀ q : Nat, q < H.size → ¬ A1 q → H1[q]? = H[q]?) → va_S A0 H0 H1 locs1 → W p l e R s m args below meth c H1 locs1 (cells + mc) (slots + ms) Q (F0 m (pc + 5) ls (.float r :: rest))) : W p l e R s m args below meth c H locs cells slots Q (F0 m pc ls st0) := by
  intro T hT X
  rcases hr T hT X with ⟨v, st₀, t, T', L, h0, X', hL, e1, e2, ⟨⟨r, u, hv, hp, hb⟩, hF⟩, st⟩ | ⟨q, st₀, t, T', L, E, ce, h0, X', hL, e1, e2, ⟨u, hp, hb, hF⟩, hce, hcv, hcl, st⟩
  · cases hv
    obtain ⟨k1, k2, k3⟩ := vx_keep h0 e1 hS hA hf hL hF
    obtain ⟨t2, a1, b1⟩ := kk r u t T'.heap (locs ++ L) e1.symm (by rw [← e2]; exact X'.warmed.alike) hp hb k1 k2 k3 T' rfl X'
    exact ⟨t2, st t2 a1, b1⟩
  · obtain ⟨k1, k2, k3⟩ := vx_keep h0 e1 hS hAX hf hL hF
    obtain ⟨t2, a1, b1⟩ := kx E ce q u t T'.heap (locs ++ L) e1.symm (by rw [← e2]; exact X'.warmed.alike) hp hb k1 k2 k3 (by rw [e1]; exact hce) hcv hcl T' rfl X'
    exact ⟨t2, st.trans a1, b1⟩
theorem vx_callFd {S SX : Type} {post : UInt64 → S → Prop} {px : SX → Prop} {B : S → State → Prop} {BX : String → SX → State → Prop} {AX : Nat → Prop} (hr : vx_Run5 p l e R s m args below meth c H locs cells slots mc ms (F0 m pc ls st0) rest (va_Qd post B A1 a) (vx_X px BX AX) free) (hS : va_S A0 H0 H locs) (hA : ∀ q, q < H.size → A1 q → A0 q) (hf : ∀ q, free q → A0 q) (hAX : ∀ q, q < H.size → AX q → A0 q)
    (kx : ∀ (E : String) (ce : Cell) (q9 : Addr) (u : SX) (t : State) (H1 : Heap) (locs1 : List Loc), t.heap = H1 → s.vm.Alike t.vm → px u → BX E u t → H.size ≤ H1.size → (∀ q : Nat, q < H.size → ¬ AX q → H1[q]? = H[q]?) → va_S A0 H0 H1 locs1 → H1[q9]? = some ce → ce.vm = .none → s.vm.findClass E = some ce.cls → vx_W p l e R s m args below meth c H1 locs1 (cells + mc) (slots + ms) Q (F0 m pc ls rest) q9)
    (kk : ∀ (r : UInt64) (u : S) (t : State) (H1 : Heap) (locs1 : List Loc), t.heap = H1 → s.vm.Alike t.vm → post r u → B u t → H.size ≤ H1.size → (∀ q : Nat, q < H.size → ¬ A1 q → H1[q]? = H[q]?) → va_S A0 H0 H1 locs1 → W p l e R s m args below meth c H1 locs1 (cells + mc) (slots + ms) Q (F0 m (pc + 5) ls (.double r :: rest))) : W p l e R s m args below meth c H locs cells slots Q (F0 m pc ls st0) := by
  intro T hT X
  rcases hr T hT X with ⟨v, st₀, t, T', L, h0, X', hL, e1, e2, ⟨⟨r, u, hv, hp, hb⟩, hF⟩, st⟩ | ⟨q, st₀, t, T', L, E, ce, h0, X', hL, e1, e2, ⟨u, hp, hb, hF⟩, hce, hcv, hcl, st⟩
  · cases hv
    obtain ⟨k1, k2, k3⟩ := vx_keep h0 e1 hS hA hf hL hF
    obtain ⟨t2, a1, b1⟩ := kk r u t T'.heap (locs ++ L) e1.symm (by rw [← e2]; exact X'.warmed.alike) hp hb k1 k2 k3 T' rfl X'
    exact ⟨t2, st t2 a1, b1⟩
  · obtain ⟨k1, k2, k3⟩ := vx_keep h0 e1 hS hAX hf hL hF
    obtain ⟨t2, a1, b1⟩ := kx E ce q u t T'.heap (locs ++ L) e1.symm (by rw [← e2]; exact X'.warmed.alike) hp hb k1 k2 k3 (by rw [e1]; exact hce) hcv hcl T' rfl X'
    exact ⟨t2, st.trans a1, b1⟩
end
/-! ===== END ===== -/
/-! ===== BEGIN by an interface, a method with a table of its own that may throw (follows va_callIFW, va_runFW) ===== -/
section
variable {p : Program} {l : Launch} {e : Env} {R : Room} {s : State} {m : MethodId} {args : Array Value} {below : List Frame} {meth : Method} {c : Code} {H : Heap} {locs : List Loc} {cells slots : Nat}
theorem vx_callIFW {T : State} (X : Stand p l e R s m args below meth c T locs cells slots) (hexec : p.tables.exec = Jvm.exec) {own C : String} {index count : Nat} {x y : MethodName} {bytes : ByteArray} {maxL : Nat} {ret : Option FieldType} {hh : List (Nat × Nat × Nat × Nat)}
    (hown : s.vm.findClass own = some m.cls) (hlink : (Cond.methodLink own index x).before args s = true) (hdecl : (Cond.declares x).before args s = true) (hface : (Cond.interfaceMethod x.cls x.cls x.name x.desc).before args s = true)
    (hsel : (Cond.selects C x y).before args s = true) (hinst : (Cond.instanceMethod y).before args s = true) (hpub : (Cond.publicMethod y).before args s = true) (hunh : (Cond.unhidden C x.name x.desc).before args s = true)
    (hcast : (Cond.castable C x.cls).before args s = true) (hcode : (Cond.codeWith y bytes maxL ret hh).before args s = true) (hx : x.cls ≠ "java/lang/invoke/MethodHandle" ∧ x.cls ≠ "java/lang/invoke/VarHandle")
    {W : Nat} {Pre : Pt → Array Value → Prop} {Post : Pt → Array Value → Option Value → Pt → Prop} {PostX : Pt → Array Value → Addr → Pt → Prop} (hK : vx_Back l R p e below s args y 5 W Pre Post PostX)
    {b : Addr} {cellB : Cell} {kB : Class} (hcell : T.heap[b]? = some cellB) (hobj : cellB.vm.isStatics = false) (hcls : s.vm.findClass C = some cellB.cls) (hkB : s.vm.classes[cellB.cls]? = some kB)
    {g : JFrame} (hg : g.method = m) (hsize : g.locals.size = c.maxLocals) {argsL rest : List Value} (hlen : ∀ sig, parseMethodDescriptor x.desc = some sig → argsL.length = sig.parameters.length)
    (hstack : g.stack = argsL.reverse ++ .ref b :: rest) (hW : 2 * g.monitorRoom + (rest.map fun v => v.category).sum ≤ W) (hdg : decode c.code g.pc = .ok (.invokeinterface index count, 5))
    (hpre : ∀ vm₁, s.WarmedH vm₁ → Pre ⟨T.setVm vm₁, locs, cells, slots⟩ (Value.ref b :: argsL).toArray) :
    (∃ (v : Option Value) (vm₁ : Vm) (B : Pt), s.WarmedH vm₁ ∧ Stand p l e R s m args below meth c B.U B.locs B.cells B.slots ∧ Post ⟨T.setVm vm₁, locs, cells, slots⟩ (Value.ref b :: argsL).toArray v B ∧
      ∀ target, Steps p.tables e below (B.U.setTop { g with pc := g.pc + 5, stack := v.toList ++ rest }) target → Steps p.tables e below (T.setTop g) target) ∨
    (∃ (q : Addr) (vm₁ : Vm) (B : Pt), s.WarmedH vm₁ ∧ Stand p l e R s m args below meth c B.U B.locs B.cells B.slots ∧ PostX ⟨T.setVm vm₁, locs, cells, slots⟩ (Value.ref b :: argsL).toArray q B ∧
      Steps p.tables e below (T.setTop g) ((B.U.setTop { g with stack := rest }).pushFrame (.throwing q))) := by
  obtain ⟨r0, r, hn, hrm, hstR, hsigR⟩ := Cond.declares_spec hdecl
  obtain ⟨cL, kL, r1, hcL, hkL, hiL, hfoundL, hn1⟩ := Cond.interfaceMethod_spec hface
  cases hn.symm.trans hn1
  have hr0cls : r0.cls = cL := Option.some.inj ((findClass_of_methodNamed hn).symm.trans hcL)
  obtain ⟨hnameR, hdescR⟩ := name_of_methodNamed hn hrm
  obtain ⟨mk, methM, hnamed, hmethM, -, habM⟩ := Cond.instanceMethod_spec hinst
  obtain ⟨c2, r2, m2, q1, q2, q3, q4, -⟩ := Cond.selects_spec hsel
  cases hcls.symm.trans q1
  cases hfoundL.symm.trans q2
  cases hnamed.symm.trans q3
  have hselP : selectMethod e.platform s.vm cellB.cls r0 = .method mk := by rw [Launch.admits_selectMethod X.admits]; exact q4
  have hpubM : hasFlag methM.accessFlags Acc.public_ = true := Cond.publicMethod_spec hnamed hmethM hpub
  have hway : ((cellB.cls :: s.vm.superclasses cellB.cls).any fun k => (declaredIn s.vm r.name r.desc k).any fun (_, z) => z.isPrivate || z.isStatic) = false := by
    rw [hnameR, hdescR]; exact Cond.unhidden_spec hcls hunh
  obtain ⟨c3, t3, w1, w2, w3⟩ := Cond.castable_spec hcast
  cases hcls.symm.trans w1
  cases hcL.symm.trans w2
  obtain ⟨vm₁, X₁, hstep₁⟩ := X.invokeinterface hexec hown hlink hn hrm hstR (by rw [hr0cls]; exact hkL) hiL hx (a := b) (cell := cellB) (kcell := kB) hcell
    (fun z h => by rw [h] at hobj; cases hobj) hkB (by rw [hr0cls]; exact w3) hselP hmethM hway hpubM habM (g := g) hg (argsL := argsL) (rest := rest) (hlen _ hsigR) hstack hdg
  rcases hK m meth c ⟨T.setVm vm₁, locs, cells, slots⟩ { g with stack := rest } (.invokeinterface index count) mk (Value.ref b :: argsL).toArray X₁ hg hsize hdg hW (X₁.named hnamed) (hpre vm₁ X₁.warmed) with ⟨v, B, X', hpost, hsteps⟩ | ⟨q, B, X', hpost, hsteps⟩
  · exact Or.inl ⟨v, vm₁, B, X₁.warmed, X', hpost, fun target h => hstep₁ _ fun acts => by rw [doInvoke_state]; exact hsteps.trans h⟩
  · exact Or.inr ⟨q, vm₁, B, X₁.warmed, X', hpost, hstep₁ _ fun acts => by rw [doInvoke_state]; exact hsteps⟩
theorem vx_runFW {x y : MethodName} {bytes cc : ByteArray} {maxL nL mc ms n index count : Nat} {ret : Option FieldType} {hh : List (Nat × Nat × Nat × Nat)} {ws : List Cond} {rm : Room} {Pc : Array Value → State → Prop} {Qc : Array Value → State → Outcome → State → Prop} {XC : String → State → State → Prop} {free : Addr → Prop} {Ts : List Cond} {own C : String} {cC : ClassId} {b : Addr} {As rest : List Value} {g : JFrame}
    (hat : ClassAt s C cC) (S : CallFix p m c cc nL s args Ts own) (hM : vx_Met l y ws rm Pc Qc XC mc ms free) (cw : va_CIW R s args own C index x y bytes maxL ret hh ws rm mc ms n) (hp : PreV s H C b Pc As)
    (hg : g.method = m) (hn : As.length = n) (hsize : g.locals.size = nL) (hstack : g.stack = As.reverse ++ .ref b :: rest) (hW : 2 * g.monitorRoom + (rest.map fun v => v.category).sum ≤ 8) (hdg : decode cc g.pc = .ok (.invokeinterface index count, 5)) (hf : cells + mc ≤ R.cells ∧ slots + ms ≤ R.slots) :
    vx_Run5 p l e R s m args below meth c H locs cells slots mc ms g rest (Qc (Value.ref b :: As).toArray) XC free := by
  obtain ⟨hrc, hrs, hfr, hlo, hws, hcw⟩ := cw.back
  have hini := cw.init
  have hK : vx_Back l R p e below s args y 5 8 (PreOf R mc ms Pc) (PostOf Qc mc ms free) (vx_Post XC mc ms free) := vx_backW (hh := hh) (bytes := bytes) (maxL := maxL) (ret := ret) hM hp.1 hrc hrs hfr hlo hws hcw (fun a' U hW => word_at hW (Or.inl (by first | rfl | simp [Cond.onTables, Cond.keeps, Cond.steady])) hini)
  obtain ⟨hx, hb, hml, ho, -⟩ := S
  obtain ⟨-, ⟨cellB, hcB, hoB, hclB⟩, hPc⟩ := hp
  obtain ⟨hfc, kB, hkB, -⟩ := hat
  cases hfc.symm.trans hclB
  intro T hT X
  rcases vx_callIFW X hx (C := C) (hh := hh) (bytes := bytes) (maxL := maxL) (ret := ret) ho cw.link cw.decl cw.face cw.sel cw.inst cw.pub cw.unh cw.cast cw.code cw.notMH hK (by rw [hT]; exact hcB) hoB hclB hkB hg (hsize.trans hml.symm) (argsL := As) (rest := rest) (fun sig h => hn.trans (cw.len sig h)) hstack hW (by rw [hb]; exact hdg)
    (fun vm₁ hW₁ => ⟨hf.1, hf.2, hPc (T.setVm vm₁) hT hW₁⟩) with ⟨v, vm₁, ⟨U', l2, c2, s2⟩, hW₁, X', ⟨g', mk, t, L, e1, e2, hq, h1, hL, h2, h3⟩, st⟩ | ⟨q, vm₁, ⟨U', l2, c2, s2⟩, hW₁, X', ⟨g', mk, t, L, E, ce, e1, e2, hq, hce, hcv, hcl, h1, hL, h2, h3⟩, st⟩
  · dsimp only [Pt.U, Pt.locs, Pt.cells, Pt.slots] at X' e1 e2 h1 h2 h3 st
    subst h1; subst h2; subst h3
    exact Or.inl ⟨v, (T.setVm vm₁).calling g' mk (Value.ref b :: As).toArray, t, U', L, hT, X', hL, e1, e2, hq, st⟩
  · dsimp only [Pt.U, Pt.locs, Pt.cells, Pt.slots] at X' e1 e2 h1 h2 h3 st hcl
    subst h1; subst h2; subst h3
    exact Or.inr ⟨q, (T.setVm vm₁).calling g' mk (Value.ref b :: As).toArray, t, U', L, E, ce, hT, X', hL, e1, e2, hq, hce, hcv, vx_cls hW₁ hcl, st⟩
end
/-! ===== END ===== -/
/-! ===== BEGIN .. of methods that hand back an object of the pool ===== -/
section
variable {p : Program} {l : Launch} {e : Env} {R : Room} {s : State} {m : MethodId} {args : Array Value} {below : List Frame} {meth : Method} {c : Code} {H : Heap} {locs : List Loc} {cells slots : Nat} {Q : State → Prop}
variable {mc ms : Nat} {free : Addr → Prop} {A0 A1 : Nat → Prop} {H0 : Heap} {a : Array Value} {pc : Nat} {ls : Array Slot} {st0 rest : List Value}
theorem vx_callq {S SX : Type} {post : Option Nat → S → Prop} {px : SX → Prop} {B : S → State → Prop} {BX : String → SX → State → Prop} {AX : Nat → Prop} (hr : vx_Run p l e R s m args below meth c H locs cells slots mc ms (F0 m pc ls st0) rest (va_Qq post B A1 a) (vx_X px BX AX) free) (hS : va_S A0 H0 H locs) (hA : ∀ q, q < H.size → A1 q → A0 q) (hf : ∀ q, free q → A0 q) (hAX : ∀ q, q < H.size → AX q → A0 q)
    (kx : ∀ (E : String) (ce : Cell) (q9 : Addr) (u : SX) (t : State) (H1 : Heap) (locs1 : List Loc), t.heap = H1 → s.vm.Alike t.vm → px u → BX E u t → H.size ≤ H1.size → (∀ q : Nat, q < H.size → ¬ AX q → H1[q]? = H[q]?) → va_S A0 H0 H1 locs1 → H1[q9]? = some ce → ce.vm = .none → s.vm.findClass E = some ce.cls → vx_W p l e R s m args below meth c H1 locs1 (cells + mc) (slots + ms) Q (F0 m pc ls rest) q9)
    (kk : ∀ (r : Option Nat) (u : S) (t : State) (H1 : Heap) (locs1 : List Loc), t.heap = H1 → s.vm.Alike t.vm → post r u → B u t → H.size ≤ H1.size → (∀ q : Nat, q < H.size → ¬ A1 q → H1[q]? = H[q]?) → va_S A0 H0 H1 locs1 → W p l e R s m args below meth c H1 locs1 (cells + mc) (slots + ms) Q (F0 m (pc + 3) ls (va_rf r :: rest))) : W p l e R s m args below meth c H locs cells slots Q (F0 m pc ls st0) := by
  intro T hT X
  rcases hr T hT X with ⟨v, st₀, t, T', L, h0, X', hL, e1, e2, ⟨⟨r, u, hv, hp, hb⟩, hF⟩, st⟩ | ⟨q, st₀, t, T', L, E, ce, h0, X', hL, e1, e2, ⟨u, hp, hb, hF⟩, hce, hcv, hcl, st⟩
  · cases hv
    obtain ⟨k1, k2, k3⟩ := vx_keep h0 e1 hS hA hf hL hF
    obtain ⟨t2, a1, b1⟩ := kk r u t T'.heap (locs ++ L) e1.symm (by rw [← e2]; exact X'.warmed.alike) hp hb k1 k2 k3 T' rfl X'
    exact ⟨t2, st t2 a1, b1⟩
  · obtain ⟨k1, k2, k3⟩ := vx_keep h0 e1 hS hAX hf hL hF
    obtain ⟨t2, a1, b1⟩ := kx E ce q u t T'.heap (locs ++ L) e1.symm (by rw [← e2]; exact X'.warmed.alike) hp hb k1 k2 k3 (by rw [e1]; exact hce) hcv hcl T' rfl X'
    exact ⟨t2, st.trans a1, b1⟩
end
/-! ===== END ===== -/
/-! ===== BEGIN .. a constant ===== -/
section
variable {p : Program} {l : Launch} {e : Env} {R : Room} {s : State} {m : MethodId} {args : Array Value} {below : List Frame} {meth : Method} {c : Code} {H : Heap} {locs : List Loc} {cells slots : Nat} {Q : State → Prop}
variable {mc ms : Nat} {free : Addr → Prop} {A0 A1 : Nat → Prop} {H0 : Heap} {a : Array Value} {pc : Nat} {ls : Array Slot} {st0 rest : List Value}
theorem vx_calle {ad : Nat → Nat} {S SX : Type} {post : Option Nat → S → Prop} {px : SX → Prop} {B : S → State → Prop} {BX : String → SX → State → Prop} {AX : Nat → Prop} (hr : vx_Run p l e R s m args below meth c H locs cells slots mc ms (F0 m pc ls st0) rest (va_Qe ad post B A1 a) (vx_X px BX AX) free) (hS : va_S A0 H0 H locs) (hA : ∀ q, q < H.size → A1 q → A0 q) (hf : ∀ q, free q → A0 q) (hAX : ∀ q, q < H.size → AX q → A0 q)
    (kx : ∀ (E : String) (ce : Cell) (q9 : Addr) (u : SX) (t : State) (H1 : Heap) (locs1 : List Loc), t.heap = H1 → s.vm.Alike t.vm → px u → BX E u t → H.size ≤ H1.size → (∀ q : Nat, q < H.size → ¬ AX q → H1[q]? = H[q]?) → va_S A0 H0 H1 locs1 → H1[q9]? = some ce → ce.vm = .none → s.vm.findClass E = some ce.cls → vx_W p l e R s m args below meth c H1 locs1 (cells + mc) (slots + ms) Q (F0 m pc ls rest) q9)
    (kk : ∀ (r : Option Nat) (u : S) (t : State) (H1 : Heap) (locs1 : List Loc), t.heap = H1 → s.vm.Alike t.vm → post r u → B u t → H.size ≤ H1.size → (∀ q : Nat, q < H.size → ¬ A1 q → H1[q]? = H[q]?) → va_S A0 H0 H1 locs1 → W p l e R s m args below meth c H1 locs1 (cells + mc) (slots + ms) Q (F0 m (pc + 3) ls (va_re ad r :: rest))) : W p l e R s m args below meth c H locs cells slots Q (F0 m pc ls st0) := by
  intro T hT X
  rcases hr T hT X with ⟨v, st₀, t, T', L, h0, X', hL, e1, e2, ⟨⟨r, u, hv, hp, hb⟩, hF⟩, st⟩ | ⟨q, st₀, t, T', L, E, ce, h0, X', hL, e1, e2, ⟨u, hp, hb, hF⟩, hce, hcv, hcl, st⟩
  · cases hv
    obtain ⟨k1, k2, k3⟩ := vx_keep h0 e1 hS hA hf hL hF
    obtain ⟨t2, a1, b1⟩ := kk r u t T'.heap (locs ++ L) e1.symm (by rw [← e2]; exact X'.warmed.alike) hp hb k1 k2 k3 T' rfl X'
    exact ⟨t2, st t2 a1, b1⟩
  · obtain ⟨k1, k2, k3⟩ := vx_keep h0 e1 hS hAX hf hL hF
    obtain ⟨t2, a1, b1⟩ := kx E ce q u t T'.heap (locs ++ L) e1.symm (by rw [← e2]; exact X'.warmed.alike) hp hb k1 k2 k3 (by rw [e1]; exact hce) hcv hcl T' rfl X'
    exact ⟨t2, st.trans a1, b1⟩
end
/-! ===== END ===== -/
/-! ===== BEGIN .. by an interface, an object ===== -/
section
variable {p : Program} {l : Launch} {e : Env} {R : Room} {s : State} {m : MethodId} {args : Array Value} {below : List Frame} {meth : Method} {c : Code} {H : Heap} {locs : List Loc} {cells slots : Nat} {Q : State → Prop}
variable {mc ms : Nat} {free : Addr → Prop} {A0 A1 : Nat → Prop} {H0 : Heap} {a : Array Value} {pc : Nat} {ls : Array Slot} {st0 rest : List Value}
theorem vx_callFq {S SX : Type} {post : Option Nat → S → Prop} {px : SX → Prop} {B : S → State → Prop} {BX : String → SX → State → Prop} {AX : Nat → Prop} (hr : vx_Run5 p l e R s m args below meth c H locs cells slots mc ms (F0 m pc ls st0) rest (va_Qq post B A1 a) (vx_X px BX AX) free) (hS : va_S A0 H0 H locs) (hA : ∀ q, q < H.size → A1 q → A0 q) (hf : ∀ q, free q → A0 q) (hAX : ∀ q, q < H.size → AX q → A0 q)
    (kx : ∀ (E : String) (ce : Cell) (q9 : Addr) (u : SX) (t : State) (H1 : Heap) (locs1 : List Loc), t.heap = H1 → s.vm.Alike t.vm → px u → BX E u t → H.size ≤ H1.size → (∀ q : Nat, q < H.size → ¬ AX q → H1[q]? = H[q]?) → va_S A0 H0 H1 locs1 → H1[q9]? = some ce → ce.vm = .none → s.vm.findClass E = some ce.cls → vx_W p l e R s m args below meth c H1 locs1 (cells + mc) (slots + ms) Q (F0 m pc ls rest) q9)
    (kk : ∀ (r : Option Nat) (u : S) (t : State) (H1 : Heap) (locs1 : List Loc), t.heap = H1 → s.vm.Alike t.vm → post r u → B u t → H.size ≤ H1.size → (∀ q : Nat, q < H.size → ¬ A1 q → H1[q]? = H[q]?) → va_S A0 H0 H1 locs1 → W p l e R s m args below meth c H1 locs1 (cells + mc) (slots + ms) Q (F0 m (pc + 5) ls (va_rf r :: rest))) : W p l e R s m args below meth c H locs cells slots Q (F0 m pc ls st0) := by
  intro T hT X
  rcases hr T hT X with ⟨v, st₀, t, T', L, h0, X', hL, e1, e2, ⟨⟨r, u, hv, hp, hb⟩, hF⟩, st⟩ | ⟨q, st₀, t, T', L, E, ce, h0, X', hL, e1, e2, ⟨u, hp, hb, hF⟩, hce, hcv, hcl, st⟩
  · cases hv
    obtain ⟨k1, k2, k3⟩ := vx_keep h0 e1 hS hA hf hL hF
    obtain ⟨t2, a1, b1⟩ := kk r u t T'.heap (locs ++ L) e1.symm (by rw [← e2]; exact X'.warmed.alike) hp hb k1 k2 k3 T' rfl X'
    exact ⟨t2, st t2 a1, b1⟩
  · obtain ⟨k1, k2, k3⟩ := vx_keep h0 e1 hS hAX hf hL hF
    obtain ⟨t2, a1, b1⟩ := kx E ce q u t T'.heap (locs ++ L) e1.symm (by rw [← e2]; exact X'.warmed.alike) hp hb k1 k2 k3 (by rw [e1]; exact hce) hcv hcl T' rfl X'
    exact ⟨t2, st.trans a1, b1⟩
end
/-! ===== END ===== -/
/-! ===== BEGIN .. by an interface, a constant ===== -/
section
variable {p : Program} {l : Launch} {e : Env} {R : Room} {s : State} {m : MethodId} {args : Array Value} {below : List Frame} {meth : Method} {c : Code} {H : Heap} {locs : List Loc} {cells slots : Nat} {Q : State → Prop}
variable {mc ms : Nat} {free : Addr → Prop} {A0 A1 : Nat → Prop} {H0 : Heap} {a : Array Value} {pc : Nat} {ls : Array Slot} {st0 rest : List Value}
theorem vx_callFe {ad : Nat → Nat} {S SX : Type} {post : Option Nat → S → Prop} {px : SX → Prop} {B : S → State → Prop} {BX : String → SX → State → Prop} {AX : Nat → Prop} (hr : vx_Run5 p l e R s m args below meth c H locs cells slots mc ms (F0 m pc ls st0) rest (va_Qe ad post B A1 a) (vx_X px BX AX) free) (hS : va_S A0 H0 H locs) (hA : ∀ q, q < H.size → A1 q → A0 q) (hf : ∀ q, free q → A0 q) (hAX : ∀ q, q < H.size → AX q → A0 q)
    (kx : ∀ (E : String) (ce : Cell) (q9 : Addr) (u : SX) (t : State) (H1 : Heap) (locs1 : List Loc), t.heap = H1 → s.vm.Alike t.vm → px u → BX E u t → H.size ≤ H1.size → (∀ q : Nat, q < H.size → ¬ AX q → H1[q]? = H[q]?) → va_S A0 H0 H1 locs1 → H1[q9]? = some ce → ce.vm = .none → s.vm.findClass E = some ce.cls → vx_W p l e R s m args below meth c H1 locs1 (cells + mc) (slots + ms) Q (F0 m pc ls rest) q9)
    (kk : ∀ (r : Option Nat) (u : S) (t : State) (H1 : Heap) (locs1 : List Loc), t.heap = H1 → s.vm.Alike t.vm → post r u → B u t → H.size ≤ H1.size → (∀ q : Nat, q < H.size → ¬ A1 q → H1[q]? = H[q]?) → va_S A0 H0 H1 locs1 → W p l e R s m args below meth c H1 locs1 (cells + mc) (slots + ms) Q (F0 m (pc + 5) ls (va_re ad r :: rest))) : W p l e R s m args below meth c H locs cells slots Q (F0 m pc ls st0) := by
  intro T hT X
  rcases hr T hT X with ⟨v, st₀, t, T', L, h0, X', hL, e1, e2, ⟨⟨r, u, hv, hp, hb⟩, hF⟩, st⟩ | ⟨q, st₀, t, T', L, E, ce, h0, X', hL, e1, e2, ⟨u, hp, hb, hF⟩, hce, hcv, hcl, st⟩
  · cases hv
    obtain ⟨k1, k2, k3⟩ := vx_keep h0 e1 hS hA hf hL hF
    obtain ⟨t2, a1, b1⟩ := kk r u t T'.heap (locs ++ L) e1.symm (by rw [← e2]; exact X'.warmed.alike) hp hb k1 k2 k3 T' rfl X'
    exact ⟨t2, st t2 a1, b1⟩
  · obtain ⟨k1, k2, k3⟩ := vx_keep h0 e1 hS hAX hf hL hF
    obtain ⟨t2, a1, b1⟩ := kx E ce q u t T'.heap (locs ++ L) e1.symm (by rw [← e2]; exact X'.warmed.alike) hp hb k1 k2 k3 (by rw [e1]; exact hce) hcv hcl T' rfl X'
    exact ⟨t2, st.trans a1, b1⟩
end
/-! ===== END ===== -/
/-! ===== BEGIN what the machine throws by itself: null at a field, at athrow ===== -/
section VXM2
variable {p : Program} {l : Launch} {e : Env} {R : Room} {s : State} {m : MethodId} {args : Array Value} {below : List Frame} {meth : Method} {c : Code} {H : Heap} {locs : List Loc} {cells slots : Nat}
variable {Q : State → Prop} {cc : ByteArray} {pc : Nat} {ls : Array Slot} {rest : List Value}
theorem vx_getfN {D cl tys} {own ref C : String} {T : u_T} {N ci index : Nat} {Ts : List Cond} (hexec : p.tables.exec = Jvm.exec) (hb : c.code = cc) (hts : ∀ w ∈ Ts, w.before args s = true) (hin : ∀ w ∈ u_ws C T N, w ∈ Ts) (hown : s.vm.findClass own = some m.cls) (hK : va_K D cl tys s) (hc : cl[ci]? = some (C, T, N)) (k : Nat) (hk : k < N) (hlink : (Cond.fieldLink own index ref (T k).2.1 (T k).2.2.1).before args s = true) (hsame : ∀ x, s.fieldFound? (T k).1 (T k).2.1 (T k).2.2.1 = some x → s.fieldFound? ref (T k).2.1 (T k).2.2.1 = some x) (hdg : decode cc pc = .ok (.getfield index, 3)) (kk : vx_NoteN p l e R s m args below meth c H locs cells slots Q (F0 m pc ls rest)) : W p l e R s m args below meth c H locs cells slots Q (F0 m pc ls (.null :: rest)) := by
  obtain ⟨hS, hfc, kC, hkC, -⟩ := hK.1 ci _ hc
  obtain ⟨cf, kf, fi, f, hi, -⟩ := hS k hk
  intro U hU X
  obtain ⟨vm', X1, st1⟩ := X.getfieldNull hexec hown hlink (hsame _ hi) (u_facts hfc hkC (u_lays hts hin hk) hi).1 (g := F0 m pc ls (.null :: rest)) rfl (rest := rest) rfl (by rw [hb]; exact hdg)
  obtain ⟨t, st, q⟩ := kk (U.setVm vm') hU X1
  exact ⟨t, st1 t st, q⟩
theorem vx_getfNN {D cl tys} {own ref C host : String} {T : u_T} {N ci index : Nat} {Ts : List Cond} (hexec : p.tables.exec = Jvm.exec) (hb : c.code = cc) (hts : ∀ w ∈ Ts, w.before args s = true) (hin : ∀ w ∈ u_ws C T N, w ∈ Ts) (hown : s.vm.findClass own = some m.cls) (hK : va_K D cl tys s) (hc : cl[ci]? = some (C, T, N)) (k : Nat) (hk : k < N) (hlink : (Cond.fieldLinkNest own index ref (T k).2.1 (T k).2.2.1 host).before args s = true) (hsame : ∀ x, s.fieldFound? (T k).1 (T k).2.1 (T k).2.2.1 = some x → s.fieldFound? ref (T k).2.1 (T k).2.2.1 = some x) (hdg : decode cc pc = .ok (.getfield index, 3)) (kk : vx_NoteN p l e R s m args below meth c H locs cells slots Q (F0 m pc ls rest)) : W p l e R s m args below meth c H locs cells slots Q (F0 m pc ls (.null :: rest)) := by
  obtain ⟨hS, hfc, kC, hkC, -⟩ := hK.1 ci _ hc
  obtain ⟨cf, kf, fi, f, hi, -⟩ := hS k hk
  intro U hU X
  obtain ⟨vm', X1, st1⟩ := X.getfieldNullNest hexec hown hlink (hsame _ hi) (u_facts hfc hkC (u_lays hts hin hk) hi).1 (g := F0 m pc ls (.null :: rest)) rfl (rest := rest) rfl (by rw [hb]; exact hdg)
  obtain ⟨t, st, q⟩ := kk (U.setVm vm') hU X1
  exact ⟨t, st1 t st, q⟩
theorem vx_putfN {D cl tys} {own ref C : String} {T : u_T} {N ci index : Nat} {Ts : List Cond} (hexec : p.tables.exec = Jvm.exec) (hb : c.code = cc) (hts : ∀ w ∈ Ts, w.before args s = true) (hin : ∀ w ∈ u_ws C T N, w ∈ Ts) (hown : s.vm.findClass own = some m.cls) (hK : va_K D cl tys s) (hc : cl[ci]? = some (C, T, N)) (k : Nat) (hk : k < N) (hlink : (Cond.fieldLink own index ref (T k).2.1 (T k).2.2.1).before args s = true) (hsame : ∀ x, s.fieldFound? (T k).1 (T k).2.1 (T k).2.2.1 = some x → s.fieldFound? ref (T k).2.1 (T k).2.2.1 = some x) (hfin : (T k).2.2.2 = false) {v : Value} (hdg : decode cc pc = .ok (.putfield index, 3)) (kk : vx_NoteN p l e R s m args below meth c H locs cells slots Q (F0 m pc ls rest)) : W p l e R s m args below meth c H locs cells slots Q (F0 m pc ls (v :: .null :: rest)) := by
  obtain ⟨hS, hfc, kC, hkC, -⟩ := hK.1 ci _ hc
  obtain ⟨cf, kf, fi, f, hi, -⟩ := hS k hk
  have hlay := hts _ (hin _ (u_in_lay hk))
  unfold u_lay at hlay
  rw [if_neg (by rw [hfin]; decide)] at hlay
  obtain ⟨c9, k9, cf9, kf9, fi9, f9, -, -, hi9, hst9, hnf9, -⟩ := Cond.lays_spec hlay
  cases hi.symm.trans hi9
  intro U hU X
  obtain ⟨vm', X1, st1⟩ := X.putfieldNull hexec hown hlink (hsame _ hi) hst9 hnf9 (g := F0 m pc ls (v :: .null :: rest)) rfl (v := v) (rest := rest) rfl (by rw [hb]; exact hdg)
  obtain ⟨t, st, q⟩ := kk (U.setVm vm') hU X1
  exact ⟨t, st1 t st, q⟩
theorem vx_putfNN {D cl tys} {own ref C host : String} {T : u_T} {N ci index : Nat} {Ts : List Cond} (hexec : p.tables.exec = Jvm.exec) (hb : c.code = cc) (hts : ∀ w ∈ Ts, w.before args s = true) (hin : ∀ w ∈ u_ws C T N, w ∈ Ts) (hown : s.vm.findClass own = some m.cls) (hK : va_K D cl tys s) (hc : cl[ci]? = some (C, T, N)) (k : Nat) (hk : k < N) (hlink : (Cond.fieldLinkNest own index ref (T k).2.1 (T k).2.2.1 host).before args s = true) (hsame : ∀ x, s.fieldFound? (T k).1 (T k).2.1 (T k).2.2.1 = some x → s.fieldFound? ref (T k).2.1 (T k).2.2.1 = some x) (hfin : (T k).2.2.2 = false) {v : Value} (hdg : decode cc pc = .ok (.putfield index, 3)) (kk : vx_NoteN p l e R s m args below meth c H locs cells slots Q (F0 m pc ls rest)) : W p l e R s m args below meth c H locs cells slots Q (F0 m pc ls (v :: .null :: rest)) := by
  obtain ⟨hS, hfc, kC, hkC, -⟩ := hK.1 ci _ hc
  obtain ⟨cf, kf, fi, f, hi, -⟩ := hS k hk
  have hlay := hts _ (hin _ (u_in_lay hk))
  unfold u_lay at hlay
  rw [if_neg (by rw [hfin]; decide)] at hlay
  obtain ⟨c9, k9, cf9, kf9, fi9, f9, -, -, hi9, hst9, hnf9, -⟩ := Cond.lays_spec hlay
  cases hi.symm.trans hi9
  intro U hU X
  obtain ⟨vm', X1, st1⟩ := X.putfieldNullNest hexec hown hlink (hsame _ hi) hst9 hnf9 (g := F0 m pc ls (v :: .null :: rest)) rfl (v := v) (rest := rest) rfl (by rw [hb]; exact hdg)
  obtain ⟨t, st, q⟩ := kk (U.setVm vm') hU X1
  exact ⟨t, st1 t st, q⟩
theorem vx_athrowN (hexec : p.tables.exec = Jvm.exec) (hb : c.code = cc) (hdg : decode cc pc = .ok (.athrow, 1)) (k : vx_NoteN p l e R s m args below meth c H locs cells slots Q (F0 m pc ls rest)) : W p l e R s m args below meth c H locs cells slots Q (F0 m pc ls (.null :: rest)) := by
  intro T hT X
  obtain ⟨t, st, q⟩ := k T hT X
  exact ⟨t, X.athrowNull hexec (g := F0 m pc ls (.null :: rest)) rfl (rest := rest) rfl (by rw [hb]; exact hdg) t st, q⟩
end VXM2
/-! ===== END ===== -/
end
section
/-! THE INTERPRETER: a program of numbered methods; cells are known by their places (numbers in the order in which they came), not by their addresses. -/
abbrev zK : Type := List (Nat × Nat)
abbrev zS : Type := zK × (Nat → Nat → Int32) × (Nat → Nat → Option Nat) × (Nat → Nat → Int64) × Nat × Nat
abbrev zLs : Type := List (Option Value)
abbrev zI : Type := Instr × Nat × Nat × Nat × List Nat
/-- name, bytes, locals, return type, handlers (start, end, where, which class), its code, frames, words -/
abbrev zM : Type := MethodName × ByteArray × Nat × Option FieldType × List (Nat × Nat × Nat × Nat) × List (Nat × zI) × Nat × Nat
abbrev zO : Type := Option Value ⊕ Nat
abbrev zmN (q : zM) : MethodName := q.1
abbrev zmB (q : zM) : ByteArray := q.2.1
abbrev zmL (q : zM) : Nat := q.2.2.1
abbrev zmR (q : zM) : Option FieldType := q.2.2.2.1
abbrev zmH (q : zM) : List (Nat × Nat × Nat × Nat) := q.2.2.2.2.1
abbrev zmC (q : zM) : List (Nat × zI) := q.2.2.2.2.2.1
abbrev zmF (q : zM) : Nat := q.2.2.2.2.2.2.1
abbrev zmW (q : zM) : Nat := q.2.2.2.2.2.2.2
def zlk : List (Nat × zI) → Nat → Option zI
  | [], _ => none
  | e :: r, pc => if e.1 = pc then some e.2 else zlk r pc
def zg (ls : zLs) (k : Nat) : Option Value := match ls[k]? with
  | some (some v) => some v
  | _ => none
def zc2 : Option Value → Bool
  | some v => v.category == 2
  | none => false
def zkl (ls : zLs) (i : Nat) : zLs := match i with
  | 0 => ls
  | k + 1 => if zc2 (ls.getD k none) then ls.set k none else ls
def zs1 (ls : zLs) (i : Nat) (v : Value) : zLs := (zkl ls i).set i (some v)
def zs2 (ls : zLs) (i : Nat) (v : Value) : zLs := ((zkl ls i).set i (some v)).set (i + 1) none
def zent : List Value → zLs
  | [] => []
  | v :: vs => if v.category = 2 then some v :: none :: zent vs else some v :: zent vs
/-- a method's first locals -/
def zfst (vs : List Value) (n : Nat) : zLs := zent vs ++ List.replicate (n - (zent vs).length) none
def zup {α : Type} (h : Nat → Nat → α) (p f : Nat) (v : α) : Nat → Nat → α := fun a j => if a = p ∧ j = f then v else h a j
def zupR {α : Type} (h : Nat → Nat → α) (p : Nat) (v : Nat → α) : Nat → Nat → α := fun a => if a = p then v else h a
/-- what a field of that type holds -/
def zfv (ty : FieldType) (σ : zS) (p f : Nat) : Value := match ty with
  | .object _ => va_rf (σ.2.2.1 p f)
  | .array _ => va_rf (σ.2.2.1 p f)
  | .long => .long (σ.2.2.2.1 p f)
  | _ => .int (σ.2.1 p f)
/-- a field gets a value -/
def zfp (σ : zS) (p f : Nat) (v : Value) : Option zS := match v with
  | .int x => some (σ.1, zup σ.2.1 p f x, σ.2.2)
  | .long x => some (σ.1, σ.2.1, σ.2.2.1, zup σ.2.2.2.1 p f x, σ.2.2.2.2)
  | .ref q => some (σ.1, σ.2.1, zup σ.2.2.1 p f (some q), σ.2.2.2)
  | .null => some (σ.1, σ.2.1, zup σ.2.2.1 p f none, σ.2.2.2)
  | _ => none
/-- a new cell of a kind, n slots -/
def znw (σ : zS) (k n : Nat) : zS := (σ.1 ++ [(k, n)], zupR σ.2.1 σ.1.length (fun _ => 0), zupR σ.2.2.1 σ.1.length (fun _ => none), zupR σ.2.2.2.1 σ.1.length (fun _ => 0), σ.2.2.2.2.1 + 1, σ.2.2.2.2.2 + n)
/-- an object is thrown: a cell of six slots that nobody will ask for -/
def zthr (σ : zS) : zS := (σ.1, σ.2.1, σ.2.2.1, σ.2.2.2.1, σ.2.2.2.2.1 + 1, σ.2.2.2.2.2 + 6)
def zcat (hs : List (Nat × Nat × Nat × Nat)) (pc E : Nat) : Option Nat := match hs with
  | [] => none
  | x :: r => if x.1 ≤ pc ∧ pc < x.2.1 ∧ x.2.2.2 = E then some x.2.2.1 else zcat r pc E
def zin (i : Int32) (n : Nat) : Bool := decide (¬ (i < 0 ∨ n ≤ i.toNatClampNeg))
abbrev zR : Type := Nat → Nat → zLs → List Value → zS → Option (zO × zS)
/-- behind a call: it returned, or threw -/
def zback (P : Nat → zM) (rec : zR) (y pc : Nat) (ls : zLs) (rest : List Value) : Option (zO × zS) → Option (zO × zS)
  | none => none
  | some (.inl v, σ) => rec y (pc + 3) ls (v.toList ++ rest) σ
  | some (.inr E, σ) => match zcat (zmH (P y)) pc E with
    | none => some (.inr E, σ)
    | some h => match zlk (zmC (P y)) h with
      | some (.astore k, _) => if k < ls.length then rec y (h + 2) ((zkl ls k).set k none) [] σ else none
      | some (.astore_n k, _) => if (k : Nat) < ls.length then rec y (h + 1) ((zkl ls k).set k none) [] σ else none
      | _ => none
def zlow (rest : List Value) : Bool := decide ((rest.map fun v => v.category).sum ≤ 8)
/-- one instruction -/
def zst (P : Nat → zM) (ft : Nat → List FieldType) (ro : Nat → Int32 → zS → Option (zO × zS)) (rec : zR) (y pc : Nat) (ls : zLs) (st : List Value) (σ : zS) (e : zI) : Option (zO × zS) :=
  match e with
  | (i, r1, r2, r3, tg) => match i with
  | .aload k => match zg ls k with
    | some (.ref a) => rec y (pc + 2) ls (.ref a :: st) σ
    | some .null => rec y (pc + 2) ls (.null :: st) σ
    | _ => none
  | .aload_n k => match zg ls k with
    | some (.ref a) => rec y (pc + 1) ls (.ref a :: st) σ
    | some .null => rec y (pc + 1) ls (.null :: st) σ
    | _ => none
  | .iload k => match zg ls k with
    | some (.int x) => rec y (pc + 2) ls (.int x :: st) σ
    | _ => none
  | .iload_n k => match zg ls k with
    | some (.int x) => rec y (pc + 1) ls (.int x :: st) σ
    | _ => none
  | .lload k => match zg ls k with
    | some (.long x) => rec y (pc + 2) ls (.long x :: st) σ
    | _ => none
  | .lload_n k => match zg ls k with
    | some (.long x) => rec y (pc + 1) ls (.long x :: st) σ
    | _ => none
  | .astore k => if k < ls.length then match st with
    | .ref a :: r => rec y (pc + 2) (zs1 ls k (.ref a)) r σ
    | .null :: r => rec y (pc + 2) (zs1 ls k .null) r σ
    | _ => none else none
  | .astore_n k => if (k : Nat) < ls.length then match st with
    | .ref a :: r => rec y (pc + 1) (zs1 ls k (.ref a)) r σ
    | .null :: r => rec y (pc + 1) (zs1 ls k .null) r σ
    | _ => none else none
  | .istore k => if k < ls.length then match st with
    | .int x :: r => rec y (pc + 2) (zs1 ls k (.int x)) r σ
    | _ => none else none
  | .istore_n k => if (k : Nat) < ls.length then match st with
    | .int x :: r => rec y (pc + 1) (zs1 ls k (.int x)) r σ
    | _ => none else none
  | .lstore k => if k + 1 < ls.length then match st with
    | .long x :: r => rec y (pc + 2) (zs2 ls k (.long x)) r σ
    | _ => none else none
  | .lstore_n k => if (k : Nat) + 1 < ls.length then match st with
    | .long x :: r => rec y (pc + 1) (zs2 ls k (.long x)) r σ
    | _ => none else none
  | .iinc k n => if k < ls.length then match zg ls k with
    | some (.int x) => rec y (pc + 3) (zs1 ls k (.int (x + Int32.ofInt n))) st σ
    | _ => none else none
  | .iconst n => rec y (pc + 1) ls (.int (Int32.ofInt n) :: st) σ
  | .bipush n => rec y (pc + 2) ls (.int (Int8.ofInt n).toInt32 :: st) σ
  | .sipush n => rec y (pc + 3) ls (.int (Int16.ofInt n).toInt32 :: st) σ
  | .lconst n => rec y (pc + 1) ls (.long (Int64.ofNat n) :: st) σ
  | .ldc _ => rec y (pc + 2) ls (.int (Int32.ofNat r1) :: st) σ
  | .ldc2_w _ => rec y (pc + 3) ls (.long (Int64.ofNat r1) :: st) σ
  | .aconst_null => rec y (pc + 1) ls (.null :: st) σ
  | .pop => match st with
    | v :: r => if v.category = 1 then rec y (pc + 1) ls r σ else none
    | _ => none
  | .dup => match st with
    | v :: r => if v.category = 1 then rec y (pc + 1) ls (v :: v :: r) σ else none
    | _ => none
  | .dup2 => match st with
    | v :: w :: r => if v.category = 1 ∧ w.category = 1 then rec y (pc + 1) ls (v :: w :: v :: w :: r) σ else none
    | _ => none
  | .iadd => match st with
    | .int b :: .int a :: r => rec y (pc + 1) ls (.int (a + b) :: r) σ
    | _ => none
  | .isub => match st with
    | .int b :: .int a :: r => rec y (pc + 1) ls (.int (a - b) :: r) σ
    | _ => none
  | .imul => match st with
    | .int b :: .int a :: r => rec y (pc + 1) ls (.int (a * b) :: r) σ
    | _ => none
  | .idiv => match st with
    | .int b :: .int a :: r => if b = 0 then none else rec y (pc + 1) ls (.int (a / b) :: r) σ
    | _ => none
  | .irem => match st with
    | .int b :: .int a :: r => if b = 0 then none else rec y (pc + 1) ls (.int (a - a / b * b) :: r) σ
    | _ => none
  | .iand => match st with
    | .int b :: .int a :: r => rec y (pc + 1) ls (.int (a &&& b) :: r) σ
    | _ => none
  | .ixor => match st with
    | .int b :: .int a :: r => rec y (pc + 1) ls (.int (a ^^^ b) :: r) σ
    | _ => none
  | .ishr => match st with
    | .int b :: .int a :: r => rec y (pc + 1) ls (.int (a >>> (b &&& 31)) :: r) σ
    | _ => none
  | .ishl => match st with
    | .int b :: .int a :: r => rec y (pc + 1) ls (.int (a <<< (b &&& 31)) :: r) σ
    | _ => none
  | .ineg => match st with
    | .int a :: r => rec y (pc + 1) ls (.int (-a) :: r) σ
    | _ => none
  | .i2l => match st with
    | .int a :: r => rec y (pc + 1) ls (.long a.toInt64 :: r) σ
    | _ => none
  | .i2b => match st with
    | .int a :: r => rec y (pc + 1) ls (.int a.toInt8.toInt32 :: r) σ
    | _ => none
  | .ladd => match st with
    | .long b :: .long a :: r => rec y (pc + 1) ls (.long (a + b) :: r) σ
    | _ => none
  | .lmul => match st with
    | .long b :: .long a :: r => rec y (pc + 1) ls (.long (a * b) :: r) σ
    | _ => none
  | .lcmp => match st with
    | .long b :: .long a :: r => rec y (pc + 1) ls (.int (lg_cmp a b) :: r) σ
    | _ => none
  | .goto _ => rec y r1 ls st σ
  | .ifCond cc _ => match st with
    | .int x :: r => match cc with
      | .eq => if x = 0 then rec y r1 ls r σ else rec y (pc + 3) ls r σ
      | .ne => if x = 0 then rec y (pc + 3) ls r σ else rec y r1 ls r σ
      | .lt => if x < 0 then rec y r1 ls r σ else rec y (pc + 3) ls r σ
      | .ge => if 0 ≤ x then rec y r1 ls r σ else rec y (pc + 3) ls r σ
      | .gt => if 0 < x then rec y r1 ls r σ else rec y (pc + 3) ls r σ
      | .le => if x ≤ 0 then rec y r1 ls r σ else rec y (pc + 3) ls r σ
    | _ => none
  | .if_icmp cc _ => match st with
    | .int b :: .int a :: r => match cc with
      | .eq => if a = b then rec y r1 ls r σ else rec y (pc + 3) ls r σ
      | .ne => if a = b then rec y (pc + 3) ls r σ else rec y r1 ls r σ
      | .lt => if a < b then rec y r1 ls r σ else rec y (pc + 3) ls r σ
      | .ge => if b ≤ a then rec y r1 ls r σ else rec y (pc + 3) ls r σ
      | .gt => if b < a then rec y r1 ls r σ else rec y (pc + 3) ls r σ
      | .le => if a ≤ b then rec y r1 ls r σ else rec y (pc + 3) ls r σ
    | _ => none
  | .ifnull _ => match st with
    | .ref _ :: r => rec y (pc + 3) ls r σ
    | .null :: r => rec y r1 ls r σ
    | _ => none
  | .ifnonnull _ => match st with
    | .ref _ :: r => rec y r1 ls r σ
    | .null :: r => rec y (pc + 3) ls r σ
    | _ => none
  | .tableswitch _ lo hi _ => match st with
    | .int x :: r => if x.toInt < lo ∨ hi < x.toInt then rec y r2 ls r σ else match tg[(x.toInt - lo).toNat]? with
      | some t => rec y t ls r σ
      | none => none
    | _ => none
  | .getfield _ => match st with
    | .ref a :: r => match σ.1[a]? with
      | some (c, _) => if c = r1 then rec y (pc + 3) ls (zfv ((ft r1).getD r2 .int) σ a r2 :: r) σ else none
      | none => none
    | _ => none
  | .putfield _ => match st with
    | v :: .ref a :: r => match σ.1[a]? with
      | some (c, _) => if c = r1 ∧ narrow ((ft r1).getD r2 .int) v = v ∧ fits ((ft r1).getD r2 .int) v = true then match zfp σ a r2 v with
        | some σ1 => rec y (pc + 3) ls r σ1
        | none => none else none
      | none => none
    | _ => none
  | .getstatic _ => rec y (pc + 3) ls (.ref r1 :: st) σ
  | .arraylength => match st with
    | .ref a :: r => match σ.1[a]? with
      | some (c, n) => if c = 100 ∨ c = 103 ∨ c = 104 ∨ c = 105 ∨ c = 200 then rec y (pc + 1) ls (.int (Int32.ofNat n) :: r) σ else none
      | none => none
    | _ => none
  | .iaload => match st with
    | .int i :: .ref a :: r => match σ.1[a]? with
      | some (c, n) => if (c = 100 ∨ c = 200) ∧ zin i n = true then rec y (pc + 1) ls (.int (σ.2.1 a i.toNatClampNeg) :: r) σ else none
      | none => none
    | _ => none
  | .iastore => match st with
    | .int x :: .int i :: .ref a :: r => match σ.1[a]? with
      | some (c, n) => if c = 100 ∧ zin i n = true then rec y (pc + 1) ls r (σ.1, zup σ.2.1 a i.toNatClampNeg x, σ.2.2) else none
      | none => none
    | _ => none
  | .aaload => match st with
    | .int i :: .ref a :: r => match σ.1[a]? with
      | some (c, n) => if (c = 103 ∨ c = 104 ∨ c = 105) ∧ zin i n = true then rec y (pc + 1) ls (va_rf (σ.2.2.1 a i.toNatClampNeg) :: r) σ else none
      | none => none
    | _ => none
  | .aastore => match st with
    | .ref v :: .int i :: .ref a :: r => match σ.1[a]?, σ.1[v]? with
      | some (c, n), some (cv, _) => if c = r1 ∧ cv = r2 ∧ zin i n = true then rec y (pc + 1) ls r (σ.1, σ.2.1, zup σ.2.2.1 a i.toNatClampNeg (some v), σ.2.2.2) else none
      | _, _ => none
    | _ => none
  | .newarray _ => match st with
    | .int n :: r => if n < 0 then none else if n.toNatClampNeg ≤ 100000 then rec y (pc + 2) ls (.ref σ.1.length :: r) (znw σ r1 n.toNatClampNeg) else none
    | _ => none
  | .anewarray _ => match st with
    | .int n :: r => if n < 0 then none else if n.toNatClampNeg ≤ 100000 then rec y (pc + 3) ls (.ref σ.1.length :: r) (znw σ r1 n.toNatClampNeg) else none
    | _ => none
  | .new _ => if r3 = 0 then rec y (pc + 3) ls (.ref σ.1.length :: st) (znw σ r1 (ft r1).length) else match st with
    | [] => some (.inr r1, zthr σ)
    | _ => none
  | .ireturn => match st, zmR (P y) with
    | [.int x], some ty => if narrow ty (.int x) = .int x then some (.inl (some (.int x)), σ) else none
    | _, _ => none
  | .lreturn => match st with
    | [.long x] => some (.inl (some (.long x)), σ)
    | _ => none
  | .areturn => match st with
    | [.ref a] => some (.inl (some (.ref a)), σ)
    | [.null] => some (.inl (some .null), σ)
    | _ => none
  | .return_ => match st with
    | [] => some (.inl none, σ)
    | _ => none
  | .invokestatic _ => if zlow (st.drop r2) then zback P rec y pc ls (st.drop r2) (if (st.take r2).length = r2 ∧ (zent (st.take r2).reverse).length ≤ zmL (P r1) then rec r1 0 (zfst (st.take r2).reverse (zmL (P r1))) [] σ else none) else none
  | .invokevirtual _ => if r3 = 2000 then match st with
    | .int x :: .ref b :: rest => match ro b x σ with
      | some (.inl (some (.int w)), σ1) => rec y (pc + 6) ls (.int w :: rest) σ1
      | some (.inr E, σ1) => zback P rec y pc ls rest (some (.inr E, σ1))
      | _ => none
    | _ => none
  else match st.drop r2 with
    | .ref b :: rest => if zlow rest then match σ.1[b]? with
      | some (c, _) => if c = r3 then zback P rec y pc ls rest (if (st.take r2).length = r2 ∧ (zent (.ref b :: (st.take r2).reverse)).length ≤ zmL (P r1) then rec r1 0 (zfst (.ref b :: (st.take r2).reverse) (zmL (P r1))) [] σ else none) else none
      | none => none else none
    | _ => none
  | .invokespecial _ => match st.drop r2 with
    | .ref b :: rest => if r3 = 1000 then (if r2 = 0 ∧ zlow rest = true then rec y (pc + 3) ls rest σ else none) else if zlow rest then match σ.1[b]? with
      | some (c, _) => if c = r3 then zback P rec y pc ls rest (if (st.take r2).length = r2 ∧ (zent (.ref b :: (st.take r2).reverse)).length ≤ zmL (P r1) then rec r1 0 (zfst (.ref b :: (st.take r2).reverse) (zmL (P r1))) [] σ else none) else none
      | none => none else none
    | _ => none
  | _ => none
/-- the interpreter: n is its fuel -/
def zx (P : Nat → zM) (ft : Nat → List FieldType) (ro : Nat → Int32 → zS → Option (zO × zS)) : Nat → zR
  | 0 => fun _ _ _ _ _ => none
  | n + 1 => fun y pc ls st σ => match zlk (zmC (P y)) pc with
    | none => none
    | some e => zst P ft ro (zx P ft ro n) y pc ls st σ e
end
section
/-! places and addresses: what the interpreter's values, locals and cells are in the machine -/
def zt (L : List Nat) : Value → Value
  | .ref k => .ref (L.getD k 0)
  | .int x => .int x
  | .long x => .long x
  | .null => .null
  | .float x => .float x
  | .double x => .double x
  | .retAddr x => .retAddr x
def zvk (n : Nat) : Value → Prop
  | .ref k => k < n
  | _ => True
theorem zt_cat (L : List Nat) (v : Value) : (zt L v).category = v.category := by cases v <;> rfl
theorem zt_rf (L : List Nat) (r : Option Nat) : zt L (va_rf r) = va_rf (r.map fun q => L.getD q 0) := by cases r <;> rfl
theorem zt_app {L M : List Nat} {v : Value} (h : zvk L.length v) : zt (L ++ M) v = zt L v := by
  cases v with
  | ref k =>
    have hk : k < L.length := h
    simp only [zt, List.getD_eq_getElem?_getD, List.getElem?_append_left hk]
  | _ => rfl
theorem zvk_mono {n k : Nat} {v : Value} (h : zvk n v) (hn : n ≤ k) : zvk k v := by
  cases v with
  | ref a => exact Nat.lt_of_lt_of_le (show a < n from h) hn
  | _ => trivial
theorem zt_apps {L M : List Nat} : ∀ {st : List Value}, (∀ v ∈ st, zvk L.length v) → st.map (zt (L ++ M)) = st.map (zt L)
  | [], _ => rfl
  | v :: st, h => by
    rw [List.map_cons, List.map_cons, zt_app (h v List.mem_cons_self), zt_apps (fun w hw => h w (List.mem_cons_of_mem _ hw))]
/-- the locals -/
def zlv (L : List Nat) (rls : Array Slot) (n : Nat) (ls : zLs) : Prop := rls.size = n ∧ lv_wf rls ∧ ls.length = n ∧ ∀ (i : Nat) (v : Value), zg ls i = some v → rls[i]? = some (.val (zt L v))
def zal (L : List Nat) (n : Nat) (ls : zLs) : List (Nat × Value) := (List.range n).filterMap (fun j => (zg ls j).map (fun v => (j, zt L v)))
theorem zal_mem {L : List Nat} {n : Nat} {ls : zLs} {q : Nat × Value} : q ∈ zal L n ls ↔ ∃ v, q.1 < n ∧ zg ls q.1 = some v ∧ q.2 = zt L v := by
  unfold zal
  rw [List.mem_filterMap]
  constructor
  · rintro ⟨j, hj, h⟩
    cases hz : zg ls j with
    | none => rw [hz] at h; cases h
    | some v =>
      rw [hz] at h
      cases h
      exact ⟨v, List.mem_range.mp hj, hz, rfl⟩
  · rintro ⟨v, h1, h2, h3⟩
    refine ⟨q.1, List.mem_range.mpr h1, ?_⟩
    rw [h2]
    exact congrArg some (Prod.ext rfl h3.symm)
theorem zg_lt {ls : zLs} {i : Nat} {v : Value} (h : zg ls i = some v) : i < ls.length := by
  unfold zg at h
  rcases Nat.lt_or_ge i ls.length with hl | hl
  · exact hl
  · rw [List.getElem?_eq_none hl] at h
    cases h
theorem zlv.has {L : List Nat} {rls : Array Slot} {n : Nat} {ls : zLs} (h : zlv L rls n ls) : lv_has rls n (zal L n ls) := by
  refine ⟨h.1, h.2.1, fun q hq => ?_⟩
  obtain ⟨v, h1, h2, h3⟩ := zal_mem.mp hq
  rw [h3]
  exact h.2.2.2 _ _ h2
theorem zkl_len (ls : zLs) (i : Nat) : (zkl ls i).length = ls.length := by
  unfold zkl
  cases i with
  | zero => rfl
  | succ k =>
    dsimp only
    split
    · exact List.length_set
    · rfl
theorem zg_some {ls : zLs} {i : Nat} {v : Value} : zg ls i = some v ↔ ls[i]? = some (some v) := by
  unfold zg
  constructor
  · intro h
    split at h
    · rename_i w hw
      cases h
      exact hw
    · cases h
  · intro h
    rw [h]
/-- what is left of the locals, where one is about to be stored -/
theorem zkl_at {ls : zLs} {i j : Nat} {w : Value} (h : (zkl ls i)[j]? = some (some w)) : zg ls j = some w ∧ ¬ (j + 1 = i ∧ w.category = 2) := by
  unfold zkl at h
  cases i with
  | zero => exact ⟨zg_some.mpr h, fun q => by omega⟩
  | succ k =>
    dsimp only at h
    by_cases hz : zc2 (ls.getD k none) = true
    · rw [if_pos hz] at h
      by_cases hk : j = k
      · subst hk
        have hl : j < (ls.set j none).length := by
          rcases Nat.lt_or_ge j (ls.set j none).length with q | q
          · exact q
          · rw [List.getElem?_eq_none q] at h; cases h
        rw [List.length_set] at hl
        rw [List.getElem?_set_self hl] at h
        cases h
      · rw [List.getElem?_set_ne (fun q => hk q.symm)] at h
        exact ⟨zg_some.mpr h, fun q => hk (by omega)⟩
    · rw [if_neg hz] at h
      refine ⟨zg_some.mpr h, fun q => hz ?_⟩
      have hk : j = k := by omega
      subst hk
      rw [List.getD_eq_getElem?_getD, h]
      simp [zc2, q.2]
theorem zlv.st1 {L : List Nat} {rls rls' : Array Slot} {n i : Nat} {ls : zLs} {v : Value} (h : zlv L rls n ls) (hi : i < n) (h' : lv_has rls' n ((i, zt L v) :: (zal L n ls).filter (fun q => !(q.1 == i) && !(q.1 + 1 == i && q.2.category == 2)))) : zlv L rls' n (zs1 ls i v) := by
  refine ⟨h'.1, h'.2.1, ?_, fun j w hj => ?_⟩
  · unfold zs1
    rw [List.length_set, zkl_len]
    exact h.2.2.1
  · have hj := zg_some.mp hj
    unfold zs1 at hj
    by_cases hji : j = i
    · subst hji
      rw [List.getElem?_set_self (by rw [zkl_len, h.2.2.1]; exact hi)] at hj
      cases hj
      exact h'.2.2 (j, zt L v) List.mem_cons_self
    · rw [List.getElem?_set_ne (fun q => hji q.symm)] at hj
      obtain ⟨h1, h2⟩ := zkl_at hj
      have hl := zg_lt h1
      refine h'.2.2 (j, zt L w) (List.mem_cons_of_mem _ (List.mem_filter.mpr ⟨zal_mem.mpr ⟨w, by rw [← h.2.2.1]; exact hl, h1, rfl⟩, ?_⟩))
      simp only [Bool.and_eq_true, Bool.not_eq_true', beq_eq_false_iff_ne, ne_eq, Bool.and_eq_false_iff, zt_cat]
      refine ⟨hji, ?_⟩
      by_cases hc : j + 1 = i
      · exact Or.inr (fun q => h2 ⟨hc, q⟩)
      · exact Or.inl hc
/-- a place is stored over, but not told -/
theorem zlv.st0 {L : List Nat} {rls rls' : Array Slot} {n i : Nat} {ls : zLs} {v : Value} (h : zlv L rls n ls) (hi : i < n) (h' : lv_has rls' n ((i, v) :: (zal L n ls).filter (fun q => !(q.1 == i) && !(q.1 + 1 == i && q.2.category == 2)))) : zlv L rls' n ((zkl ls i).set i none) := by
  refine ⟨h'.1, h'.2.1, ?_, fun j w hj => ?_⟩
  · rw [List.length_set, zkl_len]
    exact h.2.2.1
  · have hj := zg_some.mp hj
    by_cases hji : j = i
    · subst hji
      rw [List.getElem?_set_self (by rw [zkl_len, h.2.2.1]; exact hi)] at hj
      cases hj
    · rw [List.getElem?_set_ne (fun q => hji q.symm)] at hj
      obtain ⟨h1, h2⟩ := zkl_at hj
      have hl := zg_lt h1
      refine h'.2.2 (j, zt L w) (List.mem_cons_of_mem _ (List.mem_filter.mpr ⟨zal_mem.mpr ⟨w, by rw [← h.2.2.1]; exact hl, h1, rfl⟩, ?_⟩))
      simp only [Bool.and_eq_true, Bool.not_eq_true', beq_eq_false_iff_ne, ne_eq, Bool.and_eq_false_iff, zt_cat]
      refine ⟨hji, ?_⟩
      by_cases hc : j + 1 = i
      · exact Or.inr (fun q => h2 ⟨hc, q⟩)
      · exact Or.inl hc
theorem zlv.st2 {L : List Nat} {rls rls' : Array Slot} {n i : Nat} {ls : zLs} {v : Value} (h : zlv L rls n ls) (hi : i + 1 < n) (h' : lv_has rls' n ((i, zt L v) :: (zal L n ls).filter (fun q => !(q.1 == i) && (!(q.1 == i + 1) && !(q.1 + 1 == i && q.2.category == 2))))) : zlv L rls' n (zs2 ls i v) := by
  refine ⟨h'.1, h'.2.1, ?_, fun j w hj => ?_⟩
  · unfold zs2
    rw [List.length_set, List.length_set, zkl_len]
    exact h.2.2.1
  · have hj := zg_some.mp hj
    unfold zs2 at hj
    by_cases hj1 : j = i + 1
    · subst hj1
      rw [List.getElem?_set_self (by rw [List.length_set, zkl_len, h.2.2.1]; exact hi)] at hj
      cases hj
    · rw [List.getElem?_set_ne (fun q => hj1 q.symm)] at hj
      by_cases hji : j = i
      · subst hji
        rw [List.getElem?_set_self (by rw [zkl_len, h.2.2.1]; omega)] at hj
        cases hj
        exact h'.2.2 (j, zt L v) List.mem_cons_self
      · rw [List.getElem?_set_ne (fun q => hji q.symm)] at hj
        obtain ⟨h1, h2⟩ := zkl_at hj
        have hl := zg_lt h1
        refine h'.2.2 (j, zt L w) (List.mem_cons_of_mem _ (List.mem_filter.mpr ⟨zal_mem.mpr ⟨w, by rw [← h.2.2.1]; exact hl, h1, rfl⟩, ?_⟩))
        simp only [Bool.and_eq_true, Bool.not_eq_true', beq_eq_false_iff_ne, ne_eq, Bool.and_eq_false_iff, zt_cat]
        refine ⟨hji, hj1, ?_⟩
        by_cases hc : j + 1 = i
        · exact Or.inr (fun q => h2 ⟨hc, q⟩)
        · exact Or.inl hc
theorem zlv.app {L M : List Nat} {rls : Array Slot} {n : Nat} {ls : zLs} (h : zlv L rls n ls) (hv : ∀ i v, zg ls i = some v → zvk L.length v) : zlv (L ++ M) rls n ls := ⟨h.1, h.2.1, h.2.2.1, fun i v hi => by rw [zt_app (hv i v hi)]; exact h.2.2.2 i v hi⟩
/-- which locals are valid -/
def zlo (n : Nat) (ls : zLs) : Prop := ∀ (i : Nat) (v : Value), zg ls i = some v → zvk n v
def zso (n : Nat) (st : List Value) : Prop := ∀ v ∈ st, zvk n v
theorem zlo.st1 {n i : Nat} {ls : zLs} {v : Value} (h : zlo n ls) (hv : zvk n v) : zlo n (zs1 ls i v) := by
  intro j w hj
  have hj := zg_some.mp hj
  unfold zs1 at hj
  by_cases hji : j = i
  · subst hji
    rw [List.getElem?_set_self'] at hj
    cases hq : (zkl ls j)[j]? with
    | none => rw [hq] at hj; cases hj
    | some x => rw [hq] at hj; cases hj; exact hv
  · rw [List.getElem?_set_ne (fun q => hji q.symm)] at hj
    exact h j w (zkl_at hj).1
theorem zlo.st0 {n i : Nat} {ls : zLs} (h : zlo n ls) : zlo n ((zkl ls i).set i none) := by
  intro j w hj
  have hj := zg_some.mp hj
  by_cases hji : j = i
  · subst hji
    rw [List.getElem?_set_self'] at hj
    cases hq : (zkl ls j)[j]? with
    | none => rw [hq] at hj; cases hj
    | some x => rw [hq] at hj; cases hj
  · rw [List.getElem?_set_ne (fun q => hji q.symm)] at hj
    exact h j w (zkl_at hj).1
theorem zlo.st2 {n i : Nat} {ls : zLs} {v : Value} (h : zlo n ls) (hv : zvk n v) : zlo n (zs2 ls i v) := by
  intro j w hj
  have hj := zg_some.mp hj
  unfold zs2 at hj
  by_cases hj1 : j = i + 1
  · subst hj1
    rw [List.getElem?_set_self'] at hj
    cases hq : ((zkl ls i).set i (some v))[i + 1]? with
    | none => rw [hq] at hj; cases hj
    | some x => rw [hq] at hj; cases hj
  · rw [List.getElem?_set_ne (fun q => hj1 q.symm)] at hj
    exact (zlo.st1 (i := i) h hv) j w (zg_some.mpr (by unfold zs1; exact hj))
theorem zlo.mono {n k : Nat} {ls : zLs} (h : zlo n ls) (hn : n ≤ k) : zlo k ls := fun i v hi => zvk_mono (h i v hi) hn
theorem zso.mono {n k : Nat} {st : List Value} (h : zso n st) (hn : n ≤ k) : zso k st := fun v hv => zvk_mono (h v hv) hn
theorem zso.cons {n : Nat} {v : Value} {st : List Value} (hv : zvk n v) (h : zso n st) : zso n (v :: st) := fun w hw => (List.mem_cons.mp hw).elim (fun e => e ▸ hv) (h w)
theorem zso.tl {n : Nat} {v : Value} {st : List Value} (h : zso n (v :: st)) : zso n st := fun w hw => h w (List.mem_cons_of_mem _ hw)
theorem zso.hd {n : Nat} {v : Value} {st : List Value} (h : zso n (v :: st)) : zvk n v := h v List.mem_cons_self
/-- a method's first locals -/
theorem zent_at (L : List Nat) : ∀ (vs : List Value) (k i : Nat) (v : Value), (zent vs)[i]? = some (some v) → (k + i, zt L v) ∈ lv_args k (vs.map (zt L))
  | [], _, _, _, h => by cases h
  | w :: vs, k, i, v, h => by
    unfold zent at h
    rw [List.map_cons]
    unfold lv_args
    rw [zt_cat]
    by_cases hc : w.category = 2
    · rw [if_pos hc] at h
      rw [if_pos hc]
      match i, h with
      | 0, h => cases h; exact List.mem_cons_self
      | 1, h => cases h
      | i + 2, h =>
        have h := zent_at L vs (k + 2) i v h
        rw [show k + 2 + i = k + (i + 2) by omega] at h
        exact List.mem_cons_of_mem _ h
    · rw [if_neg hc] at h
      rw [if_neg hc]
      match i, h with
      | 0, h => cases h; exact List.mem_cons_self
      | i + 1, h =>
        have h := zent_at L vs (k + 1) i v h
        rw [show k + 1 + i = k + (i + 1) by omega] at h
        exact List.mem_cons_of_mem _ h
theorem zent_len (L : List Nat) : ∀ vs : List Value, (zent vs).length = (lg_sl (vs.map (zt L))).length
  | [] => rfl
  | v :: vs => by
    have ih := zent_len L vs
    unfold lg_sl at ih ⊢
    unfold zent
    rw [List.map_cons, List.flatMap_cons, List.length_append, ← ih, zt_cat]
    by_cases hc : v.category = 2
    · rw [if_pos hc, if_pos hc]
      simp
      omega
    · rw [if_neg hc, if_neg hc]
      simp
      omega
theorem zent_ok {n : Nat} : ∀ {vs : List Value}, zso n vs → ∀ (i : Nat) (v : Value), (zent vs)[i]? = some (some v) → zvk n v
  | [], _, _, _, h => by cases h
  | w :: vs, hs, i, v, h => by
    unfold zent at h
    by_cases hc : w.category = 2
    · rw [if_pos hc] at h
      match i, h with
      | 0, h => cases h; exact hs.hd
      | 1, h => cases h
      | i + 2, h => exact zent_ok hs.tl i v h
    · rw [if_neg hc] at h
      match i, h with
      | 0, h => cases h; exact hs.hd
      | i + 1, h => exact zent_ok hs.tl i v h
theorem zfst_at {vs : List Value} {n i : Nat} {v : Value} (h : zg (zfst vs n) i = some v) : (zent vs)[i]? = some (some v) := by
  have h := zg_some.mp h
  unfold zfst at h
  rcases Nat.lt_or_ge i (zent vs).length with q | q
  · rw [List.getElem?_append_left q] at h
    exact h
  · rw [List.getElem?_append_right q, List.getElem?_replicate] at h
    split at h <;> cases h
theorem zfst_ok {n k : Nat} {vs : List Value} (hs : zso n vs) : zlo n (zfst vs k) := fun i v h => zent_ok hs i v (zfst_at h)
theorem zfst_lv (L : List Nat) {vs : List Value} {n : Nat} (hn : (zent vs).length ≤ n) : zlv L ((lg_sl (vs.map (zt L)) ++ List.replicate (n - (lg_sl (vs.map (zt L))).length) Slot.unset).toArray) n (zfst vs n) := by
  have h := lv_entry (vs.map (zt L)) (n := n) (by rw [← zent_len]; exact hn)
  refine ⟨h.1, h.2.1, ?_, fun i v hi => ?_⟩
  · unfold zfst
    rw [List.length_append, List.length_replicate]
    omega
  · have h2 := zent_at L vs 0 i v (zfst_at hi)
    rw [Nat.zero_add] at h2
    exact h.2.2 (i, zt L v) h2
end
section
/-! the world: the cells of the interpreter in the heap -/
def ze (ft : Nat → List FieldType) (cA : Nat → ClassId) (L : List Nat) (σ : zS) (p : Nat) : va_E := match σ.1.getD p (0, 0) with
  | (k, n) => if k < 100 then .inr (k, (List.range (ft k).length).map (fun j => zt L (zfv ((ft k).getD j .int) σ p j)))
    else if k < 103 then .inl (cA (k - 100), n, .inl (σ.2.1 p))
    else .inl (cA (k - 100), n, .inr (.inr (.inr (.inr (fun j => (σ.2.2.1 p j).map (fun q => L.getD q 0))))))
/-- the cells from place mo on are the world's; those ahead of it were there before -/
def zw (ft : Nat → List FieldType) (cA : Nat → ClassId) (mo : Nat) (L : List Nat) (σ : zS) : va_W := (List.range (σ.1.length - mo)).map (fun j => (L.getD (mo + j) 0, ze ft cA L σ (mo + j)))
def zVH (σ : zS) : Prop := ∀ p f q : Nat, σ.2.2.1 p f = some q → q < σ.1.length
section ZWLD
variable {ft : Nat → List FieldType} {cA : Nat → ClassId} {mo : Nat} {L : List Nat} {σ : zS}
theorem zw_len : (zw ft cA mo L σ).length = σ.1.length - mo := by unfold zw; rw [List.length_map, List.length_range]
theorem zw_at {p : Nat} (h : mo ≤ p) (hp : p < σ.1.length) : (zw ft cA mo L σ)[p - mo]? = some (L.getD p 0, ze ft cA L σ p) := by
  unfold zw
  rw [List.getElem?_map, List.getElem?_range (by omega)]
  show some (L.getD (mo + (p - mo)) 0, ze ft cA L σ (mo + (p - mo))) = some _
  rw [show mo + (p - mo) = p by omega]
theorem ze_obj {p k n : Nat} (h : σ.1[p]? = some (k, n)) (hk : k < 100) : ze ft cA L σ p = .inr (k, (List.range (ft k).length).map (fun j => zt L (zfv ((ft k).getD j .int) σ p j))) := by
  unfold ze
  rw [List.getD_eq_getElem?_getD, h]
  show (if k < 100 then _ else _) = _
  rw [if_pos hk]
theorem ze_int {p k n : Nat} (h : σ.1[p]? = some (k, n)) (hk : 100 ≤ k) (hk2 : k < 103) : ze ft cA L σ p = .inl (cA (k - 100), n, .inl (σ.2.1 p)) := by
  unfold ze
  rw [List.getD_eq_getElem?_getD, h]
  show (if k < 100 then _ else _) = _
  rw [if_neg (by omega), if_pos hk2]
theorem ze_ref {p k n : Nat} (h : σ.1[p]? = some (k, n)) (hk : 103 ≤ k) : ze ft cA L σ p = .inl (cA (k - 100), n, .inr (.inr (.inr (.inr (fun j => (σ.2.2.1 p j).map (fun q => L.getD q 0)))))) := by
  unfold ze
  rw [List.getD_eq_getElem?_getD, h]
  show (if k < 100 then _ else _) = _
  rw [if_neg (by omega), if_neg (by omega)]
/-- another state of the same kinds whose cells are those, but one -/
theorem zw_set {σ' : zS} {p : Nat} {e : va_E} (hK : σ'.1 = σ.1) (h : mo ≤ p) (hp : p < σ.1.length) (he : ze ft cA L σ' p = e) (ho : ∀ q, q ≠ p → ze ft cA L σ' q = ze ft cA L σ q) : (zw ft cA mo L σ).set (p - mo) (L.getD p 0, e) = zw ft cA mo L σ' := by
  refine List.ext_getElem? fun i => ?_
  by_cases hi : i < σ.1.length - mo
  · have h2 : (zw ft cA mo L σ')[i]? = some (L.getD (mo + i) 0, ze ft cA L σ' (mo + i)) := by
      have h3 := zw_at (ft := ft) (cA := cA) (mo := mo) (L := L) (σ := σ') (p := mo + i) (by omega) (by rw [hK]; omega)
      rw [show mo + i - mo = i by omega] at h3
      exact h3
    rw [h2]
    by_cases hip : i = p - mo
    · subst hip
      rw [List.getElem?_set_self (by rw [zw_len]; exact hi), show mo + (p - mo) = p by omega, he]
    · rw [List.getElem?_set_ne (fun q => hip q.symm)]
      have h3 := zw_at (ft := ft) (cA := cA) (mo := mo) (L := L) (σ := σ) (p := mo + i) (by omega) (by omega)
      rw [show mo + i - mo = i by omega] at h3
      rw [h3, ho (mo + i) (by omega)]
  · rw [List.getElem?_eq_none (by rw [List.length_set, zw_len]; omega), List.getElem?_eq_none (by rw [zw_len, hK]; omega)]
theorem ze_app {σ' : zS} {M : List Nat} {p : Nat} (hV : zVH σ) (hL : L.length = σ.1.length) (hp : p < σ.1.length) (hK : σ'.1[p]? = σ.1[p]?) (h1 : σ'.2.1 p = σ.2.1 p) (h2 : σ'.2.2.1 p = σ.2.2.1 p) (h3 : σ'.2.2.2.1 p = σ.2.2.2.1 p) : ze ft cA (L ++ M) σ' p = ze ft cA L σ p := by
  have hget : ∀ q j, σ.2.2.1 p j = some q → (L ++ M).getD q 0 = L.getD q 0 := fun q j hq => by
    have := hV p j q hq
    rw [List.getD_eq_getElem?_getD, List.getD_eq_getElem?_getD, List.getElem?_append_left (by omega)]
  have hfv : ∀ (ty : FieldType) (j : Nat), zt (L ++ M) (zfv ty σ' p j) = zt L (zfv ty σ p j) := by
    intro ty j
    have hr : zt (L ++ M) (va_rf (σ.2.2.1 p j)) = zt L (va_rf (σ.2.2.1 p j)) := by
      cases hq : σ.2.2.1 p j with
      | none => rfl
      | some q => show Value.ref _ = Value.ref _; rw [hget q j hq]
    cases ty <;> simp only [zfv, h1, h2, h3, hr] <;> rfl
  obtain ⟨k, n, hkn⟩ : ∃ k n, σ.1[p]? = some (k, n) := ⟨(σ.1[p]'hp).1, (σ.1[p]'hp).2, List.getElem?_eq_getElem hp⟩
  rw [hkn] at hK
  by_cases hk : k < 100
  · rw [ze_obj hkn hk, ze_obj hK hk]
    simp only [hfv]
  · by_cases hk2 : k < 103
    · rw [ze_int hkn (by omega) hk2, ze_int hK (by omega) hk2, h1]
    · rw [ze_ref hkn (by omega), ze_ref hK (by omega), h2]
      refine congrArg (fun z => Sum.inl (cA (k - 100), n, Sum.inr (Sum.inr (Sum.inr (Sum.inr z))))) (funext fun j => ?_)
      cases hq : σ.2.2.1 p j with
      | none => rfl
      | some q => show some ((L ++ M).getD q 0) = some (L.getD q 0); rw [hget q j hq]
/-- a cell more -/
theorem zw_push {σ' : zS} {a : Nat} {kn : Nat × Nat} {e : va_E} (hmo : mo ≤ σ.1.length) (hV : zVH σ) (hL : L.length = σ.1.length) (hK : σ'.1 = σ.1 ++ [kn]) (ho : ∀ q, q < σ.1.length → σ'.2.1 q = σ.2.1 q ∧ σ'.2.2.1 q = σ.2.2.1 q ∧ σ'.2.2.2.1 q = σ.2.2.2.1 q) (he : ze ft cA (L ++ [a]) σ' σ.1.length = e) : zw ft cA mo L σ ++ [(a, e)] = zw ft cA mo (L ++ [a]) σ' := by
  have hl' : σ'.1.length = σ.1.length + 1 := by rw [hK, List.length_append]; rfl
  refine List.ext_getElem? fun i => ?_
  by_cases hi : i < σ'.1.length - mo
  · have h2 : (zw ft cA mo (L ++ [a]) σ')[i]? = some ((L ++ [a]).getD (mo + i) 0, ze ft cA (L ++ [a]) σ' (mo + i)) := by
      have h3 := zw_at (ft := ft) (cA := cA) (mo := mo) (L := L ++ [a]) (σ := σ') (p := mo + i) (by omega) (by omega)
      rw [show mo + i - mo = i by omega] at h3
      exact h3
    rw [h2]
    by_cases hip : i < σ.1.length - mo
    · have h3 := zw_at (ft := ft) (cA := cA) (mo := mo) (L := L) (σ := σ) (p := mo + i) (by omega) (by omega)
      rw [show mo + i - mo = i by omega] at h3
      obtain ⟨o1, o2, o3⟩ := ho (mo + i) (by omega)
      rw [List.getElem?_append_left (by rw [zw_len]; exact hip), h3, ze_app hV hL (by omega) (by rw [hK, List.getElem?_append_left (by omega)]) o1 o2 o3]
      rw [List.getD_eq_getElem?_getD, List.getD_eq_getElem?_getD, List.getElem?_append_left (by omega)]
    · have hi2 : mo + i = σ.1.length := by omega
      have hi3 : i = (zw ft cA mo L σ).length := by rw [zw_len]; omega
      have hA : (L ++ [a]).getD σ.1.length 0 = a := by rw [← hL, List.getD_eq_getElem?_getD, List.getElem?_append_right (Nat.le_refl _), Nat.sub_self]; rfl
      rw [hi2, he, hA, hi3, List.getElem?_append_right (Nat.le_refl _), Nat.sub_self]
      rfl
  · rw [List.getElem?_eq_none (by rw [List.length_append, zw_len]; simp; omega), List.getElem?_eq_none (by rw [zw_len]; omega)]
theorem zup_ne {α : Type} {h : Nat → Nat → α} {p f : Nat} {v : α} {q : Nat} (hq : q ≠ p) : zup h p f v q = h q := funext fun j => if_neg fun z => hq z.1
theorem zup_at {α : Type} {h : Nat → Nat → α} {p f : Nat} {v : α} : zup h p f v p f = v := if_pos ⟨rfl, rfl⟩
theorem zup_in {α : Type} {h : Nat → Nat → α} {p f : Nat} {v : α} {j : Nat} (hj : j ≠ f) : zup h p f v p j = h p j := if_neg fun z => hj z.2
theorem zupR_ne {α : Type} {h : Nat → Nat → α} {p : Nat} {v : Nat → α} {q : Nat} (hq : q ≠ p) : zupR h p v q = h q := if_neg hq
theorem zupR_at {α : Type} {h : Nat → Nat → α} {p : Nat} {v : Nat → α} : zupR h p v p = v := if_pos rfl
/-- cells that are not written stay -/
theorem ze_same {σ' : zS} {p : Nat} (hK : σ'.1[p]? = σ.1[p]?) (h1 : σ'.2.1 p = σ.2.1 p) (h2 : σ'.2.2.1 p = σ.2.2.1 p) (h3 : σ'.2.2.2.1 p = σ.2.2.2.1 p) : ze ft cA L σ' p = ze ft cA L σ p := by
  have hfv : ∀ (ty : FieldType) (j : Nat), zfv ty σ' p j = zfv ty σ p j := by
    intro ty j
    cases ty <;> simp only [zfv, h1, h2, h3]
  unfold ze
  rw [List.getD_eq_getElem?_getD, List.getD_eq_getElem?_getD, hK]
  simp only [hfv, h1, h2]
theorem zVH.int {h : Nat → Nat → Int32} {hl : Nat → Nat → Int64} {nc ns : Nat} (hV : zVH σ) : zVH (σ.1, h, σ.2.2.1, hl, nc, ns) := hV
theorem zVH.put {p f q : Nat} (hV : zVH σ) (hq : q < σ.1.length) : zVH (σ.1, σ.2.1, zup σ.2.2.1 p f (some q), σ.2.2.2) := by
  intro a j x hx
  have hx : zup σ.2.2.1 p f (some q) a j = some x := hx
  show x < σ.1.length
  by_cases hz : a = p ∧ j = f
  · obtain ⟨rfl, rfl⟩ := hz
    rw [zup_at] at hx
    cases hx
    exact hq
  · unfold zup at hx
    rw [if_neg hz] at hx
    exact hV a j x hx
theorem zVH.putN {p f : Nat} (hV : zVH σ) : zVH (σ.1, σ.2.1, zup σ.2.2.1 p f none, σ.2.2.2) := by
  intro a j x hx
  have hx : zup σ.2.2.1 p f none a j = some x := hx
  show x < σ.1.length
  by_cases hz : a = p ∧ j = f
  · obtain ⟨rfl, rfl⟩ := hz
    rw [zup_at] at hx
    cases hx
  · unfold zup at hx
    rw [if_neg hz] at hx
    exact hV a j x hx
theorem zVH.new {k n : Nat} (hV : zVH σ) : zVH (znw σ k n) := by
  intro a j x hx
  have hx : zupR σ.2.2.1 σ.1.length (fun _ => none) a j = some x := hx
  show x < (σ.1 ++ [(k, n)]).length
  rw [List.length_append]
  by_cases hz : a = σ.1.length
  · subst hz
    rw [zupR_at] at hx
    cases hx
  · rw [zupR_ne hz] at hx
    have := hV a j x hx
    simp
    omega
theorem zfv_ok {ty : FieldType} {p f : Nat} (hV : zVH σ) : zvk σ.1.length (zfv ty σ p f) := by
  have h : zvk σ.1.length (va_rf (σ.2.2.1 p f)) := by
    cases hq : σ.2.2.1 p f with
    | none => trivial
    | some q => exact hV p f q hq
  cases ty <;> first | exact h | trivial
end ZWLD
end
section
/-! one instruction of the interpreter is one of the machine -/
/-- a method's activation: the machine's part, the tables', the world's, the code's -/
abbrev zX : Type := (Program × Launch × Env × Room × State × MethodId × Array Value × List Frame × Method × Code × (State → Prop)) × (va_G × List vw_C × (Nat → List FieldType) × (Nat → ClassId)) × (Nat × Nat × Nat × Nat × (Nat → Prop) × List Nat × ((Nat → Nat → Int32) × (Nat → Nat))) × (ByteArray × String × List Cond)
abbrev xp (X : zX) : Program := X.1.1
abbrev xl (X : zX) : Launch := X.1.2.1
abbrev xe (X : zX) : Env := X.1.2.2.1
abbrev xR (X : zX) : Room := X.1.2.2.2.1
abbrev xs (X : zX) : State := X.1.2.2.2.2.1
abbrev xm (X : zX) : MethodId := X.1.2.2.2.2.2.1
abbrev xa (X : zX) : Array Value := X.1.2.2.2.2.2.2.1
abbrev xb (X : zX) : List Frame := X.1.2.2.2.2.2.2.2.1
abbrev xme (X : zX) : Method := X.1.2.2.2.2.2.2.2.2.1
abbrev xc (X : zX) : Code := X.1.2.2.2.2.2.2.2.2.2.1
abbrev xQ (X : zX) : State → Prop := X.1.2.2.2.2.2.2.2.2.2.2
abbrev xD (X : zX) : va_G := X.2.1.1
abbrev xcl (X : zX) : List vw_C := X.2.1.2.1
abbrev xft (X : zX) : Nat → List FieldType := X.2.1.2.2.1
abbrev xcA (X : zX) : Nat → ClassId := X.2.1.2.2.2
abbrev xmo (X : zX) : Nat := X.2.2.1.1
abbrev xnL (X : zX) : Nat := X.2.2.1.2.1
abbrev xnc (X : zX) : Nat := X.2.2.1.2.2.1
abbrev xns (X : zX) : Nat := X.2.2.1.2.2.2.1
abbrev xA (X : zX) : Nat → Prop := X.2.2.1.2.2.2.2.1
abbrev xL0 (X : zX) : List Nat := X.2.2.1.2.2.2.2.2.1
/-- what the cells hold that nobody writes, and how many places they have -/
abbrev xRO (X : zX) : (Nat → Nat → Int32) × (Nat → Nat) := X.2.2.1.2.2.2.2.2.2
abbrev xcc (X : zX) : ByteArray := X.2.2.2.1
abbrev xown (X : zX) : String := X.2.2.2.2.1
abbrev xTs (X : zX) : List Cond := X.2.2.2.2.2
def zWX (X : zX) (H : Heap) (locs : List Loc) (cells slots : Nat) (g : JFrame) : Prop := W (xp X) (xl X) (xe X) (xR X) (xs X) (xm X) (xa X) (xb X) (xme X) (xc X) H locs cells slots (xQ X) g
abbrev znc (σ : zS) : Nat := σ.2.2.2.2.1
abbrev zns (σ : zS) : Nat := σ.2.2.2.2.2
def zAC (k : Nat) : String := if k = 103 then "Siegelines$Gun" else if k = 104 then "Siegelines$Company" else "Siegelines$Mine"
def zty1 : FieldType → Bool
  | .int => true
  | .boolean => true
  | .long => true
  | .object _ => true
  | .array _ => true
  | _ => false
def zTys (cA : Nat → ClassId) : List (ClassId × FieldType) := [(cA 0, .int), (cA 3, .object (zAC 103)), (cA 4, .object (zAC 104)), (cA 5, .object (zAC 105))]
def zCls (cl : List vw_C) (ft : Nat → List FieldType) (Ts : List Cond) : Prop := ∀ (k : Nat) (C : String) (T : u_T) (N : Nat), cl[k]? = some (C, T, N) → k < 100 ∧ N = (ft k).length ∧ (∀ w ∈ u_ws C T N, w ∈ Ts) ∧ (∀ j, j < N → parseFieldDescriptor (T j).2.2.1 = some ((ft k).getD j .int) ∧ zty1 ((ft k).getD j .int) = true) ∧ (∀ a, a < N → ∀ b, b < N → a ≠ b → (T a).2.1 ≠ (T b).2.1) ∧ Cond.instantiable C N ∈ Ts ∧ Cond.initialized C ∈ Ts
def zFix (X : zX) : Prop := (xp X).tables.exec = Jvm.exec ∧ (xc X).code = xcc X ∧ (xc X).maxLocals = xnL X ∧ (xs X).vm.findClass (xown X) = some (xm X).cls ∧ (∀ w ∈ xTs X, w.before (xa X) (xs X) = true) ∧ va_K (xD X) (xcl X) (zTys (xcA X)) (xs X) ∧ (∀ q, (xs X).heap.size ≤ q → xA X q) ∧ zCls (xcl X) (xft X) (xTs X) ∧ (∀ p, p < xmo X → va_X ((xL0 X).getD p 0) ((xRO X).2 p) ((xRO X).1 p) (xs X) (xs X).heap ∧ (xL0 X).getD p 0 < (xs X).heap.size ∧ ¬ xA X ((xL0 X).getD p 0))
def zKi (mo : Nat) (K : zK) : Prop := mo ≤ K.length ∧ ∀ p k n, K[p]? = some (k, n) → (k = 200 ↔ p < mo)
def zRel (X : zX) (L : List Nat) (σ : zS) (H : Heap) (locs : List Loc) : Prop := xL0 X <+: L ∧ L.length = σ.1.length ∧ xmo X ≤ (xL0 X).length ∧ zVH σ ∧ zKi (xmo X) σ.1 ∧ va_P (xD X) (xcl X) (zw (xft X) (xcA X) (xmo X) L σ) H ∧ va_D (xA X) (zw (xft X) (xcA X) (xmo X) L σ) ∧ va_S (xA X) (xs X).heap H locs ∧ (∀ p, p < xmo X → σ.2.1 p = (xRO X).1 p ∧ σ.1[p]? = some (200, (xRO X).2 p)) ∧ xnc X ≤ znc σ ∧ xns X ≤ zns σ
/-- from this point of the interpreter's the machine comes to the method's end -/
def zC (X : zX) (pc : Nat) (ls : zLs) (st : List Value) (σ : zS) : Prop := ∀ (L : List Nat) (rls : Array Slot) (H : Heap) (locs : List Loc), zRel X L σ H locs → zlv L rls (xnL X) ls → zlo L.length ls → zso L.length st → zWX X H locs (znc σ - xnc X) (zns σ - xns X) (F0 (xm X) pc rls (st.map (zt L)))
theorem zin_in {i : Int32} {n : Nat} (h : zin i n = true) : vp_in i n := by
  unfold zin at h
  unfold vp_in
  exact of_decide_eq_true h
section ZSTEP
variable {X : zX} {pc : Nat} {ls : zLs} {st : List Value} {σ : zS}
theorem zs_iload (F : zFix X) {k : Nat} {x : Int32} (d : decode (xcc X) pc = .ok (.iload k, 2)) (hg : zg ls k = some (.int x)) (K : zC X (pc + 2) ls (.int x :: st) σ) : zC X pc ls st σ := fun L rls H locs h1 h2 h3 h4 => lv_iload F.1 F.2.1 d (h2.2.2.2 _ _ hg) (K L rls H locs h1 h2 h3 (h4.cons trivial))
theorem zs_iload_n (F : zFix X) {k : Fin 4} {x : Int32} (d : decode (xcc X) pc = .ok (.iload_n k, 1)) (hg : zg ls k = some (.int x)) (K : zC X (pc + 1) ls (.int x :: st) σ) : zC X pc ls st σ := fun L rls H locs h1 h2 h3 h4 => lv_iload_n F.1 F.2.1 d rfl (h2.2.2.2 _ _ hg) (K L rls H locs h1 h2 h3 (h4.cons trivial))
theorem zs_lload (F : zFix X) {k : Nat} {x : Int64} (d : decode (xcc X) pc = .ok (.lload k, 2)) (hg : zg ls k = some (.long x)) (K : zC X (pc + 2) ls (.long x :: st) σ) : zC X pc ls st σ := fun L rls H locs h1 h2 h3 h4 => lv_lload F.1 F.2.1 d (h2.2.2.2 _ _ hg) (K L rls H locs h1 h2 h3 (h4.cons trivial))
theorem zs_lload_n (F : zFix X) {k : Fin 4} {x : Int64} (d : decode (xcc X) pc = .ok (.lload_n k, 1)) (hg : zg ls k = some (.long x)) (K : zC X (pc + 1) ls (.long x :: st) σ) : zC X pc ls st σ := fun L rls H locs h1 h2 h3 h4 => lv_lload_n F.1 F.2.1 d rfl (h2.2.2.2 _ _ hg) (K L rls H locs h1 h2 h3 (h4.cons trivial))
theorem zs_aload (F : zFix X) {k : Nat} {x : Nat} (d : decode (xcc X) pc = .ok (.aload k, 2)) (hg : zg ls k = some (.ref x)) (K : zC X (pc + 2) ls (.ref x :: st) σ) : zC X pc ls st σ := fun L rls H locs h1 h2 h3 h4 => lv_aload F.1 F.2.1 d (h2.2.2.2 _ _ hg) (K L rls H locs h1 h2 h3 (h4.cons (h3 _ _ hg)))
theorem zs_aload_n (F : zFix X) {k : Fin 4} {x : Nat} (d : decode (xcc X) pc = .ok (.aload_n k, 1)) (hg : zg ls k = some (.ref x)) (K : zC X (pc + 1) ls (.ref x :: st) σ) : zC X pc ls st σ := fun L rls H locs h1 h2 h3 h4 => lv_aload_n F.1 F.2.1 d rfl (h2.2.2.2 _ _ hg) (K L rls H locs h1 h2 h3 (h4.cons (h3 _ _ hg)))
theorem zs_aloadN (F : zFix X) {k : Nat} (d : decode (xcc X) pc = .ok (.aload k, 2)) (hg : zg ls k = some .null) (K : zC X (pc + 2) ls (.null :: st) σ) : zC X pc ls st σ := fun L rls H locs h1 h2 h3 h4 => lv_aloadN F.1 F.2.1 d (h2.2.2.2 _ _ hg) (K L rls H locs h1 h2 h3 (h4.cons trivial))
theorem zs_aload_nN (F : zFix X) {k : Fin 4} (d : decode (xcc X) pc = .ok (.aload_n k, 1)) (hg : zg ls k = some .null) (K : zC X (pc + 1) ls (.null :: st) σ) : zC X pc ls st σ := fun L rls H locs h1 h2 h3 h4 => lv_aload_nN F.1 F.2.1 d rfl (h2.2.2.2 _ _ hg) (K L rls H locs h1 h2 h3 (h4.cons trivial))
theorem zs_istore (F : zFix X) {k : Nat} {x : Int32} (d : decode (xcc X) pc = .ok (.istore k, 2)) (hk : k < ls.length) (K : zC X (pc + 2) (zs1 ls k (.int x)) st σ) : zC X pc ls (.int x :: st) σ := fun L rls H locs h1 h2 h3 h4 => lv_istore F.1 F.2.1 d h2.has (by rw [← h2.2.2.1]; exact hk) rfl fun rls' h' => K L rls' H locs h1 (h2.st1 (v := .int x) (by rw [← h2.2.2.1]; exact hk) h') (h3.st1 trivial) h4.tl
theorem zs_istore_n (F : zFix X) {k : Fin 4} {x : Int32} (d : decode (xcc X) pc = .ok (.istore_n k, 1)) (hk : (k : Nat) < ls.length) (K : zC X (pc + 1) (zs1 ls k (.int x)) st σ) : zC X pc ls (.int x :: st) σ := fun L rls H locs h1 h2 h3 h4 => lv_istore_n F.1 F.2.1 d rfl h2.has (by rw [← h2.2.2.1]; exact hk) rfl fun rls' h' => K L rls' H locs h1 (h2.st1 (v := .int x) (by rw [← h2.2.2.1]; exact hk) h') (h3.st1 trivial) h4.tl
theorem zs_lstore (F : zFix X) {k : Nat} {x : Int64} (d : decode (xcc X) pc = .ok (.lstore k, 2)) (hk : k + 1 < ls.length) (K : zC X (pc + 2) (zs2 ls k (.long x)) st σ) : zC X pc ls (.long x :: st) σ := fun L rls H locs h1 h2 h3 h4 => lv_lstore F.1 F.2.1 d h2.has (by rw [← h2.2.2.1]; exact hk) rfl fun rls' h' => K L rls' H locs h1 (h2.st2 (v := .long x) (by rw [← h2.2.2.1]; exact hk) h') (h3.st2 trivial) h4.tl
theorem zs_lstore_n (F : zFix X) {k : Fin 4} {x : Int64} (d : decode (xcc X) pc = .ok (.lstore_n k, 1)) (hk : (k : Nat) + 1 < ls.length) (K : zC X (pc + 1) (zs2 ls k (.long x)) st σ) : zC X pc ls (.long x :: st) σ := fun L rls H locs h1 h2 h3 h4 => lv_lstore_n F.1 F.2.1 d rfl h2.has (by rw [← h2.2.2.1]; exact hk) rfl fun rls' h' => K L rls' H locs h1 (h2.st2 (v := .long x) (by rw [← h2.2.2.1]; exact hk) h') (h3.st2 trivial) h4.tl
theorem zs_astore (F : zFix X) {k : Nat} {x : Nat} (d : decode (xcc X) pc = .ok (.astore k, 2)) (hk : k < ls.length) (K : zC X (pc + 2) (zs1 ls k (.ref x)) st σ) : zC X pc ls (.ref x :: st) σ := fun L rls H locs h1 h2 h3 h4 => lv_astore F.1 F.2.1 d h2.has (by rw [← h2.2.2.1]; exact hk) rfl fun rls' h' => K L rls' H locs h1 (h2.st1 (v := .ref x) (by rw [← h2.2.2.1]; exact hk) h') (h3.st1 h4.hd) h4.tl
theorem zs_astore_n (F : zFix X) {k : Fin 4} {x : Nat} (d : decode (xcc X) pc = .ok (.astore_n k, 1)) (hk : (k : Nat) < ls.length) (K : zC X (pc + 1) (zs1 ls k (.ref x)) st σ) : zC X pc ls (.ref x :: st) σ := fun L rls H locs h1 h2 h3 h4 => lv_astore_n F.1 F.2.1 d rfl h2.has (by rw [← h2.2.2.1]; exact hk) rfl fun rls' h' => K L rls' H locs h1 (h2.st1 (v := .ref x) (by rw [← h2.2.2.1]; exact hk) h') (h3.st1 h4.hd) h4.tl
theorem zs_astoreN (F : zFix X) {k : Nat} (d : decode (xcc X) pc = .ok (.astore k, 2)) (hk : k < ls.length) (K : zC X (pc + 2) (zs1 ls k .null) st σ) : zC X pc ls (.null :: st) σ := fun L rls H locs h1 h2 h3 h4 => lv_astoreN F.1 F.2.1 d h2.has (by rw [← h2.2.2.1]; exact hk) rfl fun rls' h' => K L rls' H locs h1 (h2.st1 (v := .null) (by rw [← h2.2.2.1]; exact hk) h') (h3.st1 trivial) h4.tl
theorem zs_astore_nN (F : zFix X) {k : Fin 4} (d : decode (xcc X) pc = .ok (.astore_n k, 1)) (hk : (k : Nat) < ls.length) (K : zC X (pc + 1) (zs1 ls k .null) st σ) : zC X pc ls (.null :: st) σ := fun L rls H locs h1 h2 h3 h4 => lv_astore_nN F.1 F.2.1 d rfl h2.has (by rw [← h2.2.2.1]; exact hk) rfl fun rls' h' => K L rls' H locs h1 (h2.st1 (v := .null) (by rw [← h2.2.2.1]; exact hk) h') (h3.st1 trivial) h4.tl
theorem zs_iinc (F : zFix X) {k : Nat} {n : Int} {x : Int32} (d : decode (xcc X) pc = .ok (.iinc k n, 3)) (hk : k < ls.length) (hg : zg ls k = some (.int x)) (K : zC X (pc + 3) (zs1 ls k (.int (x + Int32.ofInt n))) st σ) : zC X pc ls st σ := by
  intro L rls H locs h1 h2 h3 h4
  obtain ⟨j, hj⟩ := List.getElem?_of_mem ((zal_mem (L := L) (n := xnL X) (ls := ls) (q := (k, .int x))).mpr ⟨.int x, by rw [← h2.2.2.1]; exact hk, hg, rfl⟩)
  exact lv_iinc F.1 F.2.1 d h2.has (k := j) hj rfl (by rw [← h2.2.2.1]; exact hk) rfl fun rls' h' => K L rls' H locs h1 (h2.st1 (v := .int (x + Int32.ofInt n)) (by rw [← h2.2.2.1]; exact hk) h') (h3.st1 trivial) h4
theorem zs_iconst (F : zFix X) {n : Int} (d : decode (xcc X) pc = .ok (.iconst n, 1)) (K : zC X (pc + 1) ls (.int (Int32.ofInt n) :: st) σ) : zC X pc ls st σ := fun L rls H locs h1 h2 h3 h4 => lv_iconst F.1 F.2.1 d rfl (K L rls H locs h1 h2 h3 (h4.cons trivial))
theorem zs_bipush (F : zFix X) {n : Int} (d : decode (xcc X) pc = .ok (.bipush n, 2)) (K : zC X (pc + 2) ls (.int (Int8.ofInt n).toInt32 :: st) σ) : zC X pc ls st σ := fun L rls H locs h1 h2 h3 h4 => lv_bipush F.1 F.2.1 d rfl (K L rls H locs h1 h2 h3 (h4.cons trivial))
theorem zs_sipush (F : zFix X) {n : Int} (d : decode (xcc X) pc = .ok (.sipush n, 3)) (K : zC X (pc + 3) ls (.int (Int16.ofInt n).toInt32 :: st) σ) : zC X pc ls st σ := fun L rls H locs h1 h2 h3 h4 => lv_sipush F.1 F.2.1 d rfl (K L rls H locs h1 h2 h3 (h4.cons trivial))
theorem zs_lconst (F : zFix X) {n : Fin 2} (d : decode (xcc X) pc = .ok (.lconst n, 1)) (K : zC X (pc + 1) ls (.long (Int64.ofNat n) :: st) σ) : zC X pc ls st σ := fun L rls H locs h1 h2 h3 h4 => lv_lconst F.1 F.2.1 d rfl (K L rls H locs h1 h2 h3 (h4.cons trivial))
theorem zs_ldc (F : zFix X) {i : Nat} {v : Int32} (hw : Cond.constant (xown X) i v ∈ xTs X) (d : decode (xcc X) pc = .ok (.ldc i, 2)) (K : zC X (pc + 2) ls (.int v :: st) σ) : zC X pc ls st σ := fun L rls H locs h1 h2 h3 h4 => lv_ldc F.1 F.2.1 F.2.2.2.1 (F.2.2.2.2.1 _ hw) d (K L rls H locs h1 h2 h3 (h4.cons trivial))
theorem zs_ldc2 (F : zFix X) {i : Nat} {v : Int64} (hw : Cond.constantLong (xown X) i v ∈ xTs X) (d : decode (xcc X) pc = .ok (.ldc2_w i, 3)) (K : zC X (pc + 3) ls (.long v :: st) σ) : zC X pc ls st σ := fun L rls H locs h1 h2 h3 h4 => lv_ldc2 F.1 F.2.1 F.2.2.2.1 (F.2.2.2.2.1 _ hw) d (K L rls H locs h1 h2 h3 (h4.cons trivial))
theorem zs_null (F : zFix X) (d : decode (xcc X) pc = .ok (.aconst_null, 1)) (K : zC X (pc + 1) ls (.null :: st) σ) : zC X pc ls st σ := fun L rls H locs h1 h2 h3 h4 => lv_null F.1 F.2.1 d (K L rls H locs h1 h2 h3 (h4.cons trivial))
theorem zs_pop (F : zFix X) {v : Value} (hv : v.category = 1) (d : decode (xcc X) pc = .ok (.pop, 1)) (K : zC X (pc + 1) ls st σ) : zC X pc ls (v :: st) σ := fun L rls H locs h1 h2 h3 h4 => lv_pop F.1 F.2.1 d (by rw [zt_cat]; exact hv) (K L rls H locs h1 h2 h3 h4.tl)
theorem zs_dup (F : zFix X) {v : Value} (hv : v.category = 1) (d : decode (xcc X) pc = .ok (.dup, 1)) (K : zC X (pc + 1) ls (v :: v :: st) σ) : zC X pc ls (v :: st) σ := fun L rls H locs h1 h2 h3 h4 => lv_dup F.1 F.2.1 d (by rw [zt_cat]; exact hv) (K L rls H locs h1 h2 h3 (h4.cons h4.hd))
theorem zs_dup2 (F : zFix X) {v w : Value} (hv : v.category = 1) (hw : w.category = 1) (d : decode (xcc X) pc = .ok (.dup2, 1)) (K : zC X (pc + 1) ls (v :: w :: v :: w :: st) σ) : zC X pc ls (v :: w :: st) σ := fun L rls H locs h1 h2 h3 h4 => lv_dup2_11 F.1 F.2.1 d (by rw [zt_cat]; exact hv) (by rw [zt_cat]; exact hw) (K L rls H locs h1 h2 h3 ((h4.cons h4.tl.hd).cons h4.hd))
theorem zs_iadd (F : zFix X) {a b : Int32} (d : decode (xcc X) pc = .ok (.iadd, 1)) (K : zC X (pc + 1) ls (.int (a + b) :: st) σ) : zC X pc ls (.int b :: .int a :: st) σ := fun L rls H locs h1 h2 h3 h4 => lv_iadd F.1 F.2.1 d (K L rls H locs h1 h2 h3 (h4.tl.tl.cons trivial))
theorem zs_isub (F : zFix X) {a b : Int32} (d : decode (xcc X) pc = .ok (.isub, 1)) (K : zC X (pc + 1) ls (.int (a - b) :: st) σ) : zC X pc ls (.int b :: .int a :: st) σ := fun L rls H locs h1 h2 h3 h4 => lv_isub F.1 F.2.1 d (K L rls H locs h1 h2 h3 (h4.tl.tl.cons trivial))
theorem zs_imul (F : zFix X) {a b : Int32} (d : decode (xcc X) pc = .ok (.imul, 1)) (K : zC X (pc + 1) ls (.int (a * b) :: st) σ) : zC X pc ls (.int b :: .int a :: st) σ := fun L rls H locs h1 h2 h3 h4 => lv_imul F.1 F.2.1 d (K L rls H locs h1 h2 h3 (h4.tl.tl.cons trivial))
theorem zs_iand (F : zFix X) {a b : Int32} (d : decode (xcc X) pc = .ok (.iand, 1)) (K : zC X (pc + 1) ls (.int (a &&& b) :: st) σ) : zC X pc ls (.int b :: .int a :: st) σ := fun L rls H locs h1 h2 h3 h4 => lv_iand F.1 F.2.1 d (K L rls H locs h1 h2 h3 (h4.tl.tl.cons trivial))
theorem zs_ixor (F : zFix X) {a b : Int32} (d : decode (xcc X) pc = .ok (.ixor, 1)) (K : zC X (pc + 1) ls (.int (a ^^^ b) :: st) σ) : zC X pc ls (.int b :: .int a :: st) σ := fun L rls H locs h1 h2 h3 h4 => lv_ixor F.1 F.2.1 d (K L rls H locs h1 h2 h3 (h4.tl.tl.cons trivial))
theorem zs_ishr (F : zFix X) {a b : Int32} (d : decode (xcc X) pc = .ok (.ishr, 1)) (K : zC X (pc + 1) ls (.int (a >>> (b &&& 31)) :: st) σ) : zC X pc ls (.int b :: .int a :: st) σ := fun L rls H locs h1 h2 h3 h4 => lv_ishr F.1 F.2.1 d (K L rls H locs h1 h2 h3 (h4.tl.tl.cons trivial))
theorem zs_ishl (F : zFix X) {a b : Int32} (d : decode (xcc X) pc = .ok (.ishl, 1)) (K : zC X (pc + 1) ls (.int (a <<< (b &&& 31)) :: st) σ) : zC X pc ls (.int b :: .int a :: st) σ := fun L rls H locs h1 h2 h3 h4 => lv_ishl F.1 F.2.1 d (K L rls H locs h1 h2 h3 (h4.tl.tl.cons trivial))
theorem zs_idiv (F : zFix X) {a b : Int32} (h0 : ¬ b = 0) (d : decode (xcc X) pc = .ok (.idiv, 1)) (K : zC X (pc + 1) ls (.int (a / b) :: st) σ) : zC X pc ls (.int b :: .int a :: st) σ := fun L rls H locs h1 h2 h3 h4 => lv_idiv F.1 F.2.1 d h0 (K L rls H locs h1 h2 h3 (h4.tl.tl.cons trivial))
theorem zs_irem (F : zFix X) {a b : Int32} (h0 : ¬ b = 0) (d : decode (xcc X) pc = .ok (.irem, 1)) (K : zC X (pc + 1) ls (.int (a - a / b * b) :: st) σ) : zC X pc ls (.int b :: .int a :: st) σ := fun L rls H locs h1 h2 h3 h4 => lv_irem F.1 F.2.1 d h0 (K L rls H locs h1 h2 h3 (h4.tl.tl.cons trivial))
theorem zs_ineg (F : zFix X) {a : Int32} (d : decode (xcc X) pc = .ok (.ineg, 1)) (K : zC X (pc + 1) ls (.int (-a) :: st) σ) : zC X pc ls (.int a :: st) σ := fun L rls H locs h1 h2 h3 h4 => lv_ineg F.1 F.2.1 d (K L rls H locs h1 h2 h3 (h4.tl.cons trivial))
theorem zs_i2l (F : zFix X) {a : Int32} (d : decode (xcc X) pc = .ok (.i2l, 1)) (K : zC X (pc + 1) ls (.long a.toInt64 :: st) σ) : zC X pc ls (.int a :: st) σ := fun L rls H locs h1 h2 h3 h4 => lv_i2l F.1 F.2.1 d rfl (K L rls H locs h1 h2 h3 (h4.tl.cons trivial))
theorem zs_i2b (F : zFix X) {a : Int32} (d : decode (xcc X) pc = .ok (.i2b, 1)) (K : zC X (pc + 1) ls (.int a.toInt8.toInt32 :: st) σ) : zC X pc ls (.int a :: st) σ := fun L rls H locs h1 h2 h3 h4 => lv_i2b F.1 F.2.1 d rfl (K L rls H locs h1 h2 h3 (h4.tl.cons trivial))
theorem zs_ladd (F : zFix X) {a b : Int64} (d : decode (xcc X) pc = .ok (.ladd, 1)) (K : zC X (pc + 1) ls (.long (a + b) :: st) σ) : zC X pc ls (.long b :: .long a :: st) σ := fun L rls H locs h1 h2 h3 h4 => lv_ladd F.1 F.2.1 d (K L rls H locs h1 h2 h3 (h4.tl.tl.cons trivial))
theorem zs_lmul (F : zFix X) {a b : Int64} (d : decode (xcc X) pc = .ok (.lmul, 1)) (K : zC X (pc + 1) ls (.long (a * b) :: st) σ) : zC X pc ls (.long b :: .long a :: st) σ := fun L rls H locs h1 h2 h3 h4 => lv_lmul F.1 F.2.1 d (K L rls H locs h1 h2 h3 (h4.tl.tl.cons trivial))
theorem zs_lcmp (F : zFix X) {a b : Int64} (d : decode (xcc X) pc = .ok (.lcmp, 1)) (K : zC X (pc + 1) ls (.int (lg_cmp a b) :: st) σ) : zC X pc ls (.long b :: .long a :: st) σ := fun L rls H locs h1 h2 h3 h4 => W.lcmp F.1 F.2.1 d (K L rls H locs h1 h2 h3 (h4.tl.tl.cons trivial))
theorem zs_goto (F : zFix X) {off : Int} {t : Nat} (ht : (pc : Int) + off = t) (d : decode (xcc X) pc = .ok (.goto off, 3)) (K : zC X t ls st σ) : zC X pc ls st σ := fun L rls H locs h1 h2 h3 h4 => lv_goto F.1 F.2.1 d ht (K L rls H locs h1 h2 h3 h4)
theorem zs_ifR (F : zFix X) {off : Int} {a : Nat} (d : decode (xcc X) pc = .ok (.ifnull off, 3)) (K : zC X (pc + 3) ls st σ) : zC X pc ls (.ref a :: st) σ := fun L rls H locs h1 h2 h3 h4 => lv_ifnull F.1 F.2.1 d (K L rls H locs h1 h2 h3 h4.tl)
theorem zs_ifN (F : zFix X) {off : Int} {t : Nat} (ht : (pc : Int) + off = t) (d : decode (xcc X) pc = .ok (.ifnull off, 3)) (K : zC X t ls st σ) : zC X pc ls (.null :: st) σ := fun L rls H locs h1 h2 h3 h4 => lv_ifnullN F.1 F.2.1 d ht (K L rls H locs h1 h2 h3 h4.tl)
theorem zs_ifnR (F : zFix X) {off : Int} {a t : Nat} (ht : (pc : Int) + off = t) (d : decode (xcc X) pc = .ok (.ifnonnull off, 3)) (K : zC X t ls st σ) : zC X pc ls (.ref a :: st) σ := fun L rls H locs h1 h2 h3 h4 => lv_ifnonnull F.1 F.2.1 d ht (K L rls H locs h1 h2 h3 h4.tl)
theorem zs_ifnN (F : zFix X) {off : Int} (d : decode (xcc X) pc = .ok (.ifnonnull off, 3)) (K : zC X (pc + 3) ls st σ) : zC X pc ls (.null :: st) σ := fun L rls H locs h1 h2 h3 h4 => lv_ifnonnullN F.1 F.2.1 d (K L rls H locs h1 h2 h3 h4.tl)
theorem zs_tabO (F : zFix X) {df lo hi : Int} {offs : Array Int} {len t : Nat} {x : Int32} (h : x.toInt < lo ∨ hi < x.toInt) (ht : (pc : Int) + df = t) (d : decode (xcc X) pc = .ok (.tableswitch df lo hi offs, len)) (K : zC X t ls st σ) : zC X pc ls (.int x :: st) σ := fun L rls H locs h1 h2 h3 h4 => lv_tableOut F.1 F.2.1 d h ht (K L rls H locs h1 h2 h3 h4.tl)
theorem zs_tabI (F : zFix X) {df lo hi off : Int} {offs : Array Int} {len t : Nat} {x : Int32} (hl : ¬ x.toInt < lo) (hh : ¬ hi < x.toInt) (ho : offs[(x.toInt - lo).toNat]? = some off) (ht : (pc : Int) + off = t) (d : decode (xcc X) pc = .ok (.tableswitch df lo hi offs, len)) (K : zC X t ls st σ) : zC X pc ls (.int x :: st) σ := fun L rls H locs h1 h2 h3 h4 => lv_tableIn F.1 F.2.1 d hl hh ho ht (K L rls H locs h1 h2 h3 h4.tl)
theorem zs_if_eq (F : zFix X) {x : Int32} {off : Int} {t : Nat} (ht : (pc : Int) + off = t) (d : decode (xcc X) pc = .ok (.ifCond .eq off, 3)) (kt : x = 0 → zC X t ls st σ) (kf : ¬ x = 0 → zC X (pc + 3) ls st σ) : zC X pc ls (.int x :: st) σ := fun L rls H locs h1 h2 h3 h4 => lv_if_eq F.1 F.2.1 d ht (fun q => kt q L rls H locs h1 h2 h3 h4.tl) (fun q => kf q L rls H locs h1 h2 h3 h4.tl)
theorem zs_if_ne (F : zFix X) {x : Int32} {off : Int} {t : Nat} (ht : (pc : Int) + off = t) (d : decode (xcc X) pc = .ok (.ifCond .ne off, 3)) (kt : ¬ x = 0 → zC X t ls st σ) (kf : x = 0 → zC X (pc + 3) ls st σ) : zC X pc ls (.int x :: st) σ := fun L rls H locs h1 h2 h3 h4 => lv_if_ne F.1 F.2.1 d ht (fun q => kt q L rls H locs h1 h2 h3 h4.tl) (fun q => kf q L rls H locs h1 h2 h3 h4.tl)
theorem zs_if_lt (F : zFix X) {x : Int32} {off : Int} {t : Nat} (ht : (pc : Int) + off = t) (d : decode (xcc X) pc = .ok (.ifCond .lt off, 3)) (kt : x < 0 → zC X t ls st σ) (kf : ¬ x < 0 → zC X (pc + 3) ls st σ) : zC X pc ls (.int x :: st) σ := fun L rls H locs h1 h2 h3 h4 => lv_if_lt F.1 F.2.1 d ht (fun q => kt q L rls H locs h1 h2 h3 h4.tl) (fun q => kf q L rls H locs h1 h2 h3 h4.tl)
theorem zs_if_ge (F : zFix X) {x : Int32} {off : Int} {t : Nat} (ht : (pc : Int) + off = t) (d : decode (xcc X) pc = .ok (.ifCond .ge off, 3)) (kt : 0 ≤ x → zC X t ls st σ) (kf : ¬ 0 ≤ x → zC X (pc + 3) ls st σ) : zC X pc ls (.int x :: st) σ := fun L rls H locs h1 h2 h3 h4 => lv_if_ge F.1 F.2.1 d ht (fun q => kt q L rls H locs h1 h2 h3 h4.tl) (fun q => kf q L rls H locs h1 h2 h3 h4.tl)
theorem zs_if_gt (F : zFix X) {x : Int32} {off : Int} {t : Nat} (ht : (pc : Int) + off = t) (d : decode (xcc X) pc = .ok (.ifCond .gt off, 3)) (kt : 0 < x → zC X t ls st σ) (kf : ¬ 0 < x → zC X (pc + 3) ls st σ) : zC X pc ls (.int x :: st) σ := fun L rls H locs h1 h2 h3 h4 => lv_if_gt F.1 F.2.1 d ht (fun q => kt q L rls H locs h1 h2 h3 h4.tl) (fun q => kf q L rls H locs h1 h2 h3 h4.tl)
theorem zs_if_le (F : zFix X) {x : Int32} {off : Int} {t : Nat} (ht : (pc : Int) + off = t) (d : decode (xcc X) pc = .ok (.ifCond .le off, 3)) (kt : x ≤ 0 → zC X t ls st σ) (kf : ¬ x ≤ 0 → zC X (pc + 3) ls st σ) : zC X pc ls (.int x :: st) σ := fun L rls H locs h1 h2 h3 h4 => lv_if_le F.1 F.2.1 d ht (fun q => kt q L rls H locs h1 h2 h3 h4.tl) (fun q => kf q L rls H locs h1 h2 h3 h4.tl)
theorem zs_icmp_eq (F : zFix X) {a b : Int32} {off : Int} {t : Nat} (ht : (pc : Int) + off = t) (d : decode (xcc X) pc = .ok (.if_icmp .eq off, 3)) (kt : a = b → zC X t ls st σ) (kf : ¬ a = b → zC X (pc + 3) ls st σ) : zC X pc ls (.int b :: .int a :: st) σ := fun L rls H locs h1 h2 h3 h4 => lv_icmp_eq F.1 F.2.1 d ht (fun q => kt q L rls H locs h1 h2 h3 h4.tl.tl) (fun q => kf q L rls H locs h1 h2 h3 h4.tl.tl)
theorem zs_icmp_ne (F : zFix X) {a b : Int32} {off : Int} {t : Nat} (ht : (pc : Int) + off = t) (d : decode (xcc X) pc = .ok (.if_icmp .ne off, 3)) (kt : ¬ a = b → zC X t ls st σ) (kf : a = b → zC X (pc + 3) ls st σ) : zC X pc ls (.int b :: .int a :: st) σ := fun L rls H locs h1 h2 h3 h4 => lv_icmp_ne F.1 F.2.1 d ht (fun q => kt q L rls H locs h1 h2 h3 h4.tl.tl) (fun q => kf q L rls H locs h1 h2 h3 h4.tl.tl)
theorem zs_icmp_lt (F : zFix X) {a b : Int32} {off : Int} {t : Nat} (ht : (pc : Int) + off = t) (d : decode (xcc X) pc = .ok (.if_icmp .lt off, 3)) (kt : a < b → zC X t ls st σ) (kf : ¬ a < b → zC X (pc + 3) ls st σ) : zC X pc ls (.int b :: .int a :: st) σ := fun L rls H locs h1 h2 h3 h4 => lv_icmp_lt F.1 F.2.1 d ht (fun q => kt q L rls H locs h1 h2 h3 h4.tl.tl) (fun q => kf q L rls H locs h1 h2 h3 h4.tl.tl)
theorem zs_icmp_ge (F : zFix X) {a b : Int32} {off : Int} {t : Nat} (ht : (pc : Int) + off = t) (d : decode (xcc X) pc = .ok (.if_icmp .ge off, 3)) (kt : b ≤ a → zC X t ls st σ) (kf : ¬ b ≤ a → zC X (pc + 3) ls st σ) : zC X pc ls (.int b :: .int a :: st) σ := fun L rls H locs h1 h2 h3 h4 => lv_icmp_ge F.1 F.2.1 d ht (fun q => kt q L rls H locs h1 h2 h3 h4.tl.tl) (fun q => kf q L rls H locs h1 h2 h3 h4.tl.tl)
theorem zs_icmp_gt (F : zFix X) {a b : Int32} {off : Int} {t : Nat} (ht : (pc : Int) + off = t) (d : decode (xcc X) pc = .ok (.if_icmp .gt off, 3)) (kt : b < a → zC X t ls st σ) (kf : ¬ b < a → zC X (pc + 3) ls st σ) : zC X pc ls (.int b :: .int a :: st) σ := fun L rls H locs h1 h2 h3 h4 => lv_icmp_gt F.1 F.2.1 d ht (fun q => kt q L rls H locs h1 h2 h3 h4.tl.tl) (fun q => kf q L rls H locs h1 h2 h3 h4.tl.tl)
theorem zs_icmp_le (F : zFix X) {a b : Int32} {off : Int} {t : Nat} (ht : (pc : Int) + off = t) (d : decode (xcc X) pc = .ok (.if_icmp .le off, 3)) (kt : a ≤ b → zC X t ls st σ) (kf : ¬ a ≤ b → zC X (pc + 3) ls st σ) : zC X pc ls (.int b :: .int a :: st) σ := fun L rls H locs h1 h2 h3 h4 => lv_icmp_le F.1 F.2.1 d ht (fun q => kt q L rls H locs h1 h2 h3 h4.tl.tl) (fun q => kf q L rls H locs h1 h2 h3 h4.tl.tl)
end ZSTEP
end
section
/-! the instructions that read or write the heap -/
section ZHEAP
variable {X : zX} {pc : Nat} {ls : zLs} {st : List Value} {σ : zS}
theorem zRel.lt {L : List Nat} {H : Heap} {locs : List Loc} (h : zRel X L σ H locs) {a k n : Nat} (hk : σ.1[a]? = some (k, n)) (h2 : k ≠ 200) : xmo X ≤ a ∧ a < σ.1.length := by
  have h5 := (h.2.2.2.2.1.2 a k n hk)
  have h6 : ¬ a < xmo X := fun q => h2 (h5.mpr q)
  exact ⟨by omega, (List.getElem?_eq_some_iff.mp hk).1⟩
theorem zget_pre {L0 L : List Nat} {p : Nat} (h : L0 <+: L) (hp : p < L0.length) : L.getD p 0 = L0.getD p 0 := by
  obtain ⟨M, rfl⟩ := h
  rw [List.getD_eq_getElem?_getD, List.getD_eq_getElem?_getD, List.getElem?_append_left hp]
theorem zRel.ro {L : List Nat} {H : Heap} {locs : List Loc} (F : zFix X) (h : zRel X L σ H locs) {a n : Nat} (hk : σ.1[a]? = some (200, n)) : va_X (L.getD a 0) n (σ.2.1 a) (xs X) (xs X).heap ∧ L.getD a 0 < (xs X).heap.size ∧ ¬ xA X (L.getD a 0) := by
  have hp := (h.2.2.2.2.1.2 a 200 n hk).mp rfl
  obtain ⟨e1, e2⟩ := h.2.2.2.2.2.2.2.2.1 a hp
  rw [hk] at e2
  have e3 : n = (xRO X).2 a := (Prod.mk.inj (Option.some.inj e2)).2
  rw [e1, e3, zget_pre h.1 (Nat.lt_of_lt_of_le hp h.2.2.1)]
  exact F.2.2.2.2.2.2.2.2 a hp
theorem zs_getf (F : zFix X) {idx a k n j N : Nat} {C : String} {T : u_T} (hc : (xcl X)[k]? = some (C, T, N)) (hj : j < N) (hl : Cond.fieldLink (xown X) idx (T j).1 (T j).2.1 (T j).2.2.1 ∈ xTs X) (d : decode (xcc X) pc = .ok (.getfield idx, 3)) (hk : σ.1[a]? = some (k, n)) (K : zC X (pc + 3) ls (zfv ((xft X k).getD j .int) σ a j :: st) σ) : zC X pc ls (.ref a :: st) σ := by
  intro L rls H locs h1 h2 h3 h4
  obtain ⟨hx, hb, -, hown, hts, hK, hA, hcl, hro⟩ := id F
  obtain ⟨q1, q2, q3, q4, q5, -⟩ := hcl k C T N hc
  have hp := h1.lt hk (by omega)
  have hz := zw_at (ft := xft X) (cA := xcA X) (L := L) hp.1 hp.2
  rw [ze_obj hk q1] at hz
  refine va_get hx hb hts q3 hown hK h1.2.2.2.2.2.1 (a - xmo X) hz hc j hj (hts _ hl) (fun x h => h) (v := zt L (zfv ((xft X k).getD j .int) σ a j)) ?_ d (K L rls H locs h1 h2 h3 (h4.tl.cons ?_))
  · rw [List.getElem?_map, List.getElem?_range (by rw [← q2]; exact hj)]
    rfl
  · rw [h1.2.1]
    exact zfv_ok h1.2.2.2.1
theorem zfp_ne {a j b i : Nat} {v : Value} {σ1 : zS} (h : zfp σ a j v = some σ1) (hn : ¬ (b = a ∧ i = j)) : σ1.2.1 b i = σ.2.1 b i ∧ σ1.2.2.1 b i = σ.2.2.1 b i ∧ σ1.2.2.2.1 b i = σ.2.2.2.1 b i := by
  cases v <;> first | (cases h; done) | (cases h; refine ⟨?_, ?_, ?_⟩ <;> first | rfl | exact if_neg hn)
theorem zfp_K {a j : Nat} {v : Value} {σ1 : zS} (h : zfp σ a j v = some σ1) : σ1.1 = σ.1 ∧ znc σ1 = znc σ ∧ zns σ1 = zns σ := by
  cases v <;> first | (cases h; done) | (cases h; exact ⟨rfl, rfl, rfl⟩)
theorem zfp_VH {a j : Nat} {v : Value} {σ1 : zS} (hV : zVH σ) (hv : zvk σ.1.length v) (h : zfp σ a j v = some σ1) : zVH σ1 := by
  cases v with
  | int x => cases h; exact hV
  | long x => cases h; exact hV
  | ref x => cases h; exact hV.put hv
  | null => cases h; exact hV.putN
  | _ => cases h
theorem zfv_eq {ty : FieldType} {σ1 : zS} {b i : Nat} (h : σ1.2.1 b i = σ.2.1 b i ∧ σ1.2.2.1 b i = σ.2.2.1 b i ∧ σ1.2.2.2.1 b i = σ.2.2.2.1 b i) : zfv ty σ1 b i = zfv ty σ b i := by
  obtain ⟨h1, h2, h3⟩ := h
  cases ty <;> simp only [zfv, h1, h2, h3]
/-- a field's new value, in the list of an object's fields -/
theorem zfp_set {L : List Nat} {ty : Nat → FieldType} {N a j : Nat} {v : Value} {σ1 : zS} (hj : j < N) (h : zfp σ a j v = some σ1) (hf : fits (ty j) v = true) : (List.range N).map (fun i => zt L (zfv (ty i) σ1 a i)) = ((List.range N).map (fun i => zt L (zfv (ty i) σ a i))).set j (zt L v) := by
  refine List.ext_getElem? fun i => ?_
  by_cases hij : i = j
  · subst hij
    rw [List.getElem?_set_self (by rw [List.length_map, List.length_range]; exact hj), List.getElem?_map, List.getElem?_range hj]
    show some (zt L _) = some (zt L v)
    refine congrArg (fun z => some (zt L z)) ?_
    cases v with
    | int x =>
      cases h
      generalize ty i = t at hf
      cases t <;> first | exact congrArg Value.int (zup_at (h := σ.2.1) (p := a) (f := i) (v := x)) | (cases hf; done)
    | long x =>
      cases h
      generalize ty i = t at hf
      cases t <;> first | exact congrArg Value.long (zup_at (h := σ.2.2.2.1) (p := a) (f := i) (v := x)) | (cases hf; done)
    | ref x =>
      cases h
      generalize ty i = t at hf
      cases t <;> first | exact congrArg va_rf (zup_at (h := σ.2.2.1) (p := a) (f := i) (v := some x)) | (cases hf; done)
    | null =>
      cases h
      generalize ty i = t at hf
      cases t <;> first | exact congrArg va_rf (zup_at (h := σ.2.2.1) (p := a) (f := i) (v := none)) | (cases hf; done)
    | _ => cases h
  · rw [List.getElem?_set_ne (fun q => hij q.symm), List.getElem?_map, List.getElem?_map]
    by_cases hi : i < N
    · rw [List.getElem?_range hi]
      show some (zt L _) = some (zt L _)
      rw [zfv_eq (zfp_ne h (fun q => hij q.2))]
    · rw [List.getElem?_eq_none (by rw [List.length_range]; omega)]
      rfl
/-- one cell of the world has changed -/
theorem zRel.upd {L : List Nat} {σ1 : zS} {H H1 : Heap} {locs locs1 : List Loc} {a k n : Nat} {e : va_E} (h : zRel X L σ H locs) (hk : σ.1[a]? = some (k, n)) (h2 : k ≠ 200) (hK : σ1.1 = σ.1) (hn : znc σ1 = znc σ ∧ zns σ1 = zns σ) (hV : zVH σ1) (he : ze (xft X) (xcA X) L σ1 a = e) (ho : ∀ q, q ≠ a → σ1.2.1 q = σ.2.1 q ∧ σ1.2.2.1 q = σ.2.2.1 q ∧ σ1.2.2.2.1 q = σ.2.2.2.1 q)
    (hP : va_P (xD X) (xcl X) ((zw (xft X) (xcA X) (xmo X) L σ).set (a - xmo X) (L.getD a 0, e)) H1) (hD : va_D (xA X) ((zw (xft X) (xcA X) (xmo X) L σ).set (a - xmo X) (L.getD a 0, e))) (hS : va_S (xA X) (xs X).heap H1 locs1) : zRel X L σ1 H1 locs1 := by
  have hp := h.lt hk h2
  obtain ⟨r1, r2, r3, r4, r5, -, -, -, r9, r10, r11⟩ := h
  have hw := zw_set (ft := xft X) (cA := xcA X) (L := L) hK hp.1 hp.2 he (fun q hq => ze_same (by rw [hK]) (ho q hq).1 (ho q hq).2.1 (ho q hq).2.2)
  rw [hw] at hP hD
  refine ⟨r1, by rw [hK]; exact r2, r3, hV, by rw [hK]; exact r5, hP, hD, hS, fun p hp9 => ?_, by rw [hn.1]; exact r10, by rw [hn.2]; exact r11⟩
  rw [hK, (ho p (by omega)).1]
  exact r9 p hp9
theorem zs_putf (F : zFix X) {idx a k n j N : Nat} {C : String} {T : u_T} {v : Value} {σ1 : zS} (hc : (xcl X)[k]? = some (C, T, N)) (hj : j < N) (hl : Cond.fieldLink (xown X) idx (T j).1 (T j).2.1 (T j).2.2.1 ∈ xTs X) (hfin : (T j).2.2.2 = false ∨ ((T j).2.2.2 = true ∧ (xme X).name = "<init>" ∧ (T j).1 = xown X)) (d : decode (xcc X) pc = .ok (.putfield idx, 3)) (hk : σ.1[a]? = some (k, n)) (hna : narrow ((xft X k).getD j .int) v = v) (hfi : fits ((xft X k).getD j .int) v = true) (hz1 : zfp σ a j v = some σ1) (K : zC X (pc + 3) ls st σ1) : zC X pc ls (v :: .ref a :: st) σ := by
  intro L rls H locs h1 h2 h3 h4
  obtain ⟨hx, hb, -, hown, hts, hK, hA, hcl, hro⟩ := id F
  obtain ⟨q1, q2, q3, q4, q5, -⟩ := hcl k C T N hc
  have hp := h1.lt hk (by omega)
  have hz := zw_at (ft := xft X) (cA := xcA X) (L := L) hp.1 hp.2
  rw [ze_obj hk q1] at hz
  have hk1 := zfp_K hz1
  have hkn : σ1.1[a]? = some (k, n) := by rw [hk1.1]; exact hk
  have hset := zfp_set (L := L) (ty := fun i => (xft X k).getD i .int) (N := N) hj hz1 hfi
  rw [q2] at hset
  have hna' : narrow ((xft X k).getD j .int) (zt L v) = zt L v := by
    cases v with
    | ref x => generalize (xft X k).getD j .int = t at *; cases t <;> rfl
    | int x => exact hna
    | long x => exact hna
    | null => exact hna
    | float x => exact hna
    | double x => exact hna
    | retAddr x => exact hna
  have hfi' : fits ((xft X k).getD j .int) (zt L v) = true := by
    cases v with
    | ref x => generalize (xft X k).getD j .int = t at *; cases t <;> first | rfl | (cases hfi; done)
    | int x => exact hfi
    | long x => exact hfi
    | null => exact hfi
    | float x => exact hfi
    | double x => exact hfi
    | retAddr x => exact hfi
  have go : ∀ (H1 : Heap) (locs1 : List Loc), va_P (xD X) (xcl X) ((zw (xft X) (xcA X) (xmo X) L σ).set (a - xmo X) (L.getD a 0, .inr (k, ((List.range (xft X k).length).map (fun j => zt L (zfv ((xft X k).getD j .int) σ a j))).set j (zt L v)))) H1 → va_D (xA X) ((zw (xft X) (xcA X) (xmo X) L σ).set (a - xmo X) (L.getD a 0, .inr (k, ((List.range (xft X k).length).map (fun j => zt L (zfv ((xft X k).getD j .int) σ a j))).set j (zt L v)))) → va_S (xA X) (xs X).heap H1 locs1 → zWX X H1 locs1 (znc σ - xnc X) (zns σ - xns X) (F0 (xm X) (pc + 3) rls (st.map (zt L))) := by
    intro H1 locs1 gP gD gS
    have hv : zvk σ.1.length v := by rw [← h1.2.1]; exact h4.hd
    have hR := h1.upd hk (by omega) hk1.1 hk1.2 (zfp_VH h1.2.2.2.1 hv hz1) (by rw [ze_obj hkn q1, hset]) (fun q hq => ⟨funext fun i => (zfp_ne hz1 (fun z => hq z.1)).1, funext fun i => (zfp_ne hz1 (fun z => hq z.1)).2.1, funext fun i => (zfp_ne hz1 (fun z => hq z.1)).2.2⟩) gP gD gS
    have := K L rls H1 locs1 hR h2 h3 h4.tl.tl
    rw [hk1.2.1, hk1.2.2] at this
    exact this
  have hl2 : j < ((List.range (xft X k).length).map (fun j => zt L (zfv ((xft X k).getD j .int) σ a j))).length := by rw [List.length_map, List.length_range, ← q2]; exact hj
  rcases hfin with hf | ⟨hf, hi, ho⟩
  · exact va_put hx hb hts q3 (fun j => (xft X k).getD j .int) (fun j hj => (q4 j hj).1) q5 hown hK h1.2.2.2.2.2.1 h1.2.2.2.2.2.2.1 h1.2.2.2.2.2.2.2.1 (a - xmo X) hz hc j hj (hts _ hl) (fun x h => h) hf (q4 j hj).1 hna' hfi' hl2 d go
  · exact va_putF hx hb hts q3 (fun j => (xft X k).getD j .int) (fun j hj => (q4 j hj).1) q5 hown hK h1.2.2.2.2.2.1 h1.2.2.2.2.2.2.1 h1.2.2.2.2.2.2.2.1 (a - xmo X) hz hc j hj (hts _ hl) (fun x h => h) hf hi ho (q4 j hj).1 hna' hfi' hl2 d go
theorem zs_alen (F : zFix X) {a k n : Nat} (hk : σ.1[a]? = some (k, n)) (hkk : k = 100 ∨ k = 103 ∨ k = 104 ∨ k = 105 ∨ k = 200) (d : decode (xcc X) pc = .ok (.arraylength, 1)) (K : zC X (pc + 1) ls (.int (Int32.ofNat n) :: st) σ) : zC X pc ls (.ref a :: st) σ := by
  intro L rls H locs h1 h2 h3 h4
  obtain ⟨hx, hb, -, hown, hts, hK, hA, hcl, hro⟩ := id F
  by_cases h200 : k = 200
  · subst h200
    obtain ⟨g1, g2, g3⟩ := h1.ro F hk
    exact va_slen hx hb g1 g2 g3 h1.2.2.2.2.2.2.2.1 d (K L rls H locs h1 h2 h3 (h4.tl.cons trivial))
  · have hp := h1.lt hk h200
    have hz := zw_at (ft := xft X) (cA := xcA X) (L := L) hp.1 hp.2
    have hk2 : k = 100 ∨ k = 103 ∨ k = 104 ∨ k = 105 := by omega
    rcases hk2 with rfl | rfl | rfl | rfl
    · rw [ze_int hk (by omega) (by omega)] at hz
      exact va_alen hx hb hK h1.2.2.2.2.2.1 (a - xmo X) 0 hz rfl rfl d (K L rls H locs h1 h2 h3 (h4.tl.cons trivial))
    · rw [ze_ref hk (by omega)] at hz
      exact va_alen hx hb hK h1.2.2.2.2.2.1 (a - xmo X) 1 hz rfl rfl d (K L rls H locs h1 h2 h3 (h4.tl.cons trivial))
    · rw [ze_ref hk (by omega)] at hz
      exact va_alen hx hb hK h1.2.2.2.2.2.1 (a - xmo X) 2 hz rfl rfl d (K L rls H locs h1 h2 h3 (h4.tl.cons trivial))
    · rw [ze_ref hk (by omega)] at hz
      exact va_alen hx hb hK h1.2.2.2.2.2.1 (a - xmo X) 3 hz rfl rfl d (K L rls H locs h1 h2 h3 (h4.tl.cons trivial))
theorem zs_iald (F : zFix X) {a k n : Nat} {i : Int32} (hk : σ.1[a]? = some (k, n)) (hkk : k = 100 ∨ k = 200) (hi : zin i n = true) (d : decode (xcc X) pc = .ok (.iaload, 1)) (K : zC X (pc + 1) ls (.int (σ.2.1 a i.toNatClampNeg) :: st) σ) : zC X pc ls (.int i :: .ref a :: st) σ := by
  intro L rls H locs h1 h2 h3 h4
  obtain ⟨hx, hb, -, hown, hts, hK, hA, hcl, hro⟩ := id F
  rcases hkk with rfl | rfl
  · have hp := h1.lt hk (by omega)
    have hz := zw_at (ft := xft X) (cA := xcA X) (L := L) hp.1 hp.2
    rw [ze_int hk (by omega) (by omega)] at hz
    exact va_iald hx hb hK h1.2.2.2.2.2.1 (a - xmo X) 0 hz rfl (zin_in hi) d (K L rls H locs h1 h2 h3 (h4.tl.tl.cons trivial))
  · obtain ⟨g1, g2, g3⟩ := h1.ro F hk
    exact va_sld hx hb g1 g2 g3 h1.2.2.2.2.2.2.2.1 (zin_in hi) d (K L rls H locs h1 h2 h3 (h4.tl.tl.cons trivial))
theorem zs_iast (F : zFix X) {a n : Nat} {i x : Int32} (hk : σ.1[a]? = some (100, n)) (hi : zin i n = true) (d : decode (xcc X) pc = .ok (.iastore, 1)) (K : zC X (pc + 1) ls st (σ.1, zup σ.2.1 a i.toNatClampNeg x, σ.2.2)) : zC X pc ls (.int x :: .int i :: .ref a :: st) σ := by
  intro L rls H locs h1 h2 h3 h4
  obtain ⟨hx, hb, -, hown, hts, hK, hA, hcl, hro⟩ := id F
  have hp := h1.lt hk (by omega)
  have hz := zw_at (ft := xft X) (cA := xcA X) (L := L) hp.1 hp.2
  rw [ze_int hk (by omega) (by omega)] at hz
  refine va_iast hx hb hK h1.2.2.2.2.2.1 h1.2.2.2.2.2.2.1 h1.2.2.2.2.2.2.2.1 (a - xmo X) 0 hz rfl (zin_in hi) d fun H1 locs1 gP gD gS => ?_
  refine K L rls H1 locs1 (h1.upd (σ1 := (σ.1, zup σ.2.1 a i.toNatClampNeg x, σ.2.2)) hk (by omega) rfl ⟨rfl, rfl⟩ h1.2.2.2.1 ?_ (fun q hq => ⟨zup_ne hq, rfl, rfl⟩) gP gD gS) h2 h3 h4.tl.tl.tl
  rw [ze_int (σ := (σ.1, zup σ.2.1 a i.toNatClampNeg x, σ.2.2)) (show (σ.1)[a]? = _ from hk) (by omega) (by omega)]
  refine congrArg (fun z => Sum.inl (xcA X 0, n, Sum.inl z)) (funext fun j => ?_)
  show (if a = a ∧ j = _ then x else _) = (if j = _ then x else _)
  by_cases hj : j = i.toNatClampNeg
  · rw [if_pos ⟨rfl, hj⟩, if_pos hj]
  · rw [if_neg (fun q => hj q.2), if_neg hj]
theorem zs_aald (F : zFix X) {a k n : Nat} {i : Int32} (hk : σ.1[a]? = some (k, n)) (hkk : k = 103 ∨ k = 104 ∨ k = 105) (hi : zin i n = true) (d : decode (xcc X) pc = .ok (.aaload, 1)) (K : zC X (pc + 1) ls (va_rf (σ.2.2.1 a i.toNatClampNeg) :: st) σ) : zC X pc ls (.int i :: .ref a :: st) σ := by
  intro L rls H locs h1 h2 h3 h4
  obtain ⟨hx, hb, -, hown, hts, hK, hA, hcl, hro⟩ := id F
  have hp := h1.lt hk (by omega)
  have hz := zw_at (ft := xft X) (cA := xcA X) (L := L) hp.1 hp.2
  rw [ze_ref hk (by omega)] at hz
  have hv : zvk L.length (va_rf (σ.2.2.1 a i.toNatClampNeg)) := by
    cases hq : σ.2.2.1 a i.toNatClampNeg with
    | none => trivial
    | some q => rw [h1.2.1]; exact h1.2.2.2.1 _ _ _ hq
  have k1 := K L rls H locs h1 h2 h3 (h4.tl.tl.cons hv)
  rw [List.map_cons, zt_rf] at k1
  rcases hkk with rfl | rfl | rfl
  · exact va_aldq hx hb hK h1.2.2.2.2.2.1 (a - xmo X) 1 hz rfl (zin_in hi) d k1
  · exact va_aldq hx hb hK h1.2.2.2.2.2.1 (a - xmo X) 2 hz rfl (zin_in hi) d k1
  · exact va_aldq hx hb hK h1.2.2.2.2.2.1 (a - xmo X) 3 hz rfl (zin_in hi) d k1
theorem zs_aast (F : zFix X) {a v k kv n nv N : Nat} {T : u_T} {i : Int32} (hk : σ.1[a]? = some (k, n)) (hkk : k = 103 ∨ k = 104 ∨ k = 105) (hkv : σ.1[v]? = some (kv, nv)) (hc : (xcl X)[kv]? = some (zAC k, T, N)) (hi : zin i n = true) (d : decode (xcc X) pc = .ok (.aastore, 1)) (K : zC X (pc + 1) ls st (σ.1, σ.2.1, zup σ.2.2.1 a i.toNatClampNeg (some v), σ.2.2.2)) : zC X pc ls (.ref v :: .int i :: .ref a :: st) σ := by
  intro L rls H locs h1 h2 h3 h4
  obtain ⟨hx, hb, -, hown, hts, hK, hA, hcl, hro⟩ := id F
  obtain ⟨q1, q2, q3, q4, q5, -⟩ := hcl kv _ T N hc
  have hp := h1.lt hk (by omega)
  have hz := zw_at (ft := xft X) (cA := xcA X) (L := L) hp.1 hp.2
  rw [ze_ref hk (by omega)] at hz
  have hpv := h1.lt hkv (by omega)
  have hzv := zw_at (ft := xft X) (cA := xcA X) (L := L) hpv.1 hpv.2
  rw [ze_obj hkv q1] at hzv
  have go : ∀ (H1 : Heap) (locs1 : List Loc), va_P (xD X) (xcl X) ((zw (xft X) (xcA X) (xmo X) L σ).set (a - xmo X) (L.getD a 0, .inl (xcA X (k - 100), n, .inr (.inr (.inr (.inr (va_up (fun j => (σ.2.2.1 a j).map (fun q => L.getD q 0)) i.toNatClampNeg (some (L.getD v 0))))))))) H1 → va_D (xA X) ((zw (xft X) (xcA X) (xmo X) L σ).set (a - xmo X) (L.getD a 0, .inl (xcA X (k - 100), n, .inr (.inr (.inr (.inr (va_up (fun j => (σ.2.2.1 a j).map (fun q => L.getD q 0)) i.toNatClampNeg (some (L.getD v 0))))))))) → va_S (xA X) (xs X).heap H1 locs1 → zWX X H1 locs1 (znc σ - xnc X) (zns σ - xns X) (F0 (xm X) (pc + 1) rls (st.map (zt L))) := by
    intro H1 locs1 gP gD gS
    refine K L rls H1 locs1 (h1.upd (σ1 := (σ.1, σ.2.1, zup σ.2.2.1 a i.toNatClampNeg (some v), σ.2.2.2)) hk (by omega) rfl ⟨rfl, rfl⟩ (h1.2.2.2.1.put hpv.2) ?_ (fun q hq => ⟨rfl, zup_ne hq, rfl⟩) gP gD gS) h2 h3 h4.tl.tl.tl
    rw [ze_ref (σ := (σ.1, σ.2.1, zup σ.2.2.1 a i.toNatClampNeg (some v), σ.2.2.2)) (show (σ.1)[a]? = _ from hk) (by omega)]
    refine congrArg (fun z => Sum.inl (xcA X (k - 100), n, Sum.inr (Sum.inr (Sum.inr (Sum.inr z))))) (funext fun j => ?_)
    show (if a = a ∧ j = _ then some v else _).map _ = (if j = _ then some _ else _)
    by_cases hj : j = i.toNatClampNeg
    · rw [if_pos ⟨rfl, hj⟩, if_pos hj]
      rfl
    · rw [if_neg (fun q => hj q.2), if_neg hj]
  rcases hkk with rfl | rfl | rfl
  · exact va_astq hx hb hK h1.2.2.2.2.2.1 h1.2.2.2.2.2.2.1 h1.2.2.2.2.2.2.2.1 (a - xmo X) 1 (v - xmo X) kv hz rfl hzv hc (zin_in hi) d go
  · exact va_astq hx hb hK h1.2.2.2.2.2.1 h1.2.2.2.2.2.2.1 h1.2.2.2.2.2.2.2.1 (a - xmo X) 2 (v - xmo X) kv hz rfl hzv hc (zin_in hi) d go
  · exact va_astq hx hb hK h1.2.2.2.2.2.1 h1.2.2.2.2.2.2.1 h1.2.2.2.2.2.2.2.1 (a - xmo X) 3 (v - xmo X) kv hz rfl hzv hc (zin_in hi) d go
end ZHEAP
end
section
/-! new cells, statics, ends -/
section ZNEW
variable {X : zX} {pc : Nat} {ls : zLs} {st : List Value} {σ : zS}
theorem zRel.push {L : List Nat} {H H1 : Heap} {locs locs1 : List Loc} {k n a : Nat} {e : va_E} (h : zRel X L σ H locs) (hk : k ≠ 200) (he : ze (xft X) (xcA X) (L ++ [a]) (znw σ k n) σ.1.length = e) (hP : va_P (xD X) (xcl X) (zw (xft X) (xcA X) (xmo X) L σ ++ [(a, e)]) H1) (hD : va_D (xA X) (zw (xft X) (xcA X) (xmo X) L σ ++ [(a, e)])) (hS : va_S (xA X) (xs X).heap H1 locs1) : zRel X (L ++ [a]) (znw σ k n) H1 locs1 := by
  obtain ⟨r1, r2, r3, r4, r5, -, -, -, r9, r10, r11⟩ := h
  have hl : (znw σ k n).1.length = σ.1.length + 1 := by show (σ.1 ++ [(k, n)]).length = _; rw [List.length_append]; rfl
  have hw := zw_push (ft := xft X) (cA := xcA X) (σ' := znw σ k n) (kn := (k, n)) r5.1 r4 r2 rfl (fun q hq => ⟨zupR_ne (by omega), zupR_ne (by omega), zupR_ne (by omega)⟩) he
  rw [hw] at hP hD
  refine ⟨r1.trans (List.prefix_append _ _), by rw [List.length_append, hl, r2]; rfl, r3, r4.new, ⟨by rw [hl]; have := r5.1; omega, fun p k9 n9 hp => ?_⟩, hP, hD, hS, fun p hp => ?_, by show _ ≤ σ.2.2.2.2.1 + 1; exact Nat.le_succ_of_le r10, by show _ ≤ σ.2.2.2.2.2 + n; exact Nat.le_add_right_of_le r11⟩
  · have hp : (σ.1 ++ [(k, n)])[p]? = some (k9, n9) := hp
    by_cases hpl : p < σ.1.length
    · rw [List.getElem?_append_left hpl] at hp
      exact r5.2 p k9 n9 hp
    · have hpl2 : p < (σ.1 ++ [(k, n)]).length := (List.getElem?_eq_some_iff.mp hp).1
      rw [List.length_append] at hpl2
      have hpe : p = σ.1.length := by simp at hpl2; omega
      rw [List.getElem?_append_right (by omega), hpe, Nat.sub_self] at hp
      cases hp
      exact ⟨fun q => absurd q hk, fun q => absurd r5.1 (by omega)⟩
  · obtain ⟨q1, q2⟩ := r9 p hp
    have hpl : p < σ.1.length := Nat.lt_of_lt_of_le hp r5.1
    refine ⟨(zupR_ne (by omega)).trans q1, ?_⟩
    show (σ.1 ++ [(k, n)])[p]? = _
    rw [List.getElem?_append_left hpl]
    exact q2
theorem zgo_new {L : List Nat} {rls : Array Slot} {H1 : Heap} {locs1 : List Loc} {pc2 k n a : Nat} (h : xnc X ≤ znc σ ∧ xns X ≤ zns σ) (hR : zRel X (L ++ [a]) (znw σ k n) H1 locs1) (hL : L.length = σ.1.length) (h2 : zlv L rls (xnL X) ls) (h3 : zlo L.length ls) (h4 : zso L.length st) (K : zC X pc2 ls (.ref σ.1.length :: st) (znw σ k n)) : zWX X H1 locs1 (znc σ - xnc X + 1) (zns σ - xns X + n) (F0 (xm X) pc2 rls (.ref a :: st.map (zt L))) := by
  have k1 := K (L ++ [a]) rls H1 locs1 hR (h2.app h3) (h3.mono (by simp)) ((h4.mono (by simp)).cons (show σ.1.length < _ by rw [List.length_append, hL]; simp))
  rw [List.map_cons, zt_apps h4] at k1
  have e1 : zt (L ++ [a]) (.ref σ.1.length) = .ref a := by
    show Value.ref ((L ++ [a]).getD σ.1.length 0) = _
    rw [← hL, List.getD_eq_getElem?_getD, List.getElem?_append_right (Nat.le_refl _), Nat.sub_self]
    rfl
  rw [e1] at k1
  have e2 : znc (znw σ k n) - xnc X = znc σ - xnc X + 1 := by show znc σ + 1 - _ = _; omega
  have e3 : zns (znw σ k n) - xns X = zns σ - xns X + n := by show zns σ + n - _ = _; omega
  rw [e2, e3] at k1
  exact k1
theorem zs_newi (F : zFix X) {n : Int32} (hn : ¬ n < 0) (hm : n.toNatClampNeg ≤ 100000) (ha : Cond.arrayClass .int ∈ xTs X) (d : decode (xcc X) pc = .ok (.newarray .int, 2)) (hr1 : znc σ + 1 - xnc X ≤ (xR X).cells) (hr2 : zns σ + n.toNatClampNeg - xns X ≤ (xR X).slots) (K : zC X (pc + 2) ls (.ref σ.1.length :: st) (znw σ 100 n.toNatClampNeg)) : zC X pc ls (.int n :: st) σ := by
  intro L rls H locs h1 h2 h3 h4
  obtain ⟨hx, hb, -, hown, hts, hK, hA, hcl, hro⟩ := id F
  have c1 := h1.2.2.2.2.2.2.2.2.2.1
  have c2 := h1.2.2.2.2.2.2.2.2.2.2
  refine va_newa (atype := .int) hx hb (hts _ ha) rfl hK h1.2.2.2.2.2.1 h1.2.2.2.2.2.2.1 h1.2.2.2.2.2.2.2.1 hA (a0 := (n.toNatClampNeg, .inl (fun _ => 0))) (fun cA => rfl) hn rfl (by show _ * 4 ≤ _; omega) (by omega) (by omega) d fun q cA' H1 gK gP gD gS => ?_
  have hcA : cA' = xcA X 0 := by
    have e1 : (xs X).vm.findClass ("[" ++ FieldType.int.toString) = some cA' := (gK.2 4 (cA', .int) rfl).2
    have e2 : (xs X).vm.findClass ("[" ++ FieldType.int.toString) = some (xcA X 0) := (hK.2 0 (xcA X 0, .int) rfl).2
    exact Option.some.inj (e1.symm.trans e2)
  subst hcA
  refine zgo_new ⟨c1, c2⟩ (h1.push (k := 100) (by decide) ?_ gP gD gS) h1.2.1 h2 h3 h4.tl K
  have hk : (znw σ 100 n.toNatClampNeg).1[σ.1.length]? = some (100, n.toNatClampNeg) := by
    show (σ.1 ++ [(100, n.toNatClampNeg)])[σ.1.length]? = _
    rw [List.getElem?_append_right (Nat.le_refl _), Nat.sub_self]; rfl
  rw [ze_int hk (by omega) (by omega)]
  refine congrArg (fun z => Sum.inl (xcA X 0, n.toNatClampNeg, Sum.inl z)) (funext fun j => ?_)
  show zupR σ.2.1 σ.1.length (fun _ => 0) σ.1.length j = 0
  rw [zupR_at]
theorem zs_newq (F : zFix X) {k idx : Nat} {n : Int32} (hn : ¬ n < 0) (hm : n.toNatClampNeg ≤ 100000) (hkk : k = 103 ∨ k = 104 ∨ k = 105) (ha : va_AO (zAC k) (xs X)) (hcl1 : Cond.classLink (xown X) idx (zAC k) ∈ xTs X) (d : decode (xcc X) pc = .ok (.anewarray idx, 3)) (hr1 : znc σ + 1 - xnc X ≤ (xR X).cells) (hr2 : zns σ + n.toNatClampNeg - xns X ≤ (xR X).slots) (K : zC X (pc + 3) ls (.ref σ.1.length :: st) (znw σ k n.toNatClampNeg)) : zC X pc ls (.int n :: st) σ := by
  intro L rls H locs h1 h2 h3 h4
  obtain ⟨hx, hb, -, hown, hts, hK, hA, hcl, hro⟩ := id F
  have c1 := h1.2.2.2.2.2.2.2.2.2.1
  have c2 := h1.2.2.2.2.2.2.2.2.2.2
  refine va_newq hx hb hown (hts _ hcl1) ha hK h1.2.2.2.2.2.1 h1.2.2.2.2.2.2.1 h1.2.2.2.2.2.2.2.1 hA hn rfl (by omega) (by omega) (by omega) d fun q cA' H1 gK gP gD gS => ?_
  have hcA : cA' = xcA X (k - 100) := by
    obtain ⟨kA, comp, -, -, -, e1⟩ := (gK.2 4 (cA', .object (zAC k)) rfl).2
    have e2 : (xs X).vm.findClass ("[" ++ (FieldType.object (zAC k)).toString) = some (xcA X (k - 100)) := by
      rcases hkk with rfl | rfl | rfl
      · obtain ⟨_, _, -, -, -, e⟩ := (hK.2 1 (xcA X 3, .object (zAC 103)) rfl).2
        exact e
      · obtain ⟨_, _, -, -, -, e⟩ := (hK.2 2 (xcA X 4, .object (zAC 104)) rfl).2
        exact e
      · obtain ⟨_, _, -, -, -, e⟩ := (hK.2 3 (xcA X 5, .object (zAC 105)) rfl).2
        exact e
    exact Option.some.inj (e1.symm.trans e2)
  subst hcA
  refine zgo_new ⟨c1, c2⟩ (h1.push (k := k) (by omega) ?_ gP gD gS) h1.2.1 h2 h3 h4.tl K
  have hk : (znw σ k n.toNatClampNeg).1[σ.1.length]? = some (k, n.toNatClampNeg) := by
    show (σ.1 ++ [(k, n.toNatClampNeg)])[σ.1.length]? = _
    rw [List.getElem?_append_right (Nat.le_refl _), Nat.sub_self]; rfl
  rw [ze_ref hk (by omega)]
  refine congrArg (fun z => Sum.inl (xcA X (k - 100), n.toNatClampNeg, Sum.inr (Sum.inr (Sum.inr (Sum.inr z))))) (funext fun j => ?_)
  show (zupR σ.2.2.1 σ.1.length (fun _ => none) σ.1.length j).map _ = none
  rw [zupR_at]
  rfl
theorem zs_new (F : zFix X) {k idx N : Nat} {C : String} {T : u_T} (hc : (xcl X)[k]? = some (C, T, N)) (hcl1 : Cond.classLink (xown X) idx C ∈ xTs X) (d : decode (xcc X) pc = .ok (.new idx, 3)) (hr1 : znc σ + 1 - xnc X ≤ (xR X).cells) (hr2 : zns σ + (xft X k).length - xns X ≤ (xR X).slots) (K : zC X (pc + 3) ls (.ref σ.1.length :: st) (znw σ k (xft X k).length)) : zC X pc ls st σ := by
  intro L rls H locs h1 h2 h3 h4
  obtain ⟨hx, hb, -, hown, hts, hK, hA, hcl, hro⟩ := id F
  obtain ⟨q1, q2, q3, q4, q5, q6, q7⟩ := hcl k C T N hc
  have c1 := h1.2.2.2.2.2.2.2.2.2.1
  have c2 := h1.2.2.2.2.2.2.2.2.2.2
  refine va_new hx hb hts q3 (fun j => (xft X k).getD j .int) (fun j hj => (q4 j hj).1) hown (hts _ hcl1) (hts _ q6) (hts _ q7) hK h1.2.2.2.2.2.1 h1.2.2.2.2.2.2.1 h1.2.2.2.2.2.2.2.1 hA hc (fs := (List.range N).map (fun j => defaultValue ((xft X k).getD j .int))) (fun j hj => ?_) (by omega) (by omega) d fun q H1 gP gD gS => ?_
  · unfold vp_V
    rw [List.getD_eq_getElem?_getD (l := List.map (fun j => defaultValue ((xft X k).getD j .int)) (List.range N)), List.getElem?_map, List.getElem?_range hj]
    rfl
  · rw [q2]
    refine zgo_new ⟨c1, c2⟩ (h1.push (k := k) (by omega) ?_ gP gD gS) h1.2.1 h2 h3 h4 K
    have hk : (znw σ k (xft X k).length).1[σ.1.length]? = some (k, (xft X k).length) := by
      show (σ.1 ++ [(k, (xft X k).length)])[σ.1.length]? = _
      rw [List.getElem?_append_right (Nat.le_refl _), Nat.sub_self]; rfl
    rw [ze_obj hk q1, q2]
    refine congrArg (fun z => Sum.inr (k, z)) (List.map_congr_left fun j hj => ?_)
    have hj2 := (q4 j (by rw [q2]; exact List.mem_range.mp hj)).2
    generalize (xft X k).getD j .int = t at hj2
    have z1 : (znw σ k (xft X k).length).2.1 σ.1.length j = 0 := by show zupR σ.2.1 σ.1.length (fun _ => 0) σ.1.length j = 0; rw [zupR_at]
    have z2 : (znw σ k (xft X k).length).2.2.1 σ.1.length j = none := by show zupR σ.2.2.1 σ.1.length (fun _ => none) σ.1.length j = none; rw [zupR_at]
    have z3 : (znw σ k (xft X k).length).2.2.2.1 σ.1.length j = 0 := by show zupR σ.2.2.2.1 σ.1.length (fun _ => 0) σ.1.length j = 0; rw [zupR_at]
    cases t <;> first | (cases hj2; done) | (simp only [zfv, z1, z2, z3]; rfl)
/-- the statics: which field is at which place -/
def zSN (k : Nat) : String := if k = 0 then "BY_NUMBERS" else if k = 1 then "SQUARE_FACTS" else if k = 2 then "GUN_FACTS" else if k = 3 then "COMPANY_FACTS" else "MINE_FACTS"
def zSt (X : zX) : Prop := ∀ k, k < 5 → va_Z "Siegelines" (zSN k) "[I" (.ref ((xL0 X).getD k 0)) (xA X) (xs X) (xs X).heap
theorem zs_gets (F : zFix X) (hS : zSt X) {k idx : Nat} (hk : k < 5) (hmo : 5 < xmo X) (hl : Cond.fieldLink (xown X) idx "Siegelines" (zSN k) "[I" ∈ xTs X ∨ Cond.fieldLinkNest (xown X) idx "Siegelines" (zSN k) "[I" "Siegelines" ∈ xTs X) (d : decode (xcc X) pc = .ok (.getstatic idx, 3)) (K : zC X (pc + 3) ls (.ref k :: st) σ) : zC X pc ls st σ := by
  intro L rls H locs h1 h2 h3 h4
  obtain ⟨hx, hb, -, hown, hts, hK, hA, hcl, hro⟩ := id F
  have hz := hS k hk
  have hm := h1.2.2.1
  have e : (xL0 X).getD k 0 = L.getD k 0 := (zget_pre h1.1 (by omega)).symm
  rw [e] at hz
  have k1 := K L rls H locs h1 h2 h3 (h4.cons (show k < L.length by have := h1.1.length_le; omega))
  rcases hl with hl | hl
  · exact va_gets hx hb hz h1.2.2.2.2.2.2.2.1 hown (hts _ hl) (fun x h => h) d k1
  · exact va_getsN hx hb hz h1.2.2.2.2.2.2.2.1 hown (hts _ hl) (fun x h => h) d k1
/-- the world behind a method -/
abbrev zY : Type := (va_G × List vw_C × (Nat → List FieldType) × (Nat → ClassId)) × (Nat × ((Nat → Nat → Int32) × (Nat → Nat)))
abbrev xY (X : zX) : zY := (X.2.1, (xmo X, xRO X))
def zEnd (Y : zY) (A : Nat → Prop) (L0 Lf : List Nat) (σ' : zS) (t : State) : Prop := L0 <+: Lf ∧ Lf.length = σ'.1.length ∧ zVH σ' ∧ zKi Y.2.1 σ'.1 ∧ va_P Y.1.1 Y.1.2.1 (zw Y.1.2.2.1 Y.1.2.2.2 Y.2.1 Lf σ') t.heap ∧ va_D A (zw Y.1.2.2.1 Y.1.2.2.2 Y.2.1 Lf σ') ∧ (∀ p, p < Y.2.1 → σ'.2.1 p = Y.2.2.1 p ∧ σ'.1[p]? = some (200, Y.2.2.2 p))
def zQc (Y : zY) (A : Nat → Prop) (L0 : List Nat) (o : zO) (σ' : zS) : Array Value → State → Outcome → State → Prop := fun _ st oc t => (∃ (Lf : List Nat) (v : Option Value), o = .inl v ∧ oc = .returned (v.map (zt Lf)) ∧ (∀ w, v = some w → zvk Lf.length w) ∧ zEnd Y A L0 Lf σ' t) ∧ va_F A st t
/-- the classes of what is thrown, by numbers -/
def zEx (k : Nat) : String := if k = 86 then "java/lang/IllegalStateException" else if k = 43 then "java/lang/IndexOutOfBoundsException" else "java/lang/IllegalArgumentException"
def zXc (Y : zY) (A : Nat → Prop) (L0 : List Nat) (o : zO) (σ' : zS) : String → State → State → Prop := fun E st t => (∃ (Lf : List Nat) (k : Nat), o = .inr k ∧ E = zEx k ∧ zEnd Y A L0 Lf σ' t) ∧ va_F A st t
theorem zRel.end_ {L : List Nat} {H : Heap} {locs : List Loc} {t : State} (h : zRel X L σ H locs) (ht : t.heap = H) : zEnd (xY X) (xA X) (xL0 X) L σ t ∧ va_F (xA X) (xs X) t := by
  obtain ⟨r1, r2, r3, r4, r5, r6, r7, r8, r9, r10, r11⟩ := h
  exact ⟨⟨r1, r2, r4, r5, by rw [ht]; exact r6, r7, r9⟩, r8.F ht⟩
def zQ (X : zX) (o : zO) (σ' : zS) : State → Prop := vx_MQ (xb X) (zQc (xY X) (xA X) (xL0 X) o σ') (zXc (xY X) (xA X) (xL0 X) o σ') (xa X) (xs X) (xR X).cells (xR X).slots (xA X)
theorem zs_iret (F : zFix X) {x : Int32} {ty : FieldType} (hQ : xQ X = zQ X (.inl (some (.int x))) σ) (hlk : (xme X).locks = false) (hr : (xme X).sig.returnType = some ty) (hn : narrow ty (.int x) = .int x) (d : decode (xcc X) pc = .ok (.ireturn, 1)) (hr1 : znc σ - xnc X ≤ (xR X).cells) (hr2 : zns σ - xns X ≤ (xR X).slots) : zC X pc ls [.int x] σ := by
  intro L rls H locs h1 h2 h3 h4
  obtain ⟨hx, hb, -, hown, hts, hK, hA, hcl, hro⟩ := id F
  unfold zWX
  rw [hQ]
  refine vx_ret ?_
  refine W.widen hr1 hr2 ?_
  exact W.zret hx hb hr hn (fun t ht _ => ⟨⟨L, some (.int x), rfl, rfl, fun w hw => by cases hw; trivial, (h1.end_ ht).1⟩, (h1.end_ ht).2⟩) h1.2.2.2.2.2.2.2.1.2.2 d hlk
theorem zs_lret (F : zFix X) {x : Int64} (hQ : xQ X = zQ X (.inl (some (.long x))) σ) (hlk : (xme X).locks = false) (hr : (xme X).sig.returnType = some .long) (d : decode (xcc X) pc = .ok (.lreturn, 1)) (hr1 : znc σ - xnc X ≤ (xR X).cells) (hr2 : zns σ - xns X ≤ (xR X).slots) : zC X pc ls [.long x] σ := by
  intro L rls H locs h1 h2 h3 h4
  obtain ⟨hx, hb, -, hown, hts, hK, hA, hcl, hro⟩ := id F
  unfold zWX
  rw [hQ]
  refine vx_ret ?_
  refine W.widen hr1 hr2 ?_
  exact W.lret hx hb hr (fun t ht _ => ⟨⟨L, some (.long x), rfl, rfl, fun w hw => by cases hw; trivial, (h1.end_ ht).1⟩, (h1.end_ ht).2⟩) h1.2.2.2.2.2.2.2.1.2.2 d hlk
theorem zs_aret (F : zFix X) {v : Value} {C : String} (hv : v = .null ∨ ∃ a, v = .ref a) (hQ : xQ X = zQ X (.inl (some v)) σ) (hlk : (xme X).locks = false) (hr : (xme X).sig.returnType = some (.object C)) (d : decode (xcc X) pc = .ok (.areturn, 1)) (hr1 : znc σ - xnc X ≤ (xR X).cells) (hr2 : zns σ - xns X ≤ (xR X).slots) : zC X pc ls [v] σ := by
  intro L rls H locs h1 h2 h3 h4
  obtain ⟨hx, hb, -, hown, hts, hK, hA, hcl, hro⟩ := id F
  unfold zWX
  rw [hQ]
  refine vx_ret ?_
  refine W.widen hr1 hr2 ?_
  refine W.aret (v := zt L v) hx hb hr (Or.inl ⟨C, rfl⟩) ?_ (fun t ht _ => ⟨⟨L, some v, rfl, rfl, fun w hw => by cases hw; exact h4.hd, (h1.end_ ht).1⟩, (h1.end_ ht).2⟩) h1.2.2.2.2.2.2.2.1.2.2 d hlk
  rcases hv with rfl | ⟨a, rfl⟩
  · exact Or.inl rfl
  · exact Or.inr ⟨_, rfl⟩
theorem zs_vret (F : zFix X) (hQ : xQ X = zQ X (.inl none) σ) (hlk : (xme X).locks = false) (hr : (xme X).sig.returnType = none) (d : decode (xcc X) pc = .ok (.return_, 1)) (hr1 : znc σ - xnc X ≤ (xR X).cells) (hr2 : zns σ - xns X ≤ (xR X).slots) : zC X pc ls [] σ := by
  intro L rls H locs h1 h2 h3 h4
  obtain ⟨hx, hb, -, hown, hts, hK, hA, hcl, hro⟩ := id F
  unfold zWX
  rw [hQ]
  refine vx_ret ?_
  refine W.widen hr1 hr2 ?_
  exact W.vret hx hb hr (fun t ht _ => ⟨⟨L, none, rfl, rfl, (fun w hw => by cases hw), (h1.end_ ht).1⟩, (h1.end_ ht).2⟩) h1.2.2.2.2.2.2.2.1.2.2 d hlk
end ZNEW
end
section
/-! contracts: a method of the interpreter's is a method of the machine -/
/-- the words that stay, whoever is asked -/
def zTb : List Cond := lw_tbl.filter goodWord
/-- words of other kinds that stay too -/
def zWk (w : Cond) : Bool := match w with
  | .castable _ _ => true
  | .declares _ => true
  | .fieldLinkNest _ _ _ _ _ _ => true
  | .methodLinkNest _ _ _ _ => true
  | _ => false
def zWs : List Cond := lw_tbl.filter zWk
theorem zWk_warm {w : Cond} {s U : State} (hw : zWk w = true) (hW : s.WarmedH U.vm) (h : va_Nw w s) : va_Nw w U := by
  cases w with
  | castable C T => exact va_Nw.warmC hW h
  | declares x => exact va_Nw.warmD hW h
  | fieldLinkNest a i b n d h' => exact va_Nw.warmF hW h
  | methodLinkNest a i x h' => exact va_Nw.warmM hW h
  | _ => cases hw
theorem zWk_tabs {w : Cond} (hw : zWk w = true) : w.onTables = true := by
  cases w <;> first | rfl | (cases hw; done)
/-- string constants that are thrown with: whose, which, what -/
def zSr (w : Cond) : Option (String × Nat × String) := match w with
  | .stringRef a i t => some (a, i, t)
  | _ => none
def zStr : List (String × Nat × String) := lw_tbl.filterMap zSr
/-- pairs of classes of which one isn't the other -/
def zNcs : List (String × String) := [("java/lang/IllegalStateException", "java/lang/IndexOutOfBoundsException"), ("java/lang/IndexOutOfBoundsException", "java/lang/IllegalStateException"), ("java/lang/IllegalArgumentException", "java/lang/IndexOutOfBoundsException"), ("java/lang/IllegalArgumentException", "java/lang/IllegalStateException")]
/-- what is so all the time, beside the world: seen from a state, of what the method may not change -/
def zVm (Y : zY) (L : List Nat) (A : Nat → Prop) (U : State) (H : Heap) : Prop :=
  (∀ p, p < Y.2.1 → va_X (L.getD p 0) (Y.2.2.2 p) (Y.2.2.1 p) U H ∧ L.getD p 0 < H.size ∧ ¬ A (L.getD p 0)) ∧
  (∀ k, k < 5 → va_Z "Siegelines" (zSN k) "[I" (.ref (L.getD k 0)) A U H) ∧
  vx_Zq Bundle.tN "UNASSIGNED_STACK" Bundle.steD A U H ∧ vx_Zq Bundle.tN "SUPPRESSED_SENTINEL" Bundle.listD A U H ∧
  (∀ x ∈ zStr, ∃ sa, vk_R x.1 x.2.1 x.2.2 sa U) ∧ (∀ x ∈ zNcs, va_Nc x.1 x.2 U) ∧ (∀ w ∈ zWs, va_Nw w U) ∧ (∀ k, k = 103 ∨ k = 104 ∨ k = 105 → va_AO (zAC k) U) ∧ va_K Y.1.1 Y.1.2.1 (zTys Y.1.2.2.2) U
theorem vx_Zq.to {C n d : String} {A B : Nat → Prop} {s U : State} {H H1 : Heap} (h : vx_Zq C n d A s H) (hW : s.WarmedH U.vm) (hq : ∀ a : Nat, a < H.size → ¬ A a → H1[a]? = H[a]?) (hAB : ∀ q, B q → A q) : vx_Zq C n d B U H1 := vx_Zq.moved hW.alike (vx_Zq.narrow (h.kept hq) hAB)
theorem zVm.to {Y : zY} {L L' : List Nat} {A B : Nat → Prop} {s U : State} {H H1 : Heap} (h : zVm Y L A s H) (hW : s.WarmedH U.vm) (hz : H.size ≤ H1.size) (hq : ∀ a : Nat, a < H.size → ¬ A a → H1[a]? = H[a]?) (hAB : ∀ q, B q → A q) (hL : L <+: L') (hm : Y.2.1 ≤ L.length) (h5 : 5 ≤ L.length) : zVm Y L' B U H1 := by
  obtain ⟨a1, a2, a3, a4, a5, a6, a7, a8, a9⟩ := h
  refine ⟨fun p hp => ?_, fun k hk => ?_, a3.to hW hq hAB, a4.to hW hq hAB, fun x hx => ?_, fun x hx => va_Nc.moved hW.alike (a6 x hx), fun w hw => zWk_warm (List.mem_filter.mp hw).2 hW (a7 w hw), fun k hk => va_AO.moved hW.alike (a8 k hk), va_K.moved hW.alike a9⟩
  · obtain ⟨b1, b2, b3⟩ := a1 p hp
    rw [zget_pre hL (by omega)]
    exact ⟨va_X.moved hW.alike (b1.kept (hq _ b2 b3)), by omega, fun q => b3 (hAB _ q)⟩
  · rw [zget_pre hL (by omega)]
    exact va_Z.moved hW.alike (va_Z.narrow ((a2 k hk).kept hq) hAB)
  · obtain ⟨sa, hs⟩ := a5 x hx
    exact ⟨sa, vk_R.warm hW hs⟩
/-- frames that come and go change nothing of it -/
theorem zVm.calling {Y : zY} {L : List Nat} {A : Nat → Prop} {U : State} {H : Heap} {g : JFrame} {mk : MethodId} {a : Array Value} (h : zVm Y L A U H) (hm : Y.2.1 ≤ L.length) (h5 : 5 ≤ L.length) : zVm Y L A (U.calling g mk a) H := h.to (U := U.calling g mk a) (State.WarmedH.refl U) (Nat.le_refl _) (fun _ _ _ => rfl) (fun _ q => q) (List.prefix_refl L) hm h5
/-- a method's start -/
def zPc (Y : zY) (L : List Nat) (σ : zS) (sz : Nat) (vs : List Value) : Array Value → State → Prop := va_Pc (vs.map (zt L)) (fun U => U.heap.size = sz ∧ L.length = σ.1.length ∧ 6 ≤ Y.2.1 ∧ Y.2.1 ≤ L.length ∧ zVH σ ∧ zKi Y.2.1 σ.1 ∧ va_P Y.1.1 Y.1.2.1 (zw Y.1.2.2.1 Y.1.2.2.2 Y.2.1 L σ) U.heap ∧ va_D (fun _ => True) (zw Y.1.2.2.1 Y.1.2.2.2 Y.2.1 L σ) ∧ (∀ p, p < Y.2.1 → σ.2.1 p = Y.2.2.1 p ∧ σ.1[p]? = some (200, Y.2.2.2 p)) ∧ zVm Y L (va_A (zw Y.1.2.2.1 Y.1.2.2.2 Y.2.1 L σ) sz) U U.heap ∧ zso L.length vs)
theorem zPc_blind (Y : zY) (L : List Nat) (σ : zS) (sz : Nat) (vs : List Value) : FrameBlind (zPc Y L σ sz vs) := by
  intro a U g mk h
  obtain ⟨h1, h2, h3, h4, h5, h6, h7, h8, h9, h10, h11, h12⟩ := h
  exact ⟨h1, h2, h3, h4, h5, h6, h7, h8, h9, h10, h11.calling h5 (by omega), h12⟩
/-- a method's word -/
def zcw (q : zM) : Cond := if zmH q = [] then .code (zmN q) (zmB q) (zmL q) (zmR q) else .codeWith (zmN q) (zmB q) (zmL q) (zmR q) (zmH q)
def zws (q : zM) : List Cond := zcw q :: zTb
def zrm (q : zM) (mc ms : Nat) : Room := { frames := zmF q, cells := mc, slots := ms, locals := zmW q }
def zMet (l : Launch) (Y : zY) (P : Nat → zM) (y : Nat) (vs : List Value) (σ : zS) (o : zO) (σ' : zS) : Prop := ∀ (L : List Nat) (sz : Nat), vx_Met l (zmN (P y)) (zws (P y)) (zrm (P y) (znc σ' - znc σ) (zns σ' - zns σ)) (zPc Y L σ sz vs) (zQc Y (va_A (zw Y.1.2.2.1 Y.1.2.2.2 Y.2.1 L σ) sz) L o σ') (zXc Y (va_A (zw Y.1.2.2.1 Y.1.2.2.2 Y.2.1 L σ) sz) L o σ') (znc σ' - znc σ) (zns σ' - zns σ) (va_A (zw Y.1.2.2.1 Y.1.2.2.2 Y.2.1 L σ) sz)
end
section
/-! calls -/
/-- the activation is one of this method -/
def zOn (q : zM) (X : zX) : Prop := xcc X = zmB q ∧ xnL X = zmL q ∧ xown X = (zmN q).cls ∧ xTs X = zws q ∧ (xme X).locks = false ∧ (xme X).sig.returnType = zmR q ∧ (xme X).name = (zmN q).name ∧ (xc X).exceptionTable.toList = tableOf (zmH q) ∧ (xR X).frames = zmF q ∧ (xR X).locals = zmW q ∧ (xl X).stackTraces = false
/-- what is so all the time, in an activation -/
def zVx (X : zX) : Prop := 6 ≤ xmo X ∧ xmo X ≤ (xL0 X).length ∧ zVm (xY X) (xL0 X) (xA X) (xs X) (xs X).heap
theorem zCls.mono {cl : List vw_C} {ft : Nat → List FieldType} {T1 T2 : List Cond} (h : zCls cl ft T1) (hs : ∀ w ∈ T1, w ∈ T2) : zCls cl ft T2 := fun k C T N hc => by
  obtain ⟨a1, a2, a3, a4, a5, a6, a7⟩ := h k C T N hc
  exact ⟨a1, a2, fun w hw => hs w (a3 w hw), a4, a5, hs _ a6, hs _ a7⟩
set_option maxHeartbeats 4000000 in
/-- a contract, out of the walk of the method's body -/
theorem zmet_of {l : Launch} {Y : zY} {P : Nat → zM} {y : Nat} {vs : List Value} {σ : zS} {o : zO} {σ' : zS} (hl : l.stackTraces = false) (hlen : (zent vs).length ≤ zmL (P y)) (hpl : plainName (zmN (P y)).cls = true) (hc : zCls Y.1.2.1 Y.1.2.2.1 zTb)
    (K : ∀ X : zX, zFix X → zOn (P y) X → xl X = l → xY X = Y → zVx X → xnc X = znc σ → xns X = zns σ → (xR X).cells = znc σ' - znc σ → (xR X).slots = zns σ' - zns σ → xQ X = zQ X o σ' → zC X 0 (zfst vs (zmL (P y))) [] σ) : zMet l Y P y vs σ o σ' := by
  intro L sz
  have body : ∀ (S : Spec) (hS : S = headSpec (zws (P y)) (zrm (P y) (znc σ' - znc σ) (zns σ' - zns σ))) (p : Program) (e : Env) (s : State) (m : MethodId) (args : Array Value) (below : List Frame) (meth : Method) (c : Code) (s₁ : State), BodyLoose p l (zmN (P y)) S (zmB (P y)) (zmL (P y)) (zmR (P y)) e s m args below meth c s₁ → c.maxLocals = zmL (P y) → c.exceptionTable.toList = tableOf (zmH (P y)) → zPc Y L σ sz vs args s →
      W p l e S.room s m args below meth c s.heap [] 0 0 (vx_MQ below (zQc Y (va_A (zw Y.1.2.2.1 Y.1.2.2.2 Y.2.1 L σ) sz) L o σ') (zXc Y (va_A (zw Y.1.2.2.1 Y.1.2.2.2 Y.2.1 L σ) sz) L o σ') args s (znc σ' - znc σ) (zns σ' - zns σ) (va_A (zw Y.1.2.2.1 Y.1.2.2.2 Y.2.1 L σ) sz)) (entryFrame m args (zmL (P y))) := by
    intro S hS p e s m args below meth c s₁ B hml hex hv
    subst hS
    obtain ⟨rfl, hsz, h2, h3, h4, h5, h6, h7, h8, h9, h10, h11⟩ := hv
    subst hsz
    have hts := atoms_spec (ws := zws (P y)) B.pre
    have hown : s.vm.findClass (zmN (P y)).cls = some m.cls := findClass_of_methodNamed B.named
    obtain ⟨A, hAe⟩ : ∃ A, A = va_A (zw Y.1.2.2.1 Y.1.2.2.2 Y.2.1 L σ) s.heap.size := ⟨_, rfl⟩
    have hA : ∀ q, s.heap.size ≤ q → A q := fun q hq => by rw [hAe]; exact Or.inr hq
    have hD : va_D A (zw Y.1.2.2.1 Y.1.2.2.2 Y.2.1 L σ) := by rw [hAe]; exact h8.self
    rw [← hAe] at h10 ⊢
    have k := K ((p, l, e, (headSpec (zws (P y)) (zrm (P y) (znc σ' - znc σ) (zns σ' - zns σ))).room, s, m, (vs.map (zt L)).toArray, below, meth, c, vx_MQ below (zQc Y A L o σ') (zXc Y A L o σ') (vs.map (zt L)).toArray s (znc σ' - znc σ) (zns σ' - zns σ) A), Y.1, (Y.2.1, zmL (P y), znc σ, zns σ, A, L, Y.2.2), (zmB (P y), (zmN (P y)).cls, zws (P y)))
      ⟨B.exec, B.bytes, hml, hown, hts, h10.2.2.2.2.2.2.2.2, hA, hc.mono (fun w hw => List.mem_cons_of_mem _ hw), h10.1⟩
      ⟨rfl, rfl, rfl, rfl, B.notSynchronized, B.returns, (name_of_methodNamed B.named B.method).1, hex, rfl, rfl, hl⟩ rfl rfl ⟨h3, h4, h10⟩ rfl rfl rfl rfl rfl
      L _ s.heap [] ⟨List.prefix_refl L, h2, h4, h5, h6, h7, hD, va_S.rf, h9, Nat.le_refl _, Nat.le_refl _⟩ (zfst_lv L hlen) (zfst_ok h11) (fun v hv => nomatch hv)
    rw [lg_entry_eq]
    have e1 : znc σ - xnc ((p, l, e, (headSpec (zws (P y)) (zrm (P y) (znc σ' - znc σ) (zns σ' - zns σ))).room, s, m, (vs.map (zt L)).toArray, below, meth, c, vx_MQ below (zQc Y A L o σ') (zXc Y A L o σ') (vs.map (zt L)).toArray s (znc σ' - znc σ) (zns σ' - zns σ) A), Y.1, (Y.2.1, zmL (P y), znc σ, zns σ, A, L, Y.2.2), (zmB (P y), (zmN (P y)).cls, zws (P y))) = 0 := Nat.sub_self _
    have e2 : zns σ - xns ((p, l, e, (headSpec (zws (P y)) (zrm (P y) (znc σ' - znc σ) (zns σ' - zns σ))).room, s, m, (vs.map (zt L)).toArray, below, meth, c, vx_MQ below (zQc Y A L o σ') (zXc Y A L o σ') (vs.map (zt L)).toArray s (znc σ' - znc σ) (zns σ' - zns σ) A), Y.1, (Y.2.1, zmL (P y), znc σ, zns σ, A, L, Y.2.2), (zmB (P y), (zmN (P y)).cls, zws (P y))) = 0 := Nat.sub_self _
    rw [e1, e2] at k
    exact k
  by_cases hH : zmH (P y) = []
  · have hw : zws (P y) = Cond.code (zmN (P y)) (zmB (P y)) (zmL (P y)) (zmR (P y)) :: zTb := by unfold zws zcw; rw [if_pos hH]
    refine vx_ofW (ws' := zTb) hpl hw fun p e s m args below meth c s₁ B hml hno hv => body _ rfl p e s m args below meth c s₁ B hml ?_ hv
    rw [hH]
    cases hq : c.exceptionTable.toList with
    | nil => rfl
    | cons a r => exact (hno a (by rw [hq]; exact List.mem_cons_self)).elim
  · have hw : zws (P y) = Cond.codeWith (zmN (P y)) (zmB (P y)) (zmL (P y)) (zmR (P y)) (zmH (P y)) :: zTb := by unfold zws zcw; rw [if_neg hH]
    refine vx_ofWH (ws' := zTb) hpl hw fun p e s m args below meth c s₁ B hml hv => body _ rfl p e s m args below meth c s₁ B hml ?_ hv
    exact vx_table (x := zmN (P y)) B (atoms_spec (ws := zws (P y)) B.pre _ (by rw [hw]; exact List.mem_cons_self))
section ZCALL
variable {X : zX} {pc : Nat} {ls : zLs} {st : List Value} {σ : zS}
/-- something is thrown here, by a callee -/
def zHd (X : zX) (pc : Nat) (ls : zLs) (E : Nat) (σ : zS) : Prop := ∀ (L : List Nat) (rls : Array Slot) (H : Heap) (locs : List Loc) (rest : List Value) (q : Addr) (ce : Cell), zRel X L σ H locs → zlv L rls (xnL X) ls → zlo L.length ls → H[q]? = some ce → ce.vm = .none → (xs X).vm.findClass (zEx E) = some ce.cls → vx_W (xp X) (xl X) (xe X) (xR X) (xs X) (xm X) (xa X) (xb X) (xme X) (xc X) H locs (znc σ - xnc X) (zns σ - xns X) (xQ X) (F0 (xm X) pc rls rest) q
theorem zRel.free {L : List Nat} {H : Heap} {locs : List Loc} (F : zFix X) (h : zRel X L σ H locs) : ∀ q, va_A (zw (xft X) (xcA X) (xmo X) L σ) H.size q → xA X q := by
  intro q hq
  rcases hq with ⟨k, e, hk⟩ | hq
  · exact h.2.2.2.2.2.2.1.2 k (q, e) hk
  · exact F.2.2.2.2.2.2.1 q (Nat.le_trans h.2.2.2.2.2.2.2.1.1 hq)
/-- behind a call -/
theorem zs_back (F : zFix X) {L : List Nat} {rls : Array Slot} {H : Heap} {locs : List Loc} {rest st0 : List Value} {a : Array Value} {o : zO} {σ1 : zS} (h1 : zRel X L σ H locs) (h2 : zlv L rls (xnL X) ls) (h3 : zlo L.length ls) (h4 : zso L.length rest) (hm : znc σ ≤ znc σ1 ∧ zns σ ≤ zns σ1)
    (hr : vx_Run (xp X) (xl X) (xe X) (xR X) (xs X) (xm X) (xa X) (xb X) (xme X) (xc X) H locs (znc σ - xnc X) (zns σ - xns X) (znc σ1 - znc σ) (zns σ1 - zns σ) (F0 (xm X) pc rls st0) (rest.map (zt L)) (zQc (xY X) (va_A (zw (xft X) (xcA X) (xmo X) L σ) H.size) L o σ1 a) (zXc (xY X) (va_A (zw (xft X) (xcA X) (xmo X) L σ) H.size) L o σ1) (va_A (zw (xft X) (xcA X) (xmo X) L σ) H.size))
    (K1 : ∀ v, o = .inl v → zC X (pc + 3) ls (v.toList ++ rest) σ1) (K2 : ∀ E, o = .inr E → zHd X pc ls E σ1) : zWX X H locs (znc σ - xnc X) (zns σ - xns X) (F0 (xm X) pc rls st0) := by
  intro T hT XX
  have hfr := h1.free F
  have e1 : znc σ - xnc X + (znc σ1 - znc σ) = znc σ1 - xnc X := by have := h1.2.2.2.2.2.2.2.2.2.1; omega
  have e2 : zns σ - xns X + (zns σ1 - zns σ) = zns σ1 - xns X := by have := h1.2.2.2.2.2.2.2.2.2.2; omega
  have hRel : ∀ (Lf : List Nat) (t T' : State) (locs1 : List Loc), T'.heap = t.heap → zEnd (xY X) (va_A (zw (xft X) (xcA X) (xmo X) L σ) H.size) L Lf σ1 t → va_S (xA X) (xs X).heap T'.heap locs1 → zRel X Lf σ1 T'.heap locs1 := by
    intro Lf t T' locs1 ht ⟨z1, z2, z3, z4, z5, z6, z7⟩ hS
    exact ⟨h1.1.trans z1, z2, h1.2.2.1, z3, z4, by rw [ht]; exact z5, z6.weaken (fun _ q _ h => hfr q.1 h), hS, z7, by have := h1.2.2.2.2.2.2.2.2.2.1; omega, by have := h1.2.2.2.2.2.2.2.2.2.2; omega⟩
  rcases hr T hT XX with ⟨v, st₀, t, T', Ls, h0, X', hL, g1, g2, ⟨⟨Lf, v1, rfl, hv, hw, hE⟩, hF⟩, hst⟩ | ⟨q, st₀, t, T', Ls, E, ce, h0, X', hL, g1, g2, ⟨⟨Lf, kx, rfl, rfl, hE⟩, hF⟩, hce, hcv, hcl, hst⟩
  · obtain ⟨k1, k2, k3⟩ := vx_keep h0 g1 h1.2.2.2.2.2.2.2.1 (fun q _ h => hfr q h) hfr hL hF
    obtain ⟨M, hM⟩ := hE.1
    have hv : v = v1.map (zt Lf) := by injection hv
    subst hv
    have hsr : rest.map (zt L) = rest.map (zt Lf) := by rw [← hM, zt_apps h4]
    have kk := K1 v1 rfl Lf rls T'.heap (locs ++ Ls) (hRel Lf t T' _ g1 hE k3) (by rw [← hM]; exact h2.app h3) (by rw [← hM]; exact h3.mono (by simp)) (fun w hw2 => by
      rcases List.mem_append.mp hw2 with hw2 | hw2
      · cases v1 with
        | none => cases hw2
        | some z => exact (List.mem_singleton.mp hw2) ▸ hw z rfl
      · rw [← hM]; exact zvk_mono (h4 w hw2) (by simp))
    rw [e1, e2] at X'
    obtain ⟨t2, a1, b1⟩ := kk T' rfl X'
    refine ⟨t2, hst t2 ?_, b1⟩
    have e3 : (v1.map (zt Lf)).toList ++ rest.map (zt L) = (v1.toList ++ rest).map (zt Lf) := by
      rw [hsr, List.map_append]
      cases v1 <;> rfl
    show Steps _ _ _ (T'.setTop { method := xm X, pc := pc + 3, locals := rls, stack := (v1.map (zt Lf)).toList ++ rest.map (zt L), locked := none }) t2
    rw [e3]
    exact a1
  · obtain ⟨k1, k2, k3⟩ := vx_keep h0 g1 h1.2.2.2.2.2.2.2.1 (fun q _ h => hfr q h) hfr hL hF
    obtain ⟨M, hM⟩ := hE.1
    rw [e1, e2] at X'
    obtain ⟨t2, a1, b1⟩ := K2 kx rfl Lf rls T'.heap (locs ++ Ls) (rest.map (zt L)) q ce (hRel Lf t T' _ g1 hE k3) (by rw [← hM]; exact h2.app h3) (by rw [← hM]; exact h3.mono (by simp)) (by rw [g1]; exact hce) hcv hcl T' rfl X'
    exact ⟨t2, hst.trans a1, b1⟩
/-- a callee's start, seen from its caller -/
theorem zs_pre (F : zFix X) (V : zVx X) {L : List Nat} {H : Heap} {locs : List Loc} {vs : List Value} (h1 : zRel X L σ H locs) (hv : zso L.length vs) (U : State) (hU : U.heap = H) (hW : (xs X).WarmedH U.vm) : zPc (xY X) L σ H.size vs (vs.map (zt L)).toArray U := by
  obtain ⟨r1, r2, r3, r4, r5, r6, r7, r8, r9, r10, r11⟩ := id h1
  obtain ⟨V1, V2, V3⟩ := V
  have hm : (xY X).2.1 ≤ (xL0 X).length := V2
  refine ⟨rfl, by rw [hU], r2, V1, Nat.le_trans V2 r1.length_le, r4, r5, by rw [hU]; exact r6, r7.weaken (fun _ _ _ _ => trivial), r9, ?_, hv⟩
  have := V3.to (L' := L) (B := va_A (zw (xft X) (xcA X) (xmo X) L σ) H.size) (U := U) (H1 := H) hW r8.1 (fun q h h2 => r8.2.1 q h h2) (h1.free F) r1 hm (by omega)
  rw [← hU] at this ⊢
  exact this
/-- the words and the room of a call -/
theorem zs_cb (F : zFix X) {q0 q : zM} (O : zOn q0 X) {idx n mc ms : Nat} (hH : zmH q = []) (hcw : zcw q ∈ zTb) (hin : Cond.initialized (zmN q).cls ∈ zTb) (hl : Cond.methodLink (xown X) idx (zmN q) ∈ zTb) (hd : (zmN q).cls ≠ "java/lang/invoke/MethodHandle" ∧ (zmN q).cls ≠ "java/lang/invoke/VarHandle" ∧ (parseMethodDescriptor (zmN q).desc).map (fun d => d.parameters.length) = some n) (hR : zmF q + 1 ≤ zmF q0 ∧ 8 + (zmL q + 11) + zmW q ≤ zmW q0) : CallB (xR X) (xs X) (xa X) (xown X) idx (zmN q) (zmB q) (zmL q) (zmR q) (zws q) (zrm q mc ms) mc ms n := by
  obtain ⟨hx, hb, -, hown, hts, hK, hA, hcl, hro⟩ := id F
  obtain ⟨o1, o2, o3, o4, o5, o6, o7, o8, o9, o10, o11⟩ := O
  have hsub : ∀ w ∈ zTb, w.before (xa X) (xs X) = true := fun w hw => hts w (by rw [o4]; exact List.mem_cons_of_mem _ hw)
  have hG : GoodIn zTb (zws q) := fun w hw => by
    have hw2 : w ∈ zTb := by
      rcases List.mem_cons.mp hw with h | h
      · rw [h]; exact hcw
      · exact h
    exact ⟨hw2, good_of_word (List.mem_filter.mp hw2).2⟩
  have hz : zcw q = Cond.code (zmN q) (zmB q) (zmL q) (zmR q) := by unfold zcw; rw [if_pos hH]
  refine ⟨rfl, rfl, by rw [o9]; exact hR.1, by rw [o10]; exact hR.2, pay_in hsub hG, by rw [← hz]; exact List.mem_cons_self, by rw [← hz]; exact hsub _ hcw, hsub _ hin, ⟨hd.1, hd.2.1⟩, fun sig h => ?_, hsub _ hl⟩
  have h2 := hd.2.2
  rw [h] at h2
  exact (Option.some.inj h2).symm
end ZCALL
end
section
/-! what is thrown: out of a method, into a handler, at its beginning -/
section ZEXC
variable {X : zX} {pc : Nat} {ls : zLs} {st : List Value} {σ : zS}
theorem zHd_out (F : zFix X) (V : zVx X) {q : zM} (O : zOn q X) {E : Nat} (hn : ∀ x ∈ zmH q, ¬ (x.1 ≤ pc ∧ pc < x.2.1) ∨ (x.2.2.2 ≠ 0 ∧ Cond.classLink (xown X) x.2.2.2 (zEx x.2.2.2) ∈ zTb ∧ (zEx E, zEx x.2.2.2) ∈ zNcs)) (hQ : xQ X = zQ X (.inr E) σ) (hr1 : znc σ - xnc X ≤ (xR X).cells) (hr2 : zns σ - xns X ≤ (xR X).slots) : zHd X pc ls E σ := by
  intro L rls H locs rest a ce h1 h2 h3 hc hv hcl
  obtain ⟨hx, hb, -, hown, hts, hK, hA, -, hro⟩ := id F
  obtain ⟨o1, o2, o3, o4, o5, o6, o7, o8, o9, o10, o11⟩ := O
  rw [hQ]
  refine vx_outP hown o5 (fun z hz => ?_) hc hv hcl (fun t ht _ => ⟨⟨L, E, rfl, rfl, (h1.end_ ht).1⟩, (h1.end_ ht).2⟩) h1.2.2.2.2.2.2.2.1.2.2 hr1 hr2
  rw [o8] at hz
  obtain ⟨x, hx1, rfl⟩ := List.mem_map.mp hz
  rcases hn x hx1 with h | ⟨g1, g2, g3⟩
  · refine Or.inl ?_
    show (decide _ && decide _) = false
    by_cases hs : x.1 ≤ pc
    · have : ¬ pc < x.2.1 := fun h9 => h ⟨hs, h9⟩
      rw [decide_eq_false this, Bool.and_false]
    · rw [decide_eq_false hs, Bool.false_and]
  · exact Or.inr ⟨g1, _, hts _ (by rw [o4]; exact List.mem_cons_of_mem _ g2), V.2.2.2.2.2.2.2.1 _ g3⟩
theorem zHd_in (F : zFix X) (V : zVx X) {q : zM} (O : zOn q X) {E h9 : Nat} (pre suf : List (Nat × Nat × Nat × Nat)) {x : Nat × Nat × Nat × Nat} (hs : zmH q = pre ++ x :: suf) (hp : ∀ z ∈ pre, ¬ (z.1 ≤ pc ∧ pc < z.2.1) ∨ (z.2.2.2 ≠ 0 ∧ Cond.classLink (xown X) z.2.2.2 (zEx z.2.2.2) ∈ zTb ∧ (zEx E, zEx z.2.2.2) ∈ zNcs)) (hx1 : x.1 ≤ pc ∧ pc < x.2.1) (hx0 : x.2.2.2 ≠ 0) (hxE : x.2.2.2 = E) (hxh : x.2.2.1 = h9) (hl : Cond.classLink (xown X) E (zEx E) ∈ zTb) (hca : Cond.castable (zEx E) (zEx E) ∈ zWs)
    (kk : ∀ (L : List Nat) (rls : Array Slot) (H : Heap) (locs : List Loc) (a : Nat), zRel X L σ H locs → zlv L rls (xnL X) ls → zlo L.length ls → zWX X H locs (znc σ - xnc X) (zns σ - xns X) (F0 (xm X) h9 rls [.ref a])) : zHd X pc ls E σ := by
  intro L rls H locs rest a ce h1 h2 h3 hc hv hcl
  obtain ⟨hx, hb, -, hown, hts, hK, hA, -, hro⟩ := id F
  obtain ⟨o1, o2, o3, o4, o5, o6, o7, o8, o9, o10, o11⟩ := O
  have hca2 : (Cond.castable (zEx E) (zEx E)).before (xa X) (xs X) = true := va_Nw.use rfl (V.2.2.2.2.2.2.2.2.1 _ hca)
  refine vx_catch (name := zEx E) (E := zEx E) hown (tableOf pre) ⟨x.1, x.2.1, x.2.2.1, x.2.2.2⟩ (tableOf suf) (by rw [o8, hs]; exact List.map_append) (fun z hz => ?_) ?_ hx0 (by rw [show (⟨x.1, x.2.1, x.2.2.1, x.2.2.2⟩ : ExceptionTableEntry).catchType = E from hxE]; exact hts _ (by rw [o4]; exact List.mem_cons_of_mem _ hl)) hca2 hc hv hcl ?_
  · obtain ⟨x9, hx9, rfl⟩ := List.mem_map.mp hz
    rcases hp x9 hx9 with h | ⟨g1, g2, g3⟩
    · refine Or.inl ?_
      show (decide _ && decide _) = false
      by_cases hs : x9.1 ≤ pc
      · have : ¬ pc < x9.2.1 := fun h9 => h ⟨hs, h9⟩
        rw [decide_eq_false this, Bool.and_false]
      · rw [decide_eq_false hs, Bool.false_and]
    · exact Or.inr ⟨g1, _, hts _ (by rw [o4]; exact List.mem_cons_of_mem _ g2), V.2.2.2.2.2.2.2.1 _ g3⟩
  · show (decide _ && decide _) = true
    rw [decide_eq_true hx1.1, decide_eq_true hx1.2]
    rfl
  · show W _ _ _ _ _ _ _ _ _ _ _ _ _ _ _ (F0 _ x.2.2.1 _ _)
    rw [hxh]
    exact kk L rls H locs a h1 h2 h3
theorem zHd_st (F : zFix X) (V : zVx X) {q : zM} (O : zOn q X) {E h9 k : Nat} (pre suf : List (Nat × Nat × Nat × Nat)) {x : Nat × Nat × Nat × Nat} (hs : zmH q = pre ++ x :: suf) (hp : ∀ z ∈ pre, ¬ (z.1 ≤ pc ∧ pc < z.2.1) ∨ (z.2.2.2 ≠ 0 ∧ Cond.classLink (xown X) z.2.2.2 (zEx z.2.2.2) ∈ zTb ∧ (zEx E, zEx z.2.2.2) ∈ zNcs)) (hx1 : x.1 ≤ pc ∧ pc < x.2.1) (hx0 : x.2.2.2 ≠ 0) (hxE : x.2.2.2 = E) (hxh : x.2.2.1 = h9) (hl : Cond.classLink (xown X) E (zEx E) ∈ zTb) (hca : Cond.castable (zEx E) (zEx E) ∈ zWs)
    (d : decode (xcc X) h9 = .ok (.astore k, 2)) (hk : k < ls.length) (K : zC X (h9 + 2) ((zkl ls k).set k none) [] σ) : zHd X pc ls E σ :=
  zHd_in F V O pre suf hs hp hx1 hx0 hxE hxh hl hca fun L rls H locs a h1 h2 h3 => lv_astore F.1 F.2.1 d h2.has (by rw [← h2.2.2.1]; exact hk) rfl fun rls' h' => K L rls' H locs h1 (h2.st0 (by rw [← h2.2.2.1]; exact hk) h') h3.st0 (fun v hv => nomatch hv)
theorem zHd_stn (F : zFix X) (V : zVx X) {q : zM} (O : zOn q X) {E h9 : Nat} {k : Fin 4} (pre suf : List (Nat × Nat × Nat × Nat)) {x : Nat × Nat × Nat × Nat} (hs : zmH q = pre ++ x :: suf) (hp : ∀ z ∈ pre, ¬ (z.1 ≤ pc ∧ pc < z.2.1) ∨ (z.2.2.2 ≠ 0 ∧ Cond.classLink (xown X) z.2.2.2 (zEx z.2.2.2) ∈ zTb ∧ (zEx E, zEx z.2.2.2) ∈ zNcs)) (hx1 : x.1 ≤ pc ∧ pc < x.2.1) (hx0 : x.2.2.2 ≠ 0) (hxE : x.2.2.2 = E) (hxh : x.2.2.1 = h9) (hl : Cond.classLink (xown X) E (zEx E) ∈ zTb) (hca : Cond.castable (zEx E) (zEx E) ∈ zWs)
    (d : decode (xcc X) h9 = .ok (.astore_n k, 1)) (hk : (k : Nat) < ls.length) (K : zC X (h9 + 1) ((zkl ls k).set k none) [] σ) : zHd X pc ls E σ :=
  zHd_in F V O pre suf hs hp hx1 hx0 hxE hxh hl hca fun L rls H locs a h1 h2 h3 => lv_astore_n F.1 F.2.1 d rfl h2.has (by rw [← h2.2.2.1]; exact hk) rfl fun rls' h' => K L rls' H locs h1 (h2.st0 (by rw [← h2.2.2.1]; exact hk) h') h3.st0 (fun v hv => nomatch hv)
/-- the superclasses of what is thrown, up to Throwable -/
def zNm : List String := ["java/lang/RuntimeException", "java/lang/Exception"]
/-- the words of a throw that isn't of the kinds of zTb -/
theorem zs_at (F : zFix X) (V : zVx X) {q : zM} (O : zOn q X) {ic : Nat} {cls : String} (hg : ∀ w ∈ vx_atS (xown X) ic cls zNm, w ∈ zTb ∨ w ∈ zWs) : ∀ w ∈ vx_atS (xown X) ic cls zNm, w.before (xa X) (xs X) = true := by
  intro w hw
  rcases hg w hw with h | h
  · exact F.2.2.2.2.1 _ (by rw [O.2.2.2.1]; exact List.mem_cons_of_mem _ h)
  · exact va_Nw.use (zWk_tabs (List.mem_filter.mp h).2) (V.2.2.2.2.2.2.2.2.1 _ h)
theorem zs_ot {w : Cond} (h : w ∈ zTb ∨ w ∈ zWs) : vx_ot w = true := by
  rcases h with h | h
  · show (w.onTables || goodWord w) = true
    rw [(List.mem_filter.mp h).2, Bool.or_true]
  · show (w.onTables || goodWord w) = true
    rw [zWk_tabs (List.mem_filter.mp h).2, Bool.true_or]
theorem zs_tX {E : Nat} {L : List Nat} {H : Heap} {locs : List Loc} (h1 : zRel X L σ H locs) (t : State) (hz : H.size ≤ t.heap.size) (hq : ∀ q : Nat, q < H.size → t.heap[q]? = H[q]?) : zXc (xY X) (xA X) (xL0 X) (.inr E) (zthr σ) (zEx E) (xs X) t := by
  obtain ⟨r1, r2, r3, r4, r5, r6, r7, r8, r9, r10, r11⟩ := h1
  refine ⟨⟨L, E, rfl, rfl, r1, r2, r4, r5, fun k q hk => (r6 k q hk).kept (hq q.1 (r6 k q hk).lt), r7, r9⟩, Nat.le_trans r8.1 hz, fun q h h2 => ?_⟩
  rw [hq q (Nat.lt_of_lt_of_le h r8.1)]
  exact r8.2.1 q h h2
theorem zs_throw (F : zFix X) (V : zVx X) {q : zM} (O : zOn q X) {E ik is ic : Nat} {text : String} (hcls : Bundle.fit (zEx E) = true) (hk : Cond.classLink (xown X) ik (zEx E) ∈ zTb) (hini : Cond.initialized (zEx E) ∈ zTb) (hstr : (xown X, is, text) ∈ zStr) (hg : ∀ w ∈ vx_atS (xown X) ic (zEx E) zNm, w ∈ zTb ∨ w ∈ zWs) (hH : zmH q = [])
    (d0 : decode (xcc X) pc = .ok (.new ik, 3)) (d3 : decode (xcc X) (pc + 3) = .ok (.dup, 1)) (hd : (decode (xcc X) (pc + 4) = .ok (.ldc is, 2) ∧ decode (xcc X) (pc + 6) = .ok (.invokespecial ic, 3) ∧ decode (xcc X) (pc + 9) = .ok (.athrow, 1)) ∨ (decode (xcc X) (pc + 4) = .ok (.ldc_w is, 3) ∧ decode (xcc X) (pc + 7) = .ok (.invokespecial ic, 3) ∧ decode (xcc X) (pc + 10) = .ok (.athrow, 1)))
    (hf : 6 ≤ zmF q) (hw : 82 ≤ zmW q) (hQ : xQ X = zQ X (.inr E) (zthr σ)) (hr1 : znc (zthr σ) - xnc X ≤ (xR X).cells) (hr2 : zns (zthr σ) - xns X ≤ (xR X).slots) : zC X pc ls [] σ := by
  intro L rls H locs h1 h2 h3 h4
  obtain ⟨hx, hb, hml, hown, hts, hK, hA, -, hro⟩ := id F
  obtain ⟨o1, o2, o3, o4, o5, o6, o7, o8, o9, o10, o11⟩ := id O
  have c1 := h1.2.2.2.2.2.2.2.2.2.1
  have c2 := h1.2.2.2.2.2.2.2.2.2.2
  obtain ⟨sa, hsa⟩ := V.2.2.2.2.2.2.1 _ hstr
  have hsub : ∀ w ∈ zTb, w.before (xa X) (xs X) = true := fun w hw => hts w (by rw [o4]; exact List.mem_cons_of_mem _ hw)
  have hout : ∀ pc9, ∀ x ∈ (xc X).exceptionTable.toList, covers x pc9 = false := by
    intro pc9 x hx9
    rw [o8, hH] at hx9
    cases hx9
  have hgood : ∀ w ∈ Cond.classLink (xown X) ik (zEx E) :: Cond.initialized (zEx E) :: vx_atS (xown X) ic (zEx E) zNm, vx_ot w = true := by
    intro w hw9
    rcases List.mem_cons.mp hw9 with h | hw9
    · exact zs_ot (Or.inl (by rw [h]; exact hk))
    · rcases List.mem_cons.mp hw9 with h | hw9
      · exact zs_ot (Or.inl (by rw [h]; exact hini))
      · exact zs_ot (hg w hw9)
  have hnm : ∀ n ∈ zNm, Bundle.fit n = true := by decide +kernel
  have g1 : znc σ - xnc X + 1 = znc (zthr σ) - xnc X := by show _ = znc σ + 1 - _; omega
  have g2 : zns σ - xns X + 6 = zns (zthr σ) - xns X := by show _ = zns σ + 6 - _; omega
  unfold zWX
  rw [hQ]
  rcases hd with ⟨d4, d6, d9⟩ | ⟨d4, d6, d9⟩
  · exact vx_throwS (names := zNm) (ik := ik) (is := is) (ic := ic) (text := text) (sa := sa) (A := xA X) hx hb o11 hown hcls hnm (hsub _ hk) (hsub _ hini) hsa (zs_at F V O hg) hgood V.2.2.2.2.1 V.2.2.2.2.2.1 h1.2.2.2.2.2.2.2.1 (by rw [hml]; exact h2.1) d0 d3 d4 d6 d9 (hout _) (by rw [o9]; exact Nat.lt_of_lt_of_le (by decide) hf) (by rw [o10]; exact Nat.le_trans (show 0 + (13 * (2 + 1) + 43) ≤ 82 by decide) hw) (by rw [g1]; exact hr1) (by rw [g2]; exact hr2) o5 (fun t _ hz hq => zs_tX h1 t hz hq) h1.2.2.2.2.2.2.2.1.2.2 (by rw [g1]; exact hr1) (by rw [g2]; exact hr2)
  · exact vx_throwSW (names := zNm) (ik := ik) (is := is) (ic := ic) (text := text) (sa := sa) (A := xA X) hx hb o11 hown hcls hnm (hsub _ hk) (hsub _ hini) hsa (zs_at F V O hg) hgood V.2.2.2.2.1 V.2.2.2.2.2.1 h1.2.2.2.2.2.2.2.1 (by rw [hml]; exact h2.1) d0 d3 d4 d6 d9 (hout _) (by rw [o9]; exact Nat.lt_of_lt_of_le (by decide) hf) (by rw [o10]; exact Nat.le_trans (show 0 + (13 * (2 + 1) + 43) ≤ 82 by decide) hw) (by rw [g1]; exact hr1) (by rw [g2]; exact hr2) o5 (fun t _ hz hq => zs_tX h1 t hz hq) h1.2.2.2.2.2.2.2.1.2.2 (by rw [g1]; exact hr1) (by rw [g2]; exact hr2)
end ZEXC
end
section
/-! calls, by kind -/
section ZCALLS
variable {X : zX} {pc : Nat} {ls : zLs} {σ : zS}
/-- what every call asks of the tables and of the room, but its link -/
def zCd (q0 q : zM) (n : Nat) : Prop := zcw q ∈ zTb ∧ Cond.initialized (zmN q).cls ∈ zTb ∧ ((zmN q).cls ≠ "java/lang/invoke/MethodHandle" ∧ (zmN q).cls ≠ "java/lang/invoke/VarHandle" ∧ (parseMethodDescriptor (zmN q).desc).map (fun d => d.parameters.length) = some n) ∧ zmF q + 1 ≤ zmF q0 ∧ 8 + (zmL q + 11) + zmW q ≤ zmW q0
theorem zs_sub (F : zFix X) {q0 : zM} (O : zOn q0 X) : ∀ w ∈ zTb, w.before (xa X) (xs X) = true := fun w hw => F.2.2.2.2.1 w (by rw [O.2.2.2.1]; exact List.mem_cons_of_mem _ hw)
theorem zs_cbA (F : zFix X) {q0 q : zM} (O : zOn q0 X) {n mc ms : Nat} (hc : zCd q0 q n) : ((zrm q mc ms).cells = mc ∧ (zrm q mc ms).slots = ms ∧ (zrm q mc ms).frames + 1 ≤ (xR X).frames ∧ 8 + (zmL q + 11) + (zrm q mc ms).locals ≤ (xR X).locals ∧ (∀ w ∈ zws q, ∀ (a' : Array Value) (U : State), (xs X).WarmedH U.vm → w.before a' U = true) ∧ zcw q ∈ zws q) ∧ (zcw q).before (xa X) (xs X) = true ∧ (Cond.initialized (zmN q).cls).before (xa X) (xs X) = true ∧ ((zmN q).cls ≠ "java/lang/invoke/MethodHandle" ∧ (zmN q).cls ≠ "java/lang/invoke/VarHandle") ∧ ∀ sig, parseMethodDescriptor (zmN q).desc = some sig → n = sig.parameters.length := by
  obtain ⟨hcw, hin, hd, hR1, hR2⟩ := hc
  have hsub := zs_sub F O
  have hG : GoodIn zTb (zws q) := fun w hw => by
    have hw2 : w ∈ zTb := by
      rcases List.mem_cons.mp hw with h | h
      · rw [h]; exact hcw
      · exact h
    exact ⟨hw2, good_of_word (List.mem_filter.mp hw2).2⟩
  refine ⟨⟨rfl, rfl, by rw [O.2.2.2.2.2.2.2.2.1]; exact hR1, by rw [O.2.2.2.2.2.2.2.2.2.1]; exact hR2, pay_in hsub hG, List.mem_cons_self⟩, hsub _ hcw, hsub _ hin, ⟨hd.1, hd.2.1⟩, fun sig h => ?_⟩
  have h2 := hd.2.2
  rw [h] at h2
  exact (Option.some.inj h2).symm
theorem zs_stk {L : List Nat} {vs rest : List Value} : (vs.reverse ++ rest).map (zt L) = (vs.map (zt L)).reverse ++ rest.map (zt L) := by rw [List.map_append, List.map_reverse]
theorem zs_low {L : List Nat} {rest : List Value} (h : (rest.map fun v => v.category).sum ≤ 8) : ((rest.map (zt L)).map fun v => v.category).sum ≤ 8 := by
  rw [List.map_map]
  have : ((fun v : Value => v.category) ∘ zt L) = fun v => v.category := funext fun v => zt_cat L v
  rw [this]
  exact h
theorem zso.rev {n : Nat} {vs rest : List Value} (h : zso n (vs.reverse ++ rest)) : zso n vs ∧ zso n rest := ⟨fun v hv => h v (List.mem_append_left _ (List.mem_reverse.mpr hv)), fun v hv => h v (List.mem_append_right _ hv)⟩
theorem zcw_no {q : zM} (h : zmH q = []) : zcw q = Cond.code (zmN q) (zmB q) (zmL q) (zmR q) := by unfold zcw; rw [if_pos h]
theorem zcw_hs {q : zM} (h : ¬ zmH q = []) : zcw q = Cond.codeWith (zmN q) (zmB q) (zmL q) (zmR q) (zmH q) := by unfold zcw; rw [if_neg h]
/-- invokestatic -/
theorem zs_S (F : zFix X) (V : zVx X) {q0 : zM} (O : zOn q0 X) {P : Nat → zM} {y idx : Nat} {vs rest : List Value} {o : zO} {σ1 : zS} (hM : zMet (xl X) (xY X) P y vs σ o σ1) (hc : zCd q0 (P y) vs.length) (hst : Cond.static (zmN (P y)) ∈ zTb) (hl : Cond.methodLink (xown X) idx (zmN (P y)) ∈ zTb ∨ ∃ host, Cond.methodLinkNest (xown X) idx (zmN (P y)) host ∈ zWs ∧ zmH (P y) = []) (hlow : (rest.map fun v => v.category).sum ≤ 8) (d : decode (xcc X) pc = .ok (.invokestatic idx, 3)) (hm : znc σ ≤ znc σ1 ∧ zns σ ≤ zns σ1) (hr1 : znc σ1 - xnc X ≤ (xR X).cells) (hr2 : zns σ1 - xns X ≤ (xR X).slots)
    (K1 : ∀ v, o = .inl v → zC X (pc + 3) ls (v.toList ++ rest) σ1) (K2 : ∀ E, o = .inr E → zHd X pc ls E σ1) : zC X pc ls (vs.reverse ++ rest) σ := by
  intro L rls H locs h1 h2 h3 h4
  obtain ⟨hx, hb, hml, hown, hts, hK, hA, -, hro⟩ := id F
  have hv := h4.rev
  have hsub := zs_sub F O
  have c1 := h1.2.2.2.2.2.2.2.2.2.1
  have c2 := h1.2.2.2.2.2.2.2.2.2.2
  obtain ⟨b1, b2, b3, b4, b5⟩ := zs_cbA F O (mc := znc σ1 - znc σ) (ms := zns σ1 - zns σ) hc
  refine zs_back F h1 h2 h3 hv.2 hm ?_ K1 K2 (a := (vs.map (zt L)).toArray)
  have hp : PreS (xs X) H (zPc (xY X) L σ H.size vs) (vs.map (zt L)) := ⟨zPc_blind _ _ _ _ _, fun U hU hW => zs_pre F V h1 hv.1 U hU hW⟩
  have hf : znc σ - xnc X + (znc σ1 - znc σ) ≤ (xR X).cells ∧ zns σ - xns X + (zns σ1 - zns σ) ≤ (xR X).slots := ⟨by omega, by omega⟩
  rcases hl with hl | ⟨host, hl, hH⟩
  · by_cases hH : zmH (P y) = []
    · have ez := zcw_no hH
      rw [ez] at b1 b2
      exact vx_runS ⟨hx, hb, hml, hown, hts⟩ (hM L H.size) ⟨⟨b1.1, b1.2.1, b1.2.2.1, b1.2.2.2.1, b1.2.2.2.2.1, b1.2.2.2.2.2, b2, b3, b4, b5, hsub _ hl⟩, hsub _ hst⟩ hp rfl (List.length_map _) h2.1 zs_stk (lv_room (zs_low hlow)) d hf
    · have ez := zcw_hs hH
      rw [ez] at b1 b2
      exact vx_runSX ⟨hx, hb, hml, hown, hts⟩ (hM L H.size) ⟨b1, b2, b3, b4, b5, hsub _ hl, hsub _ hst⟩ hp rfl (List.length_map _) h2.1 zs_stk (lv_room (zs_low hlow)) d hf
  · have ez := zcw_no hH
    rw [ez] at b1 b2
    exact vx_runSN ⟨hx, hb, hml, hown, hts⟩ (hM L H.size) ⟨⟨b1, b2, b3, b4, b5, va_Nw.use rfl (V.2.2.2.2.2.2.2.2.1 _ hl)⟩, hsub _ hst, trivial⟩ hp rfl (List.length_map _) h2.1 zs_stk (lv_room (zs_low hlow)) d hf
/-- invokevirtual -/
theorem zs_V (F : zFix X) (V : zVx X) {q0 : zM} (O : zOn q0 X) {P : Nat → zM} {y idx b k n N : Nat} {T : u_T} {vs rest : List Value} {o : zO} {σ1 : zS} (hM : zMet (xl X) (xY X) P y (.ref b :: vs) σ o σ1) (hc : zCd q0 (P y) vs.length) (hH : zmH (P y) = []) (hb0 : σ.1[b]? = some (k, n)) (hcl : (xcl X)[k]? = some ((zmN (P y)).cls, T, N)) (hin : Cond.instanceMethod (zmN (P y)) ∈ zTb) (hse : Cond.selects (zmN (P y)).cls (zmN (P y)) (zmN (P y)) ∈ zTb) (hl : Cond.methodLink (xown X) idx (zmN (P y)) ∈ zTb) (hlow : (rest.map fun v => v.category).sum ≤ 8) (d : decode (xcc X) pc = .ok (.invokevirtual idx, 3)) (hm : znc σ ≤ znc σ1 ∧ zns σ ≤ zns σ1) (hr1 : znc σ1 - xnc X ≤ (xR X).cells) (hr2 : zns σ1 - xns X ≤ (xR X).slots)
    (K1 : ∀ v, o = .inl v → zC X (pc + 3) ls (v.toList ++ rest) σ1) (K2 : ∀ E, o = .inr E → zHd X pc ls E σ1) : zC X pc ls (vs.reverse ++ .ref b :: rest) σ := by
  intro L rls H locs h1 h2 h3 h4
  obtain ⟨hx, hb, hml, hown, hts, hK, hA, hcls, hro⟩ := id F
  have hv := h4.rev
  have hsub := zs_sub F O
  have c1 := h1.2.2.2.2.2.2.2.2.2.1
  have c2 := h1.2.2.2.2.2.2.2.2.2.2
  obtain ⟨b1, b2, b3, b4, b5⟩ := zs_cbA F O (mc := znc σ1 - znc σ) (ms := zns σ1 - zns σ) hc
  refine zs_back F h1 h2 h3 hv.2.tl hm ?_ K1 K2 (a := (((.ref b :: vs : List Value)).map (zt L)).toArray)
  obtain ⟨q1, -⟩ := hcls k _ T N hcl
  have hp9 := h1.lt hb0 (by omega)
  have hz := zw_at (ft := xft X) (cA := xcA X) (L := L) hp9.1 hp9.2
  rw [ze_obj hb0 q1] at hz
  have hp : PreV (xs X) H (zmN (P y)).cls (L.getD b 0) (zPc (xY X) L σ H.size (.ref b :: vs)) (vs.map (zt L)) := ⟨zPc_blind _ _ _ _ _, va_recv hK h1.2.2.2.2.2.1 hcl hz, fun U hU hW => zs_pre F V h1 (hv.1.cons hv.2.hd) U hU hW⟩
  have hf : znc σ - xnc X + (znc σ1 - znc σ) ≤ (xR X).cells ∧ zns σ - xns X + (zns σ1 - zns σ) ≤ (xR X).slots := ⟨by omega, by omega⟩
  have ez := zcw_no hH
  rw [ez] at b1 b2
  exact vx_runV ⟨hx, hb, hml, hown, hts⟩ (hM L H.size) ⟨⟨b1.1, b1.2.1, b1.2.2.1, b1.2.2.2.1, b1.2.2.2.2.1, b1.2.2.2.2.2, b2, b3, b4, b5, hsub _ hl⟩, hsub _ hin, hsub _ hse⟩ hp rfl (List.length_map _) h2.1 zs_stk (lv_room (zs_low hlow)) d hf
/-- a constructor -/
theorem zs_I (F : zFix X) (V : zVx X) {q0 : zM} (O : zOn q0 X) {P : Nat → zM} {y idx b : Nat} {vs rest : List Value} {o : zO} {σ1 : zS} (hM : zMet (xl X) (xY X) P y (.ref b :: vs) σ o σ1) (hc : zCd q0 (P y) vs.length) (hH : zmH (P y) = []) (hr : zmR (P y) = none) (hnm : (zmN (P y)).name = "<init>") (hin : Cond.instanceMethod (zmN (P y)) ∈ zTb) (hl : Cond.methodLink (xown X) idx (zmN (P y)) ∈ zTb ∨ ∃ host, Cond.methodLinkNest (xown X) idx (zmN (P y)) host ∈ zWs) (hlow : (rest.map fun v => v.category).sum ≤ 8) (d : decode (xcc X) pc = .ok (.invokespecial idx, 3)) (hm : znc σ ≤ znc σ1 ∧ zns σ ≤ zns σ1) (hr1 : znc σ1 - xnc X ≤ (xR X).cells) (hr2 : zns σ1 - xns X ≤ (xR X).slots)
    (K1 : ∀ v, o = .inl v → zC X (pc + 3) ls (v.toList ++ rest) σ1) (K2 : ∀ E, o = .inr E → zHd X pc ls E σ1) : zC X pc ls (vs.reverse ++ .ref b :: rest) σ := by
  intro L rls H locs h1 h2 h3 h4
  obtain ⟨hx, hb, hml, hown, hts, hK, hA, hcls, hro⟩ := id F
  have hv := h4.rev
  have hsub := zs_sub F O
  have c1 := h1.2.2.2.2.2.2.2.2.2.1
  have c2 := h1.2.2.2.2.2.2.2.2.2.2
  obtain ⟨b1, b2, b3, b4, b5⟩ := zs_cbA F O (mc := znc σ1 - znc σ) (ms := zns σ1 - zns σ) hc
  refine zs_back F h1 h2 h3 hv.2.tl hm ?_ K1 K2 (a := (((.ref b :: vs : List Value)).map (zt L)).toArray)
  have hp : PreS (xs X) H (zPc (xY X) L σ H.size (.ref b :: vs)) (.ref (L.getD b 0) :: vs.map (zt L)) := ⟨zPc_blind _ _ _ _ _, fun U hU hW => zs_pre F V h1 (hv.1.cons hv.2.hd) U hU hW⟩
  have hf : znc σ - xnc X + (znc σ1 - znc σ) ≤ (xR X).cells ∧ zns σ - xns X + (zns σ1 - zns σ) ≤ (xR X).slots := ⟨by omega, by omega⟩
  have ez := zcw_no hH
  rw [ez, hr] at b1 b2
  rcases hl with hl | ⟨host, hl⟩
  · exact vx_runI ⟨hx, hb, hml, hown, hts⟩ (hM L H.size) ⟨⟨b1.1, b1.2.1, b1.2.2.1, b1.2.2.2.1, b1.2.2.2.2.1, b1.2.2.2.2.2, b2, b3, b4, b5, hsub _ hl⟩, hnm, hsub _ hin⟩ hp rfl (List.length_map _) h2.1 zs_stk (lv_room (zs_low hlow)) d hf
  · exact vx_runIN ⟨hx, hb, hml, hown, hts⟩ (hM L H.size) ⟨⟨b1, b2, b3, b4, b5, va_Nw.use rfl (V.2.2.2.2.2.2.2.2.1 _ hl)⟩, hnm, hsub _ hin⟩ hp rfl (List.length_map _) h2.1 zs_stk (lv_room (zs_low hlow)) d hf
/-- Object's own constructor -/
theorem zs_O (F : zFix X) {q0 : zM} (O : zOn q0 X) {idx b : Nat} {rest : List Value} (hl : Cond.methodLink (xown X) idx Lib.objectInit ∈ zTb) (hin : Cond.instanceMethod Lib.objectInit ∈ zTb) (hcd : Cond.code Lib.objectInit ⟨#[0xb1]⟩ 1 none ∈ zTb) (hf : 1 ≤ zmF q0) (hw : 20 ≤ zmW q0) (hlow : (rest.map fun v => v.category).sum ≤ 8) (d : decode (xcc X) pc = .ok (.invokespecial idx, 3)) (K : zC X (pc + 3) ls rest σ) : zC X pc ls (.ref b :: rest) σ := by
  intro L rls H locs h1 h2 h3 h4
  obtain ⟨hx, hb, hml, hown, hts, hK, hA, hcls, hro⟩ := id F
  have hsub := zs_sub F O
  have hlw := lv_room (m := xm X) (pc := pc) (ls := rls) (rest := (.ref b :: rest).map (zt L)) (zs_low (L := L) hlow)
  refine W.objInit hx hb hown (hsub _ hl) (hsub _ hin) (hsub _ hcd) rfl (by rw [h2.1, hml]) (rest := rest.map (zt L)) rfl d (by rw [O.2.2.2.2.2.2.2.2.1]; exact hf) ?_ (K L rls H locs h1 h2 h3 h4.tl)
  rw [O.2.2.2.2.2.2.2.2.2.1]
  omega
end ZCALLS
end
section
/-! what holds of every run of the interpreter: more is made, never less; more fuel, the same end -/
section ZMONO
variable {P : Nat → zM} {ft : Nat → List FieldType} {ro : Nat → Int32 → zS → Option (zO × zS)}
theorem zback_rel {Rel : zS → zS → Prop} (hrf : ∀ σ, Rel σ σ) (htr : ∀ a b c, Rel a b → Rel b c → Rel a c) {rec : zR} (hrec : ∀ y pc ls st σ o σ', rec y pc ls st σ = some (o, σ') → Rel σ σ') {y pc : Nat} {ls : zLs} {rest : List Value} {σ : zS} {r : Option (zO × zS)} (hr : ∀ o σ1, r = some (o, σ1) → Rel σ σ1) {o : zO} {σ' : zS} (h : zback P rec y pc ls rest r = some (o, σ')) : Rel σ σ' := by
  unfold zback at h
  split at h
  · cases h
  · exact htr _ _ _ (hr _ _ rfl) (hrec _ _ _ _ _ _ _ h)
  · split at h
    · cases h
      exact hr _ _ rfl
    · split at h
      · split at h
        · exact htr _ _ _ (hr _ _ rfl) (hrec _ _ _ _ _ _ _ h)
        · cases h
      · split at h
        · exact htr _ _ _ (hr _ _ rfl) (hrec _ _ _ _ _ _ _ h)
        · cases h
      · cases h
set_option maxHeartbeats 4000000 in
theorem zst_rel {Rel : zS → zS → Prop} (hrf : ∀ σ, Rel σ σ) (htr : ∀ a b c, Rel a b → Rel b c → Rel a c) (hfp : ∀ σ a f v σ1, zfp σ a f v = some σ1 → Rel σ σ1) (hia : ∀ (σ : zS) a i x, Rel σ (σ.1, zup σ.2.1 a i x, σ.2.2)) (haa : ∀ (σ : zS) a i x, Rel σ (σ.1, σ.2.1, zup σ.2.2.1 a i x, σ.2.2.2)) (hnw : ∀ σ k n, Rel σ (znw σ k n)) (hth : ∀ σ, Rel σ (zthr σ)) (hro : ∀ m r σ o σ', ro m r σ = some (o, σ') → Rel σ σ')
    {rec : zR} (hrec : ∀ y pc ls st σ o σ', rec y pc ls st σ = some (o, σ') → Rel σ σ') {y pc : Nat} {ls : zLs} {st : List Value} {σ : zS} {e : zI} {o : zO} {σ' : zS} (h : zst P ft ro rec y pc ls st σ e = some (o, σ')) : Rel σ σ' := by
  obtain ⟨i, r1, r2, r3, tg⟩ := e
  cases i <;> dsimp only [zst] at h
  all_goals first | (cases h; done) | exact hrec _ _ _ _ _ _ _ h | skip
  all_goals repeat' split at h
  all_goals first
    | (cases h; done)
    | exact hrec _ _ _ _ _ _ _ h
    | (cases h; exact hrf _)
    | (cases h; exact hth _)
    | exact htr _ _ _ (hnw _ _ _) (hrec _ _ _ _ _ _ _ h)
    | exact htr _ _ _ (hia _ _ _ _) (hrec _ _ _ _ _ _ _ h)
    | exact htr _ _ _ (haa _ _ _ _) (hrec _ _ _ _ _ _ _ h)
    | exact htr _ _ _ (hfp _ _ _ _ _ (by assumption)) (hrec _ _ _ _ _ _ _ h)
    | exact htr _ _ _ (hro _ _ _ _ _ (by assumption)) (hrec _ _ _ _ _ _ _ h)
    | exact zback_rel hrf htr hrec (fun o σ1 hq => hrec _ _ _ _ _ _ _ hq) h
    | exact zback_rel hrf htr hrec (fun o σ1 hq => by split at hq; exact hrec _ _ _ _ _ _ _ hq; cases hq) h
    | exact zback_rel hrf htr hrec (fun o σ1 hq => by cases hq; exact hro _ _ _ _ _ (by assumption)) h
    | skip
theorem zx_rel {Rel : zS → zS → Prop} (hrf : ∀ σ, Rel σ σ) (htr : ∀ a b c, Rel a b → Rel b c → Rel a c) (hfp : ∀ σ a f v σ1, zfp σ a f v = some σ1 → Rel σ σ1) (hia : ∀ (σ : zS) a i x, Rel σ (σ.1, zup σ.2.1 a i x, σ.2.2)) (haa : ∀ (σ : zS) a i x, Rel σ (σ.1, σ.2.1, zup σ.2.2.1 a i x, σ.2.2.2)) (hnw : ∀ σ k n, Rel σ (znw σ k n)) (hth : ∀ σ, Rel σ (zthr σ)) (hro : ∀ m r σ o σ', ro m r σ = some (o, σ') → Rel σ σ') : ∀ (n : Nat) (y pc : Nat) (ls : zLs) (st : List Value) (σ : zS) (o : zO) (σ' : zS), zx P ft ro n y pc ls st σ = some (o, σ') → Rel σ σ'
  | 0, _, _, _, _, _, _, _, h => by cases h
  | n + 1, y, pc, ls, st, σ, o, σ', h => by
    have ih := zx_rel hrf htr hfp hia haa hnw hth hro n
    unfold zx at h
    split at h
    · cases h
    · exact zst_rel hrf htr hfp hia haa hnw hth hro ih h
def zLe (σ σ' : zS) : Prop := znc σ ≤ znc σ' ∧ zns σ ≤ zns σ'
theorem zx_le (hro : ∀ m r σ o σ', ro m r σ = some (o, σ') → zLe σ σ') {n y pc : Nat} {ls : zLs} {st : List Value} {σ : zS} {o : zO} {σ' : zS} (h : zx P ft ro n y pc ls st σ = some (o, σ')) : zLe σ σ' :=
  zx_rel (Rel := zLe) (fun σ => ⟨Nat.le_refl _, Nat.le_refl _⟩) (fun a b c h1 h2 => ⟨Nat.le_trans h1.1 h2.1, Nat.le_trans h1.2 h2.2⟩) (fun σ a f v σ1 h => by have := zfp_K h; exact ⟨Nat.le_of_eq this.2.1.symm, Nat.le_of_eq this.2.2.symm⟩) (fun σ a i x => ⟨Nat.le_refl _, Nat.le_refl _⟩) (fun σ a i x => ⟨Nat.le_refl _, Nat.le_refl _⟩) (fun σ k n => ⟨Nat.le_succ _, Nat.le_add_right _ _⟩) (fun σ => ⟨Nat.le_succ _, Nat.le_add_right _ _⟩) hro n y pc ls st σ o σ' h
theorem zback_mono {rec rec2 : zR} (hrec : ∀ y pc ls st σ r, rec y pc ls st σ = some r → rec2 y pc ls st σ = some r) {y pc : Nat} {ls : zLs} {rest : List Value} {a b : Option (zO × zS)} (hab : ∀ r, a = some r → b = some r) {r : zO × zS} (h : zback P rec y pc ls rest a = some r) : zback P rec2 y pc ls rest b = some r := by
  cases a with
  | none => cases h
  | some q =>
    rw [hab q rfl]
    obtain ⟨o, σ⟩ := q
    cases o with
    | inl v => exact hrec _ _ _ _ _ _ h
    | inr E =>
      dsimp only [zback] at h ⊢
      repeat' split at h
      all_goals first
        | (cases h; done)
        | exact h
        | (rename_i h1; simp only [h1, if_true]; first | exact h | exact hrec _ _ _ _ _ _ h)
        | skip
      all_goals first
        | (simp_all; done)
        | (simp only [*, if_true]; exact hrec _ _ _ _ _ _ h)
        | skip
end ZMONO
end
section
/-! the interpreter and the machine: what the tables must say of an instruction, and that this is enough -/
def zmem (k : Nat) (w : Cond) : Bool := decide (lw_tbl[k]? = some w) && goodWord w
def zmeW (k : Nat) (w : Cond) : Bool := decide (lw_tbl[k]? = some w) && zWk w
theorem zmem_in {k : Nat} {w : Cond} (h : zmem k w = true) : w ∈ zTb := by
  unfold zmem at h
  rw [Bool.and_eq_true] at h
  exact List.mem_filter.mpr ⟨List.mem_of_getElem? (of_decide_eq_true h.1), h.2⟩
theorem zmeW_in {k : Nat} {w : Cond} (h : zmeW k w = true) : w ∈ zWs := by
  unfold zmeW at h
  rw [Bool.and_eq_true] at h
  exact List.mem_filter.mpr ⟨List.mem_of_getElem? (of_decide_eq_true h.1), h.2⟩
def zdec (b : ByteArray) (pc : Nat) (i : Instr) (n : Nat) : Bool := decide (decode b pc = .ok (i, n))
theorem zdec_is {b : ByteArray} {pc : Nat} {i : Instr} {n : Nat} (h : zdec b pc i n = true) : decode b pc = .ok (i, n) := of_decide_eq_true h
def zcdB (q0 q : zM) (n : Nat) (tg : List Nat) : Bool := zmem (tg.getD 1 0) (zcw q) && zmem (tg.getD 2 0) (.initialized (zmN q).cls) && decide ((zmN q).cls ≠ "java/lang/invoke/MethodHandle") && decide ((zmN q).cls ≠ "java/lang/invoke/VarHandle") && decide ((parseMethodDescriptor (zmN q).desc).map (fun d => d.parameters.length) = some n) && decide (zmF q + 1 ≤ zmF q0) && decide (8 + (zmL q + 11) + zmW q ≤ zmW q0) && plainName (zmN q).cls
theorem zcdB_is {q0 q : zM} {n : Nat} {tg : List Nat} (h : zcdB q0 q n tg = true) : zCd q0 q n ∧ plainName (zmN q).cls = true := by
  unfold zcdB at h
  simp only [Bool.and_eq_true, decide_eq_true_eq] at h
  obtain ⟨⟨⟨⟨⟨⟨⟨h1, h2⟩, h3⟩, h4⟩, h5⟩, h6⟩, h7⟩, h8⟩ := h
  exact ⟨⟨zmem_in h1, zmem_in h2, ⟨h3, h4, h5⟩, h6, h7⟩, h8⟩
/-- the constructors of what is thrown, in the class's own numbers -/
def zik (E : Nat) : Nat := if E = 86 then 30 else if E = 43 then 56 else 19
def zstrB (own : String) (k is : Nat) : Bool := match lw_tbl[k]? with
  | some (.stringRef a i _) => decide (a = own) && decide (i = is)
  | _ => false
theorem zstrB_is {own : String} {k is : Nat} (h : zstrB own k is = true) : ∃ t, (own, is, t) ∈ zStr := by
  unfold zstrB at h
  split at h
  · rename_i a i t hq
    simp only [Bool.and_eq_true, decide_eq_true_eq] at h
    obtain ⟨rfl, rfl⟩ := h
    exact ⟨t, List.mem_filterMap.mpr ⟨_, List.mem_of_getElem? hq, rfl⟩⟩
  · cases h
/-- what is asked of an instruction -/
def zok (cl : List vw_C) (zic : Nat → Nat) (P : Nat → zM) (y pc : Nat) (e : zI) : Bool := match e with
  | (i, r1, r2, r3, tg) => match i with
  | .aload k => zdec (zmB (P y)) pc (.aload k) 2
  | .aload_n k => zdec (zmB (P y)) pc (.aload_n k) 1
  | .iload k => zdec (zmB (P y)) pc (.iload k) 2
  | .iload_n k => zdec (zmB (P y)) pc (.iload_n k) 1
  | .lload k => zdec (zmB (P y)) pc (.lload k) 2
  | .lload_n k => zdec (zmB (P y)) pc (.lload_n k) 1
  | .astore k => zdec (zmB (P y)) pc (.astore k) 2
  | .astore_n k => zdec (zmB (P y)) pc (.astore_n k) 1
  | .istore k => zdec (zmB (P y)) pc (.istore k) 2
  | .istore_n k => zdec (zmB (P y)) pc (.istore_n k) 1
  | .lstore k => zdec (zmB (P y)) pc (.lstore k) 2
  | .lstore_n k => zdec (zmB (P y)) pc (.lstore_n k) 1
  | .iinc k n => zdec (zmB (P y)) pc (.iinc k n) 3
  | .iconst n => zdec (zmB (P y)) pc (.iconst n) 1
  | .bipush n => zdec (zmB (P y)) pc (.bipush n) 2
  | .sipush n => zdec (zmB (P y)) pc (.sipush n) 3
  | .lconst n => zdec (zmB (P y)) pc (.lconst n) 1
  | .ldc x => zdec (zmB (P y)) pc (.ldc x) 2 && zmem (tg.getD 0 0) (.constant (zmN (P y)).cls x (Int32.ofNat r1))
  | .ldc2_w x => zdec (zmB (P y)) pc (.ldc2_w x) 3 && zmem (tg.getD 0 0) (.constantLong (zmN (P y)).cls x (Int64.ofNat r1))
  | .aconst_null => zdec (zmB (P y)) pc .aconst_null 1
  | .pop => zdec (zmB (P y)) pc .pop 1
  | .dup => zdec (zmB (P y)) pc .dup 1
  | .dup2 => zdec (zmB (P y)) pc .dup2 1
  | .iadd => zdec (zmB (P y)) pc .iadd 1
  | .isub => zdec (zmB (P y)) pc .isub 1
  | .imul => zdec (zmB (P y)) pc .imul 1
  | .idiv => zdec (zmB (P y)) pc .idiv 1
  | .irem => zdec (zmB (P y)) pc .irem 1
  | .iand => zdec (zmB (P y)) pc .iand 1
  | .ixor => zdec (zmB (P y)) pc .ixor 1
  | .ishr => zdec (zmB (P y)) pc .ishr 1
  | .ishl => zdec (zmB (P y)) pc .ishl 1
  | .ineg => zdec (zmB (P y)) pc .ineg 1
  | .i2l => zdec (zmB (P y)) pc .i2l 1
  | .i2b => zdec (zmB (P y)) pc .i2b 1
  | .ladd => zdec (zmB (P y)) pc .ladd 1
  | .lmul => zdec (zmB (P y)) pc .lmul 1
  | .lcmp => zdec (zmB (P y)) pc .lcmp 1
  | .goto o => zdec (zmB (P y)) pc (.goto o) 3 && decide ((pc : Int) + o = (r1 : Int))
  | .ifCond c o => zdec (zmB (P y)) pc (.ifCond c o) 3 && decide ((pc : Int) + o = (r1 : Int))
  | .if_icmp c o => zdec (zmB (P y)) pc (.if_icmp c o) 3 && decide ((pc : Int) + o = (r1 : Int))
  | .ifnull o => zdec (zmB (P y)) pc (.ifnull o) 3 && decide ((pc : Int) + o = (r1 : Int))
  | .ifnonnull o => zdec (zmB (P y)) pc (.ifnonnull o) 3 && decide ((pc : Int) + o = (r1 : Int))
  | .tableswitch df lo hi offs => zdec (zmB (P y)) pc (.tableswitch df lo hi offs) r3 && decide ((pc : Int) + df = (r2 : Int)) && decide (offs.toList.map (fun o => (pc : Int) + o) = tg.map (fun t : Nat => Int.ofNat t))
  | .getfield x => zdec (zmB (P y)) pc (.getfield x) 3 && (match cl[r1]? with
    | some (_, T, N) => decide (r2 < N) && zmem (tg.getD 0 0) (.fieldLink (zmN (P y)).cls x (T r2).1 (T r2).2.1 (T r2).2.2.1)
    | none => false)
  | .putfield x => zdec (zmB (P y)) pc (.putfield x) 3 && (match cl[r1]? with
    | some (_, T, N) => decide (r2 < N) && zmem (tg.getD 0 0) (.fieldLink (zmN (P y)).cls x (T r2).1 (T r2).2.1 (T r2).2.2.1) && (!(T r2).2.2.2 || (decide ((zmN (P y)).name = "<init>") && decide ((T r2).1 = (zmN (P y)).cls)))
    | none => false)
  | .getstatic x => zdec (zmB (P y)) pc (.getstatic x) 3 && decide (r1 < 5) && (zmem (tg.getD 0 0) (.fieldLink (zmN (P y)).cls x "Siegelines" (zSN r1) "[I") || zmeW (tg.getD 0 0) (.fieldLinkNest (zmN (P y)).cls x "Siegelines" (zSN r1) "[I" "Siegelines"))
  | .arraylength => zdec (zmB (P y)) pc .arraylength 1
  | .iaload => zdec (zmB (P y)) pc .iaload 1
  | .iastore => zdec (zmB (P y)) pc .iastore 1
  | .aaload => zdec (zmB (P y)) pc .aaload 1
  | .aastore => zdec (zmB (P y)) pc .aastore 1 && decide (r1 = 103 ∨ r1 = 104 ∨ r1 = 105) && (match cl[r2]? with
    | some (C, _, _) => decide (C = zAC r1)
    | none => false)
  | .newarray t => decide (t = .int) && zdec (zmB (P y)) pc (.newarray .int) 2 && decide (r1 = 100) && zmem (tg.getD 0 0) (.arrayClass .int)
  | .anewarray x => zdec (zmB (P y)) pc (.anewarray x) 3 && decide (r1 = 103 ∨ r1 = 104 ∨ r1 = 105) && zmem (tg.getD 0 0) (.classLink (zmN (P y)).cls x (zAC r1))
  | .new x => if r3 = 0 then zdec (zmB (P y)) pc (.new x) 3 && (match cl[r1]? with
      | some (C, _, _) => zmem (tg.getD 0 0) (.classLink (zmN (P y)).cls x C)
      | none => false)
    else zdec (zmB (P y)) pc (.new x) 3 && zdec (zmB (P y)) (pc + 3) .dup 1 && ((zdec (zmB (P y)) (pc + 4) (.ldc r2) 2 && zdec (zmB (P y)) (pc + 6) (.invokespecial (zic r1)) 3 && zdec (zmB (P y)) (pc + 9) .athrow 1) || (zdec (zmB (P y)) (pc + 4) (.ldc_w r2) 3 && zdec (zmB (P y)) (pc + 7) (.invokespecial (zic r1)) 3 && zdec (zmB (P y)) (pc + 10) .athrow 1)) && decide ((zmN (P y)).cls = "Siegelines") && decide (r1 = 86 ∨ r1 = 43 ∨ r1 = 0) && decide (x = zik r1) && zstrB "Siegelines" (tg.getD 0 0) r2 && decide (zmH (P y) = []) && decide (6 ≤ zmF (P y)) && decide (82 ≤ zmW (P y))
  | .ireturn => zdec (zmB (P y)) pc .ireturn 1
  | .lreturn => zdec (zmB (P y)) pc .lreturn 1 && decide (zmR (P y) = some .long)
  | .areturn => zdec (zmB (P y)) pc .areturn 1 && (match zmR (P y) with
    | some (.object _) => true
    | _ => false)
  | .return_ => zdec (zmB (P y)) pc .return_ 1 && decide (zmR (P y) = none)
  | .invokestatic x => zdec (zmB (P y)) pc (.invokestatic x) 3 && zcdB (P y) (P r1) r2 tg && zmem (tg.getD 3 0) (.static (zmN (P r1))) && (zmem (tg.getD 0 0) (.methodLink (zmN (P y)).cls x (zmN (P r1))) || (zmeW (tg.getD 0 0) (.methodLinkNest (zmN (P y)).cls x (zmN (P r1)) "Siegelines") && decide (zmH (P r1) = [])))
  | .invokevirtual x => if r3 = 2000 then true else zdec (zmB (P y)) pc (.invokevirtual x) 3 && zcdB (P y) (P r1) r2 tg && decide (zmH (P r1) = []) && zmem (tg.getD 3 0) (.instanceMethod (zmN (P r1))) && zmem (tg.getD 4 0) (.selects (zmN (P r1)).cls (zmN (P r1)) (zmN (P r1))) && zmem (tg.getD 0 0) (.methodLink (zmN (P y)).cls x (zmN (P r1))) && (match cl[r3]? with
    | some (C, _, _) => decide (C = (zmN (P r1)).cls)
    | none => false)
  | .invokespecial x => if r3 = 1000 then zdec (zmB (P y)) pc (.invokespecial x) 3 && zmem (tg.getD 0 0) (.methodLink (zmN (P y)).cls x Lib.objectInit) && decide (1 ≤ zmF (P y)) && decide (20 ≤ zmW (P y))
    else zdec (zmB (P y)) pc (.invokespecial x) 3 && zcdB (P y) (P r1) r2 tg && decide (zmH (P r1) = []) && decide (zmR (P r1) = none) && decide ((zmN (P r1)).name = "<init>") && zmem (tg.getD 3 0) (.instanceMethod (zmN (P r1))) && (zmem (tg.getD 0 0) (.methodLink (zmN (P y)).cls x (zmN (P r1))) || zmeW (tg.getD 0 0) (.methodLinkNest (zmN (P y)).cls x (zmN (P r1)) "Siegelines"))
  | _ => true
theorem zlk_in {l : List (Nat × zI)} {pc : Nat} {e : zI} (h : zlk l pc = some e) : (pc, e) ∈ l := by
  induction l with
  | nil => cases h
  | cons a r ih =>
    unfold zlk at h
    split at h
    · rename_i h1
      cases h
      rw [← h1]
      exact List.mem_cons_self
    · exact List.mem_cons_of_mem _ (ih h)
theorem zcat_no {pc E : Nat} : ∀ {hs : List (Nat × Nat × Nat × Nat)}, zcat hs pc E = none → ∀ x ∈ hs, ¬ (x.1 ≤ pc ∧ pc < x.2.1) ∨ x.2.2.2 ≠ E
  | [], _, _, h => nomatch h
  | a :: r, h, x, hx => by
    unfold zcat at h
    split at h
    · cases h
    · rename_i h1
      rcases List.mem_cons.mp hx with rfl | hx
      · by_cases hc : x.1 ≤ pc ∧ pc < x.2.1
        · exact Or.inr (fun q => h1 ⟨hc.1, hc.2, q⟩)
        · exact Or.inl hc
      · exact zcat_no h x hx
theorem zcat_yes {pc E h9 : Nat} : ∀ {hs : List (Nat × Nat × Nat × Nat)}, zcat hs pc E = some h9 → ∃ pre x suf, hs = pre ++ x :: suf ∧ (∀ z ∈ pre, ¬ (z.1 ≤ pc ∧ pc < z.2.1) ∨ z.2.2.2 ≠ E) ∧ (x.1 ≤ pc ∧ pc < x.2.1) ∧ x.2.2.2 = E ∧ x.2.2.1 = h9
  | [], h => by cases h
  | a :: r, h => by
    unfold zcat at h
    split at h
    · rename_i h1
      cases h
      exact ⟨[], a, r, rfl, (fun z hz => nomatch hz), ⟨h1.1, h1.2.1⟩, h1.2.2, rfl⟩
    · rename_i h1
      obtain ⟨pre, x, suf, h2, h3, h4⟩ := zcat_yes h
      refine ⟨a :: pre, x, suf, by rw [h2]; rfl, fun z hz => ?_, h4⟩
      rcases List.mem_cons.mp hz with rfl | hz
      · by_cases hc : z.1 ≤ pc ∧ pc < z.2.1
        · exact Or.inr (fun q => h1 ⟨hc.1, hc.2, q⟩)
        · exact Or.inl hc
      · exact h3 z hz
theorem zNc_in {E t : Nat} (ht : t = 86 ∨ t = 43) (h : t ≠ E) : (zEx E, zEx t) ∈ zNcs := by
  by_cases h1 : E = 86
  · subst h1
    rcases ht with rfl | rfl
    · exact absurd rfl h
    · decide +kernel
  · by_cases h2 : E = 43
    · subst h2
      rcases ht with rfl | rfl
      · decide +kernel
      · exact absurd rfl h
    · have e : zEx E = "java/lang/IllegalArgumentException" := by unfold zEx; rw [if_neg h1, if_neg h2]
      rw [e]
      rcases ht with rfl | rfl
      · decide +kernel
      · decide +kernel
end
section
/-! every instruction; every method -/
def zRow (l : Launch) (Y : zY) (P : Nat → zM) (ro : Nat → Int32 → zS → Option (zO × zS)) : Prop := ∀ (X : zX) (y pc x r1 r2 : Nat) (tg : List Nat) (ls : zLs) (m : Nat) (r : Int32) (rest : List Value) (σ : zS) (o : zO) (σ1 : zS), (pc, ((.invokevirtual x, r1, r2, 2000, tg) : zI)) ∈ zmC (P y) → zFix X → zOn (P y) X → xl X = l → xY X = Y → zVx X → ro m r σ = some (o, σ1) → znc σ1 - xnc X ≤ (xR X).cells → zns σ1 - xns X ≤ (xR X).slots → (∀ w, o = .inl (some (.int w)) → zC X (pc + 6) ls (.int w :: rest) σ1) → (∀ E, o = .inr E → zHd X pc ls E σ1) → zC X pc ls (.int r :: .ref m :: rest) σ
def zHyp (l : Launch) (Y : zY) (P : Nat → zM) (zic : Nat → Nat) (ro : Nat → Int32 → zS → Option (zO × zS)) : Prop :=
  l.stackTraces = false ∧ zCls Y.1.2.1 Y.1.2.2.1 zTb ∧ (∀ y, ∀ q ∈ zmC (P y), zok Y.1.2.1 zic P y q.1 q.2 = true) ∧
  (∀ y, ∀ x ∈ zmH (P y), (x.2.2.2 = 86 ∨ x.2.2.2 = 43) ∧ Cond.classLink (zmN (P y)).cls x.2.2.2 (zEx x.2.2.2) ∈ zTb) ∧
  (∀ E, E = 86 ∨ E = 43 → Cond.castable (zEx E) (zEx E) ∈ zWs) ∧
  (∀ E, E = 86 ∨ E = 43 ∨ E = 0 → Bundle.fit (zEx E) = true ∧ Cond.classLink "Siegelines" (zik E) (zEx E) ∈ zTb ∧ Cond.initialized (zEx E) ∈ zTb ∧ ∀ w ∈ vx_atS "Siegelines" (zic E) (zEx E) zNm, w ∈ zTb ∨ w ∈ zWs) ∧
  (Cond.instanceMethod Lib.objectInit ∈ zTb ∧ Cond.code Lib.objectInit ⟨#[0xb1]⟩ 1 none ∈ zTb) ∧
  (∀ m r σ o σ', ro m r σ = some (o, σ') → zLe σ σ') ∧ zRow l Y P ro
section ZALL
variable {l : Launch} {Y : zY} {P : Nat → zM} {zic : Nat → Nat} {ro : Nat → Int32 → zS → Option (zO × zS)}
theorem zLe.rf (σ : zS) : zLe σ σ := ⟨Nat.le_refl _, Nat.le_refl _⟩
theorem zLe.tr (a b c : zS) (h1 : zLe a b) (h2 : zLe b c) : zLe a c := ⟨Nat.le_trans h1.1 h2.1, Nat.le_trans h1.2 h2.2⟩
theorem zback_le {rec : zR} (hle : ∀ y pc ls st σ o σ', rec y pc ls st σ = some (o, σ') → zLe σ σ') {y pc : Nat} {ls : zLs} {rest : List Value} {o1 : zO} {σ1 : zS} {o : zO} {σ' : zS} (h : zback P rec y pc ls rest (some (o1, σ1)) = some (o, σ')) : zLe σ1 σ' :=
  zback_rel zLe.rf zLe.tr hle (fun o2 σ2 hq => by cases hq; exact zLe.rf _) h
theorem zback_hd (Hy : zHyp l Y P zic ro) {rec : zR} {X : zX} {y : Nat} (F : zFix X) (V : zVx X) (O : zOn (P y) X) {o : zO} {σ' : zS} (hQ : xQ X = zQ X o σ') (hr1 : znc σ' - xnc X ≤ (xR X).cells) (hr2 : zns σ' - xns X ≤ (xR X).slots) (hle : ∀ y pc ls st σ o σ', rec y pc ls st σ = some (o, σ') → zLe σ σ') (KB : ∀ pc ls st σ, rec y pc ls st σ = some (o, σ') → zC X pc ls st σ) (hYcl : Y.1.2.1 = xcl X) {pc E : Nat} {ls : zLs} {rest : List Value} {σ1 : zS} (h : zback P rec y pc ls rest (some (.inr E, σ1)) = some (o, σ')) : zHd X pc ls E σ1 := by
  obtain ⟨-, -, hok, hH, hca, -⟩ := Hy
  have hown : xown X = (zmN (P y)).cls := O.2.2.1
  have hnl : ∀ z ∈ zmH (P y), (¬ (z.1 ≤ pc ∧ pc < z.2.1) ∨ z.2.2.2 ≠ E) → ¬ (z.1 ≤ pc ∧ pc < z.2.1) ∨ (z.2.2.2 ≠ 0 ∧ Cond.classLink (xown X) z.2.2.2 (zEx z.2.2.2) ∈ zTb ∧ (zEx E, zEx z.2.2.2) ∈ zNcs) := by
    intro z hz hq
    rcases hq with hq | hq
    · exact Or.inl hq
    · obtain ⟨g1, g2⟩ := hH y z hz
      exact Or.inr ⟨by omega, by rw [hown]; exact g2, zNc_in g1 hq⟩
  dsimp only [zback] at h
  split at h
  · rename_i hc
    cases h
    exact zHd_out F V O (fun x hx => hnl x hx (zcat_no hc x hx)) hQ hr1 hr2
  · rename_i h9 hc
    obtain ⟨pre, x, suf, hs, hp, hx1, hxE, hxh⟩ := zcat_yes hc
    have hxm : x ∈ zmH (P y) := by rw [hs]; exact List.mem_append_right _ List.mem_cons_self
    have hpm : ∀ z ∈ pre, z ∈ zmH (P y) := fun z hz => by rw [hs]; exact List.mem_append_left _ hz
    obtain ⟨g1, g2⟩ := hH y x hxm
    rw [hxE] at g1 g2
    split at h
    · rename_i k q hlk
      split at h
      · rename_i hk
        have hd := hok y _ (zlk_in hlk)
        exact zHd_st F V O pre suf hs (fun z hz => hnl z (hpm z hz) (hp z hz)) hx1 (by omega) hxE hxh (by rw [hown]; exact g2) (hca E g1) (by rw [O.1]; exact zdec_is hd) hk (KB _ _ _ _ h)
      · cases h
    · rename_i k q hlk
      split at h
      · rename_i hk
        have hd := hok y _ (zlk_in hlk)
        exact zHd_stn F V O pre suf hs (fun z hz => hnl z (hpm z hz) (hp z hz)) hx1 (by omega) hxE hxh (by rw [hown]; exact g2) (hca E g1) (by rw [O.1]; exact zdec_is hd) hk (KB _ _ _ _ h)
      · cases h
    · cases h
theorem zlow_is {rest : List Value} (h : zlow rest = true) : (rest.map fun v => v.category).sum ≤ 8 := by
  unfold zlow at h
  exact of_decide_eq_true h
set_option maxHeartbeats 8000000 in
theorem zst_sim (Hy : zHyp l Y P zic ro) {rec : zR} {X : zX} {y : Nat} (F : zFix X) (V : zVx X) (O : zOn (P y) X) (hl : xl X = l) (hY : xY X = Y) {o : zO} {σ' : zS} (hQ : xQ X = zQ X o σ') (hr1 : znc σ' - xnc X ≤ (xR X).cells) (hr2 : zns σ' - xns X ≤ (xR X).slots) (hle : ∀ y pc ls st σ o σ', rec y pc ls st σ = some (o, σ') → zLe σ σ') (KB : ∀ pc ls st σ, rec y pc ls st σ = some (o, σ') → zC X pc ls st σ)
    (hM : ∀ y1 vs σ1 o1 σ2, rec y1 0 (zfst vs (zmL (P y1))) [] σ1 = some (o1, σ2) → (zent vs).length ≤ zmL (P y1) → plainName (zmN (P y1)).cls = true → zMet l Y P y1 vs σ1 o1 σ2) {pc : Nat} {ls : zLs} {st : List Value} {σ : zS} {e : zI} (hin : (pc, e) ∈ zmC (P y)) (h : zst P Y.1.2.2.1 ro rec y pc ls st σ e = some (o, σ')) : zC X pc ls st σ := by
  subst hl hY
  obtain ⟨hstk, hcls, hok, hH, hca, hE, hO, hro, hrow⟩ := id Hy
  have hk := hok y _ hin
  have hcc : xcc X = zmB (P y) := O.1
  have hown : xown X = (zmN (P y)).cls := O.2.2.1
  have hTs : xTs X = zws (P y) := O.2.2.2.1
  have hsub : ∀ w, w ∈ zTb → w ∈ xTs X := fun w hw => by rw [hTs]; exact List.mem_cons_of_mem _ hw
  obtain ⟨i, r1, r2, r3, tg⟩ := e
  cases i <;> dsimp only [zst] at h <;> dsimp only [zok] at hk <;> (try rw [← hcc] at hk) <;> (try rw [← hown] at hk)
  all_goals first | (cases h; done) | skip
  case aload k =>
    split at h
    · rename_i a hg; exact zs_aload F (zdec_is hk) hg (KB _ _ _ _ h)
    · rename_i hg; exact zs_aloadN F (zdec_is hk) hg (KB _ _ _ _ h)
    · cases h
  case aload_n k =>
    split at h
    · rename_i a hg; exact zs_aload_n F (zdec_is hk) hg (KB _ _ _ _ h)
    · rename_i hg; exact zs_aload_nN F (zdec_is hk) hg (KB _ _ _ _ h)
    · cases h
  case iload k =>
    split at h
    · rename_i a hg; exact zs_iload F (zdec_is hk) hg (KB _ _ _ _ h)
    · cases h
  case iload_n k =>
    split at h
    · rename_i a hg; exact zs_iload_n F (zdec_is hk) hg (KB _ _ _ _ h)
    · cases h
  case lload k =>
    split at h
    · rename_i a hg; exact zs_lload F (zdec_is hk) hg (KB _ _ _ _ h)
    · cases h
  case lload_n k =>
    split at h
    · rename_i a hg; exact zs_lload_n F (zdec_is hk) hg (KB _ _ _ _ h)
    · cases h
  case astore k =>
    split at h
    · rename_i hl9
      split at h
      · exact zs_astore F (zdec_is hk) hl9 (KB _ _ _ _ h)
      · exact zs_astoreN F (zdec_is hk) hl9 (KB _ _ _ _ h)
      · cases h
    · cases h
  case astore_n k =>
    split at h
    · rename_i hl9
      split at h
      · exact zs_astore_n F (zdec_is hk) hl9 (KB _ _ _ _ h)
      · exact zs_astore_nN F (zdec_is hk) hl9 (KB _ _ _ _ h)
      · cases h
    · cases h
  case istore k =>
    split at h
    · rename_i hl9
      split at h
      · exact zs_istore F (zdec_is hk) hl9 (KB _ _ _ _ h)
      · cases h
    · cases h
  case istore_n k =>
    split at h
    · rename_i hl9
      split at h
      · exact zs_istore_n F (zdec_is hk) hl9 (KB _ _ _ _ h)
      · cases h
    · cases h
  case lstore k =>
    split at h
    · rename_i hl9
      split at h
      · exact zs_lstore F (zdec_is hk) hl9 (KB _ _ _ _ h)
      · cases h
    · cases h
  case lstore_n k =>
    split at h
    · rename_i hl9
      split at h
      · exact zs_lstore_n F (zdec_is hk) hl9 (KB _ _ _ _ h)
      · cases h
    · cases h
  case iinc k n =>
    split at h
    · rename_i hl9
      split at h
      · rename_i a hg; exact zs_iinc F (zdec_is hk) hl9 hg (KB _ _ _ _ h)
      · cases h
    · cases h
  case iconst n => exact zs_iconst F (zdec_is hk) (KB _ _ _ _ h)
  case bipush n => exact zs_bipush F (zdec_is hk) (KB _ _ _ _ h)
  case sipush n => exact zs_sipush F (zdec_is hk) (KB _ _ _ _ h)
  case lconst n => exact zs_lconst F (zdec_is hk) (KB _ _ _ _ h)
  case ldc x =>
    rw [Bool.and_eq_true] at hk
    exact zs_ldc F (hsub _ (zmem_in hk.2)) (zdec_is hk.1) (KB _ _ _ _ h)
  case ldc2_w x =>
    rw [Bool.and_eq_true] at hk
    exact zs_ldc2 F (hsub _ (zmem_in hk.2)) (zdec_is hk.1) (KB _ _ _ _ h)
  case aconst_null => exact zs_null F (zdec_is hk) (KB _ _ _ _ h)
  case pop =>
    split at h
    · split at h
      · rename_i hv; exact zs_pop F hv (zdec_is hk) (KB _ _ _ _ h)
      · cases h
    · cases h
  case dup =>
    split at h
    · split at h
      · rename_i hv; exact zs_dup F hv (zdec_is hk) (KB _ _ _ _ h)
      · cases h
    · cases h
  case dup2 =>
    split at h
    · split at h
      · rename_i hv; exact zs_dup2 F hv.1 hv.2 (zdec_is hk) (KB _ _ _ _ h)
      · cases h
    · cases h
  case iadd => split at h; exact zs_iadd F (zdec_is hk) (KB _ _ _ _ h); cases h
  case isub => split at h; exact zs_isub F (zdec_is hk) (KB _ _ _ _ h); cases h
  case imul => split at h; exact zs_imul F (zdec_is hk) (KB _ _ _ _ h); cases h
  case idiv =>
    split at h
    · split at h
      · cases h
      · rename_i h0; exact zs_idiv F h0 (zdec_is hk) (KB _ _ _ _ h)
    · cases h
  case irem =>
    split at h
    · split at h
      · cases h
      · rename_i h0; exact zs_irem F h0 (zdec_is hk) (KB _ _ _ _ h)
    · cases h
  case iand => split at h; exact zs_iand F (zdec_is hk) (KB _ _ _ _ h); cases h
  case ixor => split at h; exact zs_ixor F (zdec_is hk) (KB _ _ _ _ h); cases h
  case ishr => split at h; exact zs_ishr F (zdec_is hk) (KB _ _ _ _ h); cases h
  case ishl => split at h; exact zs_ishl F (zdec_is hk) (KB _ _ _ _ h); cases h
  case ineg => split at h; exact zs_ineg F (zdec_is hk) (KB _ _ _ _ h); cases h
  case i2l => split at h; exact zs_i2l F (zdec_is hk) (KB _ _ _ _ h); cases h
  case i2b => split at h; exact zs_i2b F (zdec_is hk) (KB _ _ _ _ h); cases h
  case ladd => split at h; exact zs_ladd F (zdec_is hk) (KB _ _ _ _ h); cases h
  case lmul => split at h; exact zs_lmul F (zdec_is hk) (KB _ _ _ _ h); cases h
  case lcmp => split at h; exact zs_lcmp F (zdec_is hk) (KB _ _ _ _ h); cases h
  case goto off =>
    rw [Bool.and_eq_true] at hk
    exact zs_goto F (of_decide_eq_true hk.2) (zdec_is hk.1) (KB _ _ _ _ h)
  case ifCond cc off =>
    rw [Bool.and_eq_true] at hk
    have ht := of_decide_eq_true hk.2
    have hd := zdec_is hk.1
    split at h
    · cases cc <;> dsimp only at h
      · exact zs_if_eq F ht hd (fun q => KB _ _ _ _ (by rw [if_pos q] at h; exact h)) (fun q => KB _ _ _ _ (by rw [if_neg q] at h; exact h))
      · exact zs_if_ne F ht hd (fun q => KB _ _ _ _ (by rw [if_neg q] at h; exact h)) (fun q => KB _ _ _ _ (by rw [if_pos q] at h; exact h))
      · exact zs_if_lt F ht hd (fun q => KB _ _ _ _ (by rw [if_pos q] at h; exact h)) (fun q => KB _ _ _ _ (by rw [if_neg q] at h; exact h))
      · exact zs_if_ge F ht hd (fun q => KB _ _ _ _ (by rw [if_pos q] at h; exact h)) (fun q => KB _ _ _ _ (by rw [if_neg q] at h; exact h))
      · exact zs_if_gt F ht hd (fun q => KB _ _ _ _ (by rw [if_pos q] at h; exact h)) (fun q => KB _ _ _ _ (by rw [if_neg q] at h; exact h))
      · exact zs_if_le F ht hd (fun q => KB _ _ _ _ (by rw [if_pos q] at h; exact h)) (fun q => KB _ _ _ _ (by rw [if_neg q] at h; exact h))
    · cases h
  case if_icmp cc off =>
    rw [Bool.and_eq_true] at hk
    have ht := of_decide_eq_true hk.2
    have hd := zdec_is hk.1
    split at h
    · cases cc <;> dsimp only at h
      · exact zs_icmp_eq F ht hd (fun q => KB _ _ _ _ (by rw [if_pos q] at h; exact h)) (fun q => KB _ _ _ _ (by rw [if_neg q] at h; exact h))
      · exact zs_icmp_ne F ht hd (fun q => KB _ _ _ _ (by rw [if_neg q] at h; exact h)) (fun q => KB _ _ _ _ (by rw [if_pos q] at h; exact h))
      · exact zs_icmp_lt F ht hd (fun q => KB _ _ _ _ (by rw [if_pos q] at h; exact h)) (fun q => KB _ _ _ _ (by rw [if_neg q] at h; exact h))
      · exact zs_icmp_ge F ht hd (fun q => KB _ _ _ _ (by rw [if_pos q] at h; exact h)) (fun q => KB _ _ _ _ (by rw [if_neg q] at h; exact h))
      · exact zs_icmp_gt F ht hd (fun q => KB _ _ _ _ (by rw [if_pos q] at h; exact h)) (fun q => KB _ _ _ _ (by rw [if_neg q] at h; exact h))
      · exact zs_icmp_le F ht hd (fun q => KB _ _ _ _ (by rw [if_pos q] at h; exact h)) (fun q => KB _ _ _ _ (by rw [if_neg q] at h; exact h))
    · cases h
  case ifnull off =>
    rw [Bool.and_eq_true] at hk
    split at h
    · exact zs_ifR F (zdec_is hk.1) (KB _ _ _ _ h)
    · exact zs_ifN F (of_decide_eq_true hk.2) (zdec_is hk.1) (KB _ _ _ _ h)
    · cases h
  case ifnonnull off =>
    rw [Bool.and_eq_true] at hk
    split at h
    · exact zs_ifnR F (of_decide_eq_true hk.2) (zdec_is hk.1) (KB _ _ _ _ h)
    · exact zs_ifnN F (zdec_is hk.1) (KB _ _ _ _ h)
    · cases h
  case tableswitch df lo hi offs =>
    simp only [Bool.and_eq_true, decide_eq_true_eq] at hk
    obtain ⟨⟨k1, k2⟩, k3⟩ := hk
    split at h
    · rename_i x r
      split at h
      · rename_i hx
        exact zs_tabO F hx k2 (zdec_is k1) (KB _ _ _ _ h)
      · rename_i hx
        split at h
        · rename_i t ht
          have h3 : (offs.toList.map (fun o => (pc : Int) + o))[(x.toInt - lo).toNat]? = some (Int.ofNat t) := by rw [k3, List.getElem?_map, ht]; rfl
          rw [List.getElem?_map] at h3
          cases ho : offs.toList[(x.toInt - lo).toNat]? with
          | none => rw [ho] at h3; cases h3
          | some off =>
            rw [ho] at h3
            rw [Array.getElem?_toList] at ho
            exact zs_tabI F (fun q => hx (Or.inl q)) (fun q => hx (Or.inr q)) ho (Option.some.inj h3) (zdec_is k1) (KB _ _ _ _ h)
        · cases h
    · cases h
  case getfield x =>
    rw [Bool.and_eq_true] at hk
    obtain ⟨k1, k2⟩ := hk
    split at k2
    · rename_i C T N hc
      simp only [Bool.and_eq_true, decide_eq_true_eq] at k2
      split at h
      · rename_i a r
        split at h
        · rename_i c n hkn
          split at h
          · rename_i hcr
            subst hcr
            exact zs_getf F hc k2.1 (hsub _ (zmem_in k2.2)) (zdec_is k1) hkn (KB _ _ _ _ h)
          · cases h
        · cases h
      · cases h
    · cases k2
  case putfield x =>
    rw [Bool.and_eq_true] at hk
    obtain ⟨k1, k2⟩ := hk
    split at k2
    · rename_i C T N hc
      simp only [Bool.and_eq_true, Bool.or_eq_true, Bool.not_eq_true', decide_eq_true_eq] at k2
      obtain ⟨⟨k2, k3⟩, k4⟩ := k2
      split at h
      · rename_i v a r
        split at h
        · rename_i c n hkn
          split at h
          · rename_i hcr
            obtain ⟨hcr, hna, hfi⟩ := hcr
            subst hcr
            split at h
            · rename_i σ1 hz1
              refine zs_putf F hc k2 (hsub _ (zmem_in k3)) ?_ (zdec_is k1) hkn hna hfi hz1 (KB _ _ _ _ h)
              rcases k4 with k4 | ⟨k4, k5⟩
              · exact Or.inl k4
              · cases hb : (T r2).2.2.2 with
                | false => exact Or.inl rfl
                | true => exact Or.inr ⟨rfl, by rw [O.2.2.2.2.2.2.1]; exact k4, k5⟩
            · cases h
          · cases h
        · cases h
      · cases h
    · cases k2
  case getstatic x =>
    simp only [Bool.and_eq_true, Bool.or_eq_true, decide_eq_true_eq] at hk
    obtain ⟨⟨k1, k2⟩, k3⟩ := hk
    intro L rls H locs h1 h2 h3 h4
    obtain ⟨hx, hb, -, hown9, hts, hK, hA, hcl, hro⟩ := id F
    have hz := V.2.2.2.1 r1 k2
    have hm := h1.2.2.1
    have h6 := V.1
    have e : (xL0 X).getD r1 0 = L.getD r1 0 := (zget_pre h1.1 (by omega)).symm
    rw [e] at hz
    have k1' := KB _ _ _ _ h L rls H locs h1 h2 h3 (h4.cons (show r1 < L.length by have := h1.1.length_le; omega))
    rcases k3 with k3 | k3
    · exact va_gets hx hb hz h1.2.2.2.2.2.2.2.1 hown9 (hts _ (hsub _ (zmem_in k3))) (fun x h => h) (zdec_is k1) k1'
    · exact va_getsN hx hb hz h1.2.2.2.2.2.2.2.1 hown9 (va_Nw.use rfl (V.2.2.2.2.2.2.2.2.1 _ (zmeW_in k3))) (fun x h => h) (zdec_is k1) k1'
  case arraylength =>
    split at h
    · split at h
      · rename_i c n hkn
        split at h
        · rename_i hc
          exact zs_alen F hkn hc (zdec_is hk) (KB _ _ _ _ h)
        · cases h
      · cases h
    · cases h
  case iaload =>
    split at h
    · split at h
      · rename_i c n hkn
        split at h
        · rename_i hc
          exact zs_iald F hkn hc.1 hc.2 (zdec_is hk) (KB _ _ _ _ h)
        · cases h
      · cases h
    · cases h
  case iastore =>
    split at h
    · split at h
      · rename_i c n hkn
        split at h
        · rename_i hc
          obtain ⟨rfl, hi⟩ := hc
          exact zs_iast F hkn hi (zdec_is hk) (KB _ _ _ _ h)
        · cases h
      · cases h
    · cases h
  case aaload =>
    split at h
    · split at h
      · rename_i c n hkn
        split at h
        · rename_i hc
          exact zs_aald F hkn hc.1 hc.2 (zdec_is hk) (KB _ _ _ _ h)
        · cases h
      · cases h
    · cases h
  case aastore =>
    simp only [Bool.and_eq_true, decide_eq_true_eq] at hk
    obtain ⟨⟨k1, k2⟩, k3⟩ := hk
    split at k3
    · rename_i C T N hc
      have k3 := of_decide_eq_true k3
      subst k3
      split at h
      · split at h
        · rename_i c n cv nv hkn hkv
          split at h
          · rename_i hcc9
            obtain ⟨rfl, rfl, hi⟩ := hcc9
            exact zs_aast F hkn k2 hkv hc hi (zdec_is k1) (KB _ _ _ _ h)
          · cases h
        · cases h
      · cases h
    · cases k3
  case newarray ty =>
    simp only [Bool.and_eq_true, decide_eq_true_eq] at hk
    obtain ⟨⟨⟨rfl, k1⟩, rfl⟩, k3⟩ := hk
    split at h
    · rename_i n9 r9
      split at h
      · cases h
      · rename_i hn
        split at h
        · rename_i hm
          have h9 := hle _ _ _ _ _ _ _ h
          have g1 : znc σ + 1 ≤ znc σ' := h9.1
          have g2 : zns σ + n9.toNatClampNeg ≤ zns σ' := h9.2
          exact zs_newi F hn hm (hsub _ (zmem_in k3)) (zdec_is k1) (by omega) (by omega) (KB _ _ _ _ h)
        · cases h
    · cases h
  case anewarray x =>
    simp only [Bool.and_eq_true, decide_eq_true_eq] at hk
    obtain ⟨⟨k1, k2⟩, k3⟩ := hk
    split at h
    · rename_i n9 r9
      split at h
      · cases h
      · rename_i hn
        split at h
        · rename_i hm
          have h9 := hle _ _ _ _ _ _ _ h
          have g1 : znc σ + 1 ≤ znc σ' := h9.1
          have g2 : zns σ + n9.toNatClampNeg ≤ zns σ' := h9.2
          exact zs_newq F hn hm k2 (V.2.2.2.2.2.2.2.2.2.1 _ k2) (hsub _ (zmem_in k3)) (zdec_is k1) (by omega) (by omega) (KB _ _ _ _ h)
        · cases h
    · cases h
  case new x =>
    split at h
    · rename_i h0
      rw [if_pos h0, Bool.and_eq_true] at hk
      obtain ⟨k1, k2⟩ := hk
      split at k2
      · rename_i C T N hc
        have h9 := hle _ _ _ _ _ _ _ h
        have g1 : znc σ + 1 ≤ znc σ' := h9.1
        have g2 : zns σ + (xft X r1).length ≤ zns σ' := h9.2
        exact zs_new F hc (hsub _ (zmem_in k2)) (zdec_is k1) (by omega) (by omega) (KB _ _ _ _ h)
      · cases k2
    · rename_i h0
      rw [if_neg h0] at hk
      simp only [Bool.and_eq_true, Bool.or_eq_true, decide_eq_true_eq] at hk
      obtain ⟨⟨⟨⟨⟨⟨⟨⟨⟨k1, k2⟩, k3⟩, k4⟩, k5⟩, k6⟩, k7⟩, k8⟩, k9⟩, k10⟩ := hk
      obtain ⟨text, k7⟩ := zstrB_is k7
      subst k6
      obtain ⟨e1, e2, e3, e4⟩ := hE r1 k5
      split at h
      · cases h
        refine zs_throw F V O e1 (by rw [k4]; exact e2) e3 (by rw [k4]; exact k7) (by rw [k4]; exact e4) k8 (zdec_is k1) (zdec_is k2) ?_ k9 k10 hQ hr1 hr2
        rcases k3 with ⟨⟨d1, d2⟩, d3⟩ | ⟨⟨d1, d2⟩, d3⟩
        · exact Or.inl ⟨zdec_is d1, zdec_is d2, zdec_is d3⟩
        · exact Or.inr ⟨zdec_is d1, zdec_is d2, zdec_is d3⟩
      · cases h
  case ireturn =>
    split at h
    · rename_i x ty hty
      split at h
      · rename_i hn
        cases h
        exact zs_iret F hQ O.2.2.2.2.1 (O.2.2.2.2.2.1.trans hty) hn (zdec_is hk) hr1 hr2
      · cases h
    · cases h
  case lreturn =>
    simp only [Bool.and_eq_true, decide_eq_true_eq] at hk
    split at h
    · cases h
      exact zs_lret F hQ O.2.2.2.2.1 (O.2.2.2.2.2.1.trans hk.2) (zdec_is hk.1) hr1 hr2
    · cases h
  case areturn =>
    rw [Bool.and_eq_true] at hk
    obtain ⟨k1, k2⟩ := hk
    split at k2
    · rename_i C hC
      split at h
      · rename_i a
        cases h
        exact zs_aret F (Or.inr ⟨a, rfl⟩) hQ O.2.2.2.2.1 (O.2.2.2.2.2.1.trans hC) (zdec_is k1) hr1 hr2
      · cases h
        exact zs_aret F (Or.inl rfl) hQ O.2.2.2.2.1 (O.2.2.2.2.2.1.trans hC) (zdec_is k1) hr1 hr2
      · cases h
    · cases k2
  case return_ =>
    simp only [Bool.and_eq_true, decide_eq_true_eq] at hk
    split at h
    · cases h
      exact zs_vret F hQ O.2.2.2.2.1 (O.2.2.2.2.2.1.trans hk.2) (zdec_is hk.1) hr1 hr2
    · cases h
  case invokestatic x =>
    simp only [Bool.and_eq_true, Bool.or_eq_true, decide_eq_true_eq] at hk
    obtain ⟨⟨⟨k1, k2⟩, k3⟩, k4⟩ := hk
    obtain ⟨k2, k5⟩ := zcdB_is k2
    split at h
    · rename_i hlow
      split at h
      · rename_i hlen
        cases hq : rec r1 0 (zfst (st.take r2).reverse (zmL (P r1))) [] σ with
        | none => rw [hq] at h; cases h
        | some q =>
          obtain ⟨o1, σ1⟩ := q
          rw [hq] at h
          have g0 := zback_le hle h
          have g1 := hle _ _ _ _ _ _ _ hq
          have hst : st = (st.take r2).reverse.reverse ++ st.drop r2 := by rw [List.reverse_reverse, List.take_append_drop]
          rw [hst]
          have hlv : ((st.take r2).reverse).length = r2 := by rw [List.length_reverse]; exact hlen.1
          refine zs_S F V O (hM r1 _ σ o1 σ1 hq hlen.2 k5) (by rw [hlv]; exact k2) (zmem_in k3) ?_ (zlow_is hlow) (zdec_is k1) g1 (by have := g0.1; omega) (by have := g0.2; omega) (fun v hv => ?_) (fun E hE9 => ?_)
          · rcases k4 with k4 | ⟨k4, k6⟩
            · exact Or.inl (zmem_in k4)
            · exact Or.inr ⟨_, zmeW_in k4, k6⟩
          · subst hv
            exact KB _ _ _ _ h
          · subst hE9
            exact zback_hd Hy F V O hQ hr1 hr2 hle KB rfl h
      · cases h
    · cases h
  case invokevirtual x =>
    split at h
    · rename_i h0
      subst h0
      split at h
      · rename_i xr b rest
        split at h
        · rename_i w σ1 hro9
          have g0 := hle _ _ _ _ _ _ _ h
          exact hrow X y pc x r1 r2 tg ls b xr rest σ _ σ1 hin F O rfl rfl V hro9 (by have := g0.1; omega) (by have := g0.2; omega) (fun w9 hw => by cases hw; exact KB _ _ _ _ h) (fun E hE9 => by cases hE9)
        · rename_i E σ1 hro9
          have g0 := zback_le hle h
          exact hrow X y pc x r1 r2 tg ls b xr rest σ _ σ1 hin F O rfl rfl V hro9 (by have := g0.1; omega) (by have := g0.2; omega) (fun w9 hw => by cases hw) (fun E9 hE9 => by cases hE9; exact zback_hd Hy F V O hQ hr1 hr2 hle KB rfl h)
        · cases h
      · cases h
    · rename_i h0
      rw [if_neg h0] at hk
      simp only [Bool.and_eq_true, decide_eq_true_eq] at hk
      obtain ⟨⟨⟨⟨⟨⟨k1, k2⟩, k3⟩, k4⟩, k5⟩, k6⟩, k7⟩ := hk
      obtain ⟨k2, k8⟩ := zcdB_is k2
      split at k7
      · rename_i C T N hc
        have k7 := of_decide_eq_true k7
        subst k7
        split at h
        · rename_i b rest hdr
          split at h
          · rename_i hlow
            split at h
            · rename_i c n hkn
              split at h
              · rename_i hcr
                subst hcr
                split at h
                · rename_i hlen
                  cases hq : rec r1 0 (zfst (.ref b :: (st.take r2).reverse) (zmL (P r1))) [] σ with
                  | none => rw [hq] at h; cases h
                  | some q =>
                    obtain ⟨o1, σ1⟩ := q
                    rw [hq] at h
                    have g0 := zback_le hle h
                    have g1 := hle _ _ _ _ _ _ _ hq
                    have hst : st = (st.take r2).reverse.reverse ++ (.ref b :: rest) := by rw [List.reverse_reverse, ← hdr, List.take_append_drop]
                    rw [hst]
                    have hlv : ((st.take r2).reverse).length = r2 := by rw [List.length_reverse]; exact hlen.1
                    refine zs_V F V O (hM r1 _ σ o1 σ1 hq hlen.2 k8) (by rw [hlv]; exact k2) k3 hkn hc (zmem_in k4) (zmem_in k5) (zmem_in k6) (zlow_is hlow) (zdec_is k1) g1 (by have := g0.1; omega) (by have := g0.2; omega) (fun v hv => ?_) (fun E hE9 => ?_)
                    · subst hv
                      exact KB _ _ _ _ h
                    · subst hE9
                      exact zback_hd Hy F V O hQ hr1 hr2 hle KB rfl h
                · cases h
              · cases h
            · cases h
          · cases h
        · cases h
      · cases k7
  case invokespecial x =>
    split at h
    · rename_i b rest hdr
      split at h
      · rename_i h0
        rw [if_pos h0] at hk
        simp only [Bool.and_eq_true, decide_eq_true_eq] at hk
        obtain ⟨⟨⟨k1, k2⟩, k3⟩, k4⟩ := hk
        split at h
        · rename_i hr0
          obtain ⟨rfl, hlow⟩ := hr0
          have hst : st = .ref b :: rest := hdr
          rw [hst]
          exact zs_O F O (zmem_in k2) hO.1 hO.2 k3 k4 (zlow_is hlow) (zdec_is k1) (KB _ _ _ _ h)
        · cases h
      · rename_i h0
        rw [if_neg h0] at hk
        simp only [Bool.and_eq_true, Bool.or_eq_true, decide_eq_true_eq] at hk
        obtain ⟨⟨⟨⟨⟨⟨k1, k2⟩, k3⟩, k4⟩, k5⟩, k6⟩, k7⟩ := hk
        obtain ⟨k2, k8⟩ := zcdB_is k2
        split at h
        · rename_i hlow
          split at h
          · rename_i c n hkn
            split at h
            · split at h
              · rename_i hlen
                cases hq : rec r1 0 (zfst (.ref b :: (st.take r2).reverse) (zmL (P r1))) [] σ with
                | none => rw [hq] at h; cases h
                | some q =>
                  obtain ⟨o1, σ1⟩ := q
                  rw [hq] at h
                  have g0 := zback_le hle h
                  have g1 := hle _ _ _ _ _ _ _ hq
                  have hst : st = (st.take r2).reverse.reverse ++ (.ref b :: rest) := by rw [List.reverse_reverse, ← hdr, List.take_append_drop]
                  rw [hst]
                  have hlv : ((st.take r2).reverse).length = r2 := by rw [List.length_reverse]; exact hlen.1
                  refine zs_I F V O (hM r1 _ σ o1 σ1 hq hlen.2 k8) (by rw [hlv]; exact k2) k3 k4 k5 (zmem_in k6) ?_ (zlow_is hlow) (zdec_is k1) g1 (by have := g0.1; omega) (by have := g0.2; omega) (fun v hv => ?_) (fun E hE9 => ?_)
                  · rcases k7 with k7 | k7
                    · exact Or.inl (zmem_in k7)
                    · exact Or.inr ⟨_, zmeW_in k7⟩
                  · subst hv
                    exact KB _ _ _ _ h
                  · subst hE9
                    exact zback_hd Hy F V O hQ hr1 hr2 hle KB rfl h
              · cases h
            · cases h
          · cases h
        · cases h
    · cases h
theorem zx_sim (Hy : zHyp l Y P zic ro) : ∀ (n : Nat) (X : zX) (y pc : Nat) (ls : zLs) (st : List Value) (σ : zS) (o : zO) (σ' : zS), zFix X → zOn (P y) X → xl X = l → xY X = Y → zVx X → xQ X = zQ X o σ' → znc σ' - xnc X ≤ (xR X).cells → zns σ' - xns X ≤ (xR X).slots → zx P Y.1.2.2.1 ro n y pc ls st σ = some (o, σ') → zC X pc ls st σ
  | 0, _, _, _, _, _, _, _, _, _, _, _, _, _, _, _, _, h => by cases h
  | n + 1, X, y, pc, ls, st, σ, o, σ', F, O, hl, hY, V, hQ, hr1, hr2, h => by
    have ih := zx_sim Hy n
    unfold zx at h
    split at h
    · cases h
    · rename_i e hlk
      refine zst_sim Hy F V O hl hY hQ hr1 hr2 (fun y pc ls st σ o σ' hq => zx_le Hy.2.2.2.2.2.2.2.1 hq) (fun pc ls st σ hq => ih X y pc ls st σ o σ' F O hl hY V hQ hr1 hr2 hq) (fun y1 vs σ1 o1 σ2 hq hlen hpl => ?_) (zlk_in hlk) h
      refine zmet_of Hy.1 hlen hpl Hy.2.1 fun X1 F1 O1 hl1 hY1 V1 hn1 hn2 hc1 hc2 hQ1 => ?_
      exact ih X1 y1 0 _ [] σ1 o1 σ2 F1 O1 hl1 hY1 V1 hQ1 (by rw [hn1, hc1]; exact Nat.le_refl _) (by rw [hn2, hc2]; exact Nat.le_refl _) hq
end ZALL
end
