section
-- ===== PART A: goes FIRST, ahead of the names: the tables' words, and 'selects' of the private methods out of them =====
/-- a private method of a class that the tables say can be made, by its rows of tables_1 -/
def lw_okq (q : MethodName × Nat) : Prop := (q.1.cls ≠ "java/lang/invoke/MethodHandle" ∧ q.1.cls ≠ "java/lang/invoke/VarHandle") ∧ Cond.instantiable q.1.cls q.2 ∈ tables_1 ∧ Cond.privateMethod q.1 ∈ tables_1 ∧ Cond.instanceMethod q.1 ∈ tables_1
theorem lw_p0 : lw_okq (⟨"ClauseYard", "writeAssumptions", "(I)I"⟩, 10) := ⟨⟨by decide +kernel, by decide +kernel⟩, List.mem_of_getElem? (i := 14) (by decide +kernel), List.mem_of_getElem? (i := 94) (by decide +kernel), List.mem_of_getElem? (i := 95) (by decide +kernel)⟩
theorem lw_p1 : lw_okq (⟨"ClauseYard$Search", "writeParts", "(IIIJ)V"⟩, 8) := ⟨⟨by decide +kernel, by decide +kernel⟩, List.mem_of_getElem? (i := 22) (by decide +kernel), List.mem_of_getElem? (i := 115) (by decide +kernel), List.mem_of_getElem? (i := 116) (by decide +kernel)⟩
theorem lw_p2 : lw_okq (⟨"ClauseYard$Search", "giveReasonsOfStart", "(I)V"⟩, 8) := ⟨⟨by decide +kernel, by decide +kernel⟩, List.mem_of_getElem? (i := 22) (by decide +kernel), List.mem_of_getElem? (i := 124) (by decide +kernel), List.mem_of_getElem? (i := 125) (by decide +kernel)⟩
theorem lw_p3 : lw_okq (⟨"ClauseYard$Search", "goodByLowAlone", "(I)J"⟩, 8) := ⟨⟨by decide +kernel, by decide +kernel⟩, List.mem_of_getElem? (i := 22) (by decide +kernel), List.mem_of_getElem? (i := 128) (by decide +kernel), List.mem_of_getElem? (i := 129) (by decide +kernel)⟩
theorem lw_p4 : lw_okq (⟨"ClauseYard$Search", "goodInBlock", "(IJI)J"⟩, 8) := ⟨⟨by decide +kernel, by decide +kernel⟩, List.mem_of_getElem? (i := 22) (by decide +kernel), List.mem_of_getElem? (i := 132) (by decide +kernel), List.mem_of_getElem? (i := 133) (by decide +kernel)⟩
theorem lw_p5 : lw_okq (⟨"ClauseYard$Search", "leap", "(I)I"⟩, 8) := ⟨⟨by decide +kernel, by decide +kernel⟩, List.mem_of_getElem? (i := 22) (by decide +kernel), List.mem_of_getElem? (i := 143) (by decide +kernel), List.mem_of_getElem? (i := 144) (by decide +kernel)⟩
theorem lw_p6 : lw_okq (⟨"ClauseYard$Search", "setByReasons", "(I)I"⟩, 8) := ⟨⟨by decide +kernel, by decide +kernel⟩, List.mem_of_getElem? (i := 22) (by decide +kernel), List.mem_of_getElem? (i := 147) (by decide +kernel), List.mem_of_getElem? (i := 148) (by decide +kernel)⟩
theorem lw_p7 : lw_okq (⟨"ClauseYard", "isSatisfied", "(I)Z"⟩, 10) := ⟨⟨by decide +kernel, by decide +kernel⟩, List.mem_of_getElem? (i := 14) (by decide +kernel), List.mem_of_getElem? (i := 155) (by decide +kernel), List.mem_of_getElem? (i := 156) (by decide +kernel)⟩
theorem lw_p8 : lw_okq (⟨"java/lang/Throwable", "fillInStackTrace", "(I)Ljava/lang/Throwable;"⟩, 6) := ⟨⟨by decide +kernel, by decide +kernel⟩, List.mem_of_getElem? (i := 209) (by decide +kernel), List.mem_of_getElem? (i := 207) (by decide +kernel), List.mem_of_getElem? (i := 208) (by decide +kernel)⟩
theorem lw_p9 : lw_okq (⟨"ClauseYardModel", "renew", "()V"⟩, 13) := ⟨⟨by decide +kernel, by decide +kernel⟩, List.mem_of_getElem? (i := 366) (by decide +kernel), List.mem_of_getElem? (i := 378) (by decide +kernel), List.mem_of_getElem? (i := 379) (by decide +kernel)⟩
theorem lw_p10 : lw_okq (⟨"ClauseYardModel", "apply", "(I)V"⟩, 13) := ⟨⟨by decide +kernel, by decide +kernel⟩, List.mem_of_getElem? (i := 366) (by decide +kernel), List.mem_of_getElem? (i := 383) (by decide +kernel), List.mem_of_getElem? (i := 384) (by decide +kernel)⟩
theorem lw_p11 : lw_okq (⟨"ClauseYardModel", "truth", "(II)J"⟩, 13) := ⟨⟨by decide +kernel, by decide +kernel⟩, List.mem_of_getElem? (i := 366) (by decide +kernel), List.mem_of_getElem? (i := 387) (by decide +kernel), List.mem_of_getElem? (i := 388) (by decide +kernel)⟩
theorem lw_p12 : lw_okq (⟨"ClauseYardModel", "throwing", "(ZZ)Z"⟩, 13) := ⟨⟨by decide +kernel, by decide +kernel⟩, List.mem_of_getElem? (i := 366) (by decide +kernel), List.mem_of_getElem? (i := 442) (by decide +kernel), List.mem_of_getElem? (i := 443) (by decide +kernel)⟩
theorem lw_p13 : lw_okq (⟨"ClauseYardModel", "from", "(I)I"⟩, 13) := ⟨⟨by decide +kernel, by decide +kernel⟩, List.mem_of_getElem? (i := 366) (by decide +kernel), List.mem_of_getElem? (i := 470) (by decide +kernel), List.mem_of_getElem? (i := 471) (by decide +kernel)⟩
theorem lw_p14 : lw_okq (⟨"ClauseYardModel", "word", "(II)J"⟩, 13) := ⟨⟨by decide +kernel, by decide +kernel⟩, List.mem_of_getElem? (i := 366) (by decide +kernel), List.mem_of_getElem? (i := 474) (by decide +kernel), List.mem_of_getElem? (i := 475) (by decide +kernel)⟩
theorem lw_p15 : lw_okq (⟨"ClauseYardModel", "some", "(I)Z"⟩, 13) := ⟨⟨by decide +kernel, by decide +kernel⟩, List.mem_of_getElem? (i := 366) (by decide +kernel), List.mem_of_getElem? (i := 486) (by decide +kernel), List.mem_of_getElem? (i := 487) (by decide +kernel)⟩
def lw_privs_1 : List (MethodName × Nat) := [(⟨"ClauseYard", "writeAssumptions", "(I)I"⟩, 10), (⟨"ClauseYard$Search", "writeParts", "(IIIJ)V"⟩, 8), (⟨"ClauseYard$Search", "giveReasonsOfStart", "(I)V"⟩, 8), (⟨"ClauseYard$Search", "goodByLowAlone", "(I)J"⟩, 8), (⟨"ClauseYard$Search", "goodInBlock", "(IJI)J"⟩, 8), (⟨"ClauseYard$Search", "leap", "(I)I"⟩, 8), (⟨"ClauseYard$Search", "setByReasons", "(I)I"⟩, 8), (⟨"ClauseYard", "isSatisfied", "(I)Z"⟩, 10), (⟨"java/lang/Throwable", "fillInStackTrace", "(I)Ljava/lang/Throwable;"⟩, 6), (⟨"ClauseYardModel", "renew", "()V"⟩, 13), (⟨"ClauseYardModel", "apply", "(I)V"⟩, 13), (⟨"ClauseYardModel", "truth", "(II)J"⟩, 13), (⟨"ClauseYardModel", "throwing", "(ZZ)Z"⟩, 13), (⟨"ClauseYardModel", "from", "(I)I"⟩, 13), (⟨"ClauseYardModel", "word", "(II)J"⟩, 13), (⟨"ClauseYardModel", "some", "(I)Z"⟩, 13)]
theorem lw_r1 : ∀ q ∈ lw_privs_1, lw_okq q := List.forall_mem_cons.mpr ⟨lw_p0, List.forall_mem_cons.mpr ⟨lw_p1, List.forall_mem_cons.mpr ⟨lw_p2, List.forall_mem_cons.mpr ⟨lw_p3, List.forall_mem_cons.mpr ⟨lw_p4, List.forall_mem_cons.mpr ⟨lw_p5, List.forall_mem_cons.mpr ⟨lw_p6, List.forall_mem_cons.mpr ⟨lw_p7, List.forall_mem_cons.mpr ⟨lw_p8, List.forall_mem_cons.mpr ⟨lw_p9, List.forall_mem_cons.mpr ⟨lw_p10, List.forall_mem_cons.mpr ⟨lw_p11, List.forall_mem_cons.mpr ⟨lw_p12, List.forall_mem_cons.mpr ⟨lw_p13, List.forall_mem_cons.mpr ⟨lw_p14, List.forall_mem_cons.mpr ⟨lw_p15, fun _ h => absurd h List.not_mem_nil⟩⟩⟩⟩⟩⟩⟩⟩⟩⟩⟩⟩⟩⟩⟩⟩
def lw_privs : List (MethodName × Nat) := lw_privs_1
def lw_tbl : List Cond := k2_sels lw_privs ++ tables_1
theorem lw_privs_ok : ∀ q ∈ lw_privs, lw_okq q := lw_r1
end
section
/-! ===== BEGIN words of one list among another's, by their places ===== -/
theorem goodIn_r {big : List Cond} (ws : List Cond) (ps : List Nat) (hp : ws = ps.filterMap (fun i => big[i]?)) (h : ws.all goodWord = true) : GoodIn big ws := by
  intro w hw
  have h1 := List.all_eq_true.mp h w hw
  rw [hp] at hw
  obtain ⟨i, -, hi⟩ := List.mem_filterMap.mp hw
  have hm : w ∈ big := by first | exact List.mem_of_getElem? hi | exact List.getElem?_mem hi
  exact ⟨hm, good_of_word h1⟩
theorem goodIn_app {big a b : List Cond} (ha : GoodIn big a) (hb : GoodIn big b) : GoodIn big (a ++ b) := fun w h => (List.mem_append.mp h).elim (ha w) (hb w)
theorem goodIn_ca {big a b : List Cond} {c : Cond} (ha : GoodIn big (c :: a)) (hb : GoodIn big b) : GoodIn big (c :: (a ++ b)) := fun w h => (List.mem_cons.mp h).elim (fun e => ha w (List.mem_cons.mpr (Or.inl e))) (fun h => (List.mem_append.mp h).elim (fun h => ha w (List.mem_cons.mpr (Or.inr h))) (hb w))
theorem goodIn_sub {big ws : List Cond} (hm : ∀ w ∈ ws, w ∈ big) (h : ws.all goodWord = true) : GoodIn big ws := fun w hw => ⟨hm w hw, good_of_word (List.all_eq_true.mp h w hw)⟩
/-! ===== END ===== -/

/-! ===== BEGIN exceptions that leave a method, and their catching by the caller (launches without stack traces) ===== -/
section VXA
/-! The laws vx_back, vx_callV, vx_callS, vx_callSW, vx_throw0, vx_throwS follow proofs of the library, with one case more: JvmDerived/Free/Laws.lean (Back.of_free), Shelf42/LK1.lean (callV, callS), Shelf/KitTraced.lean (throwNew0V, throwNewS). -/
/-- where a method has thrown q: the class by its name, the cell, what was written, the world -/
def vx_T (XC : String → State → State → Prop) (st : State) (q : Addr) (t : State) (mc ms : Nat) (free : Addr → Prop) : Prop :=
  ∃ (E : String) (ce : Cell) (L : List Loc), XC E st t ∧ t.heap[q]? = some ce ∧ ce.vm = .none ∧ st.vm.findClass E = some ce.cls ∧ st.WarmedH t.vm ∧ st.sameButNew ({ t with vm := st.vm } : State) L mc ms ∧ ∀ z ∈ L, free z.base
def vx_Q (Qc : Array Value → State → Outcome → State → Prop) (XC : String → State → State → Prop) (mc ms : Nat) (free : Addr → Prop) : Array Value → State → Outcome → State → Prop := fun a st o t =>
  (Qc a st o t ∧ ∃ L, FrameEnd st o t L mc ms ∧ ∀ q ∈ L, free q.base) ∨ ∃ q, o = .threw q ∧ vx_T XC st q t mc ms free
/-- a callee that returns or throws -/
def vx_Met (l : Launch) (y : MethodName) (ws : List Cond) (rm : Room) (Pc : Array Value → State → Prop) (Qc : Array Value → State → Outcome → State → Prop) (XC : String → State → State → Prop) (mc ms : Nat) (free : Addr → Prop) : Prop :=
  MetFree l y (headSpec ws rm) Pc (fun _ _ _ _ _ => True) (vx_Q Qc XC mc ms free)
def vx_Post (XC : String → State → State → Prop) (mc ms : Nat) (free : Addr → Prop) : Pt → Array Value → Addr → Pt → Prop := fun A a q B =>
  ∃ (g : JFrame) (mk : MethodId) (t : State) (L : List Loc) (E : String) (ce : Cell), B.U.heap = t.heap ∧ B.U.vm = t.vm ∧ XC E (A.U.calling g mk a) t ∧ t.heap[q]? = some ce ∧ ce.vm = .none ∧ A.U.vm.findClass E = some ce.cls ∧ B.locs = A.locs ++ L ∧ (∀ z ∈ L, free z.base) ∧ B.cells = A.cells + mc ∧ B.slots = A.slots + ms
def vx_Back (l : Launch) (R : Room) (p : Program) (e : Env) (below : List Frame) (s : State) (sargs : Array Value) (y : MethodName) (len W9 : Nat)
    (Pre : Pt → Array Value → Prop) (Post : Pt → Array Value → Option Value → Pt → Prop) (PostX : Pt → Array Value → Addr → Pt → Prop) : Prop :=
  ∀ (m : MethodId) (meth : Method) (c : Code) (A : Pt) (g : JFrame) (ig : Instr) (mk : MethodId) (a : Array Value),
    Stand p l e R s m sargs below meth c A.U A.locs A.cells A.slots → g.method = m → g.locals.size = c.maxLocals → decode c.code g.pc = .ok (ig, len) →
    2 * g.monitorRoom + (g.stack.map fun v => v.category).sum ≤ W9 → A.U.methodNamed? y = some mk → Pre A a →
    (∃ (v : Option Value) (B : Pt), Stand p l e R s m sargs below meth c B.U B.locs B.cells B.slots ∧ Post A a v B ∧
      Steps p.tables e below (doInvoke e (A.U.setTop g) [] mk a).1 (B.U.setTop { g with pc := g.pc + len, stack := v.toList ++ g.stack })) ∨
    (∃ (q : Addr) (B : Pt), Stand p l e R s m sargs below meth c B.U B.locs B.cells B.slots ∧ PostX A a q B ∧
      Steps p.tables e below (doInvoke e (A.U.setTop g) [] mk a).1 ((B.U.setTop g).pushFrame (.throwing q)))
section Payer
variable {l : Launch} {R : Room} {p : Program} {e : Env} {below : List Frame} {s : State} {sargs : Array Value} {y : MethodName} {len W9 : Nat}
theorem vx_back {ws : List Cond} {rm : Room} {Pc : Array Value → State → Prop} {Qc : Array Value → State → Outcome → State → Prop} {XC : String → State → State → Prop} {mc ms : Nat} {free : Addr → Prop} {bytes : ByteArray} {maxL : Nat} {ret : Option FieldType}
    (hM : vx_Met l y ws rm Pc Qc XC mc ms free) (hblind : FrameBlind Pc) (hrc : rm.cells = mc) (hrs : rm.slots = ms)
    (hframes : rm.frames + 1 ≤ R.frames) (hlocals : W9 + (maxL + 11) + rm.locals ≤ R.locals)
    (hws : ∀ w ∈ ws, ∀ a' U, s.WarmedH U.vm → w.before a' U = true) (hcode : Cond.code y bytes maxL ret ∈ ws) (hinit : ∀ a' U, s.WarmedH U.vm → (Cond.initialized y.cls).before a' U = true) :
    vx_Back l R p e below s sargs y len W9 (PreOf R mc ms Pc) (PostOf Qc mc ms free) (vx_Post XC mc ms free) := by
  intro m meth c A g ig mk a X hg hsize hdg hW hn hp
  have h1 : (headSpec ws rm).pre.before a A.U = true := atoms_intro fun w hw => hws w hw _ _ X.warmed
  have h2 : (Cond.code y bytes maxL ret).before a A.U = true := hws _ hcode _ _ X.warmed
  have h3 : (Cond.initialized y.cls).before a A.U = true := hinit _ _ X.warmed
  have h4 : A.cells + (headSpec ws rm).room.cells ≤ R.cells := by rw [show (headSpec ws rm).room.cells = mc from hrc]; exact hp.1
  have h5 : A.slots + (headSpec ws rm).room.slots ≤ R.slots := by rw [show (headSpec ws rm).room.slots = ms from hrs]; exact hp.2.1
  have hPc : Pc a (A.U.calling g mk a) := hblind _ _ _ _ hp.2.2
  obtain ⟨U, Ls, c0, s0⟩ := A
  dsimp only [Pt.U, Pt.locs, Pt.cells, Pt.slots] at h1 h2 h3 h4 h5 X hn hPc ⊢
  obtain ⟨methY, cY, hmY, hcY, -, hlY, -, -, -, -⟩ := Cond.code_spec hn h2
  obtain ⟨kY, hkY, -⟩ := className_of_methodNamed hn
  have hinitY : kY.init = .initialized := Cond.initialized_spec (findClass_of_methodNamed hn) hkY h3
  have h : At U g.method c below := by rw [hg]; exact X.here
  have hlocals9 : W9 + (maxL + 11) + (headSpec ws rm).room.locals ≤ R.locals := hlocals
  have happ : (headSpec ws rm).appliesLoose y e.platform (U.calling g mk a) = true :=
    Spec.appliesLoose_calling (g := g) h hdg hn hkY hinitY
      (X.room_calling (g := g) (R' := (headSpec ws rm).room) hsize hmY hcY hframes (by rw [hlY]; omega) h4 h5) h1
  obtain ⟨mid, hmid⟩ := h.above
  have hfr : (U.setTop g).frames = (.java g :: mid) ++ below := by rw [State.frames_setTop' g h.top, hmid]; rfl
  obtain ⟨o, s₂, hsteps, -, hend, hq⟩ := Steps.callFree hM p X.admits X.cas X.clock (acts := []) hfr happ hPc trivial
  have hq' : vx_Q Qc XC mc ms free a (U.calling g mk a) o s₂ := hq
  rw [State.frames_setTop' g h.top] at hend
  obtain ⟨g₀, hg0⟩ := Option.isSome_iff_exists.mp h.top
  obtain ⟨r, hr⟩ := State.topJava?_eq_some.mp hg0
  have hr' : (({ U with heap := s₂.heap, slotsUsed := s₂.slotsUsed } : State).setVm s₂.vm).frames = .java g₀ :: r := hr
  rcases hq' with ⟨hqc, L, hfe, hL⟩ | ⟨q, rfl, E, ce, L, hx, hce, hcv, hcl, hW₂, hsm, hL⟩
  · obtain ⟨⟨v, rfl⟩, hW₂, e2, q2, q3, q4, q5, q6⟩ := id hfe
    have e3 : s₂ = ({ (U.calling g mk a).setFrames s₂.frames with heap := s₂.heap, slotsUsed := s₂.slotsUsed } : State).setVm s₂.vm := by
      have : s₂ = ({ s₂ with vm := (U.calling g mk a).vm } : State).setVm s₂.vm := rfl
      rw [e2] at this
      exact this
    obtain ⟨c₂, i₂, len₂, hc₂, hd₂, hf₂⟩ := hend
    have hW' : U.WarmedH s₂.vm := hW₂
    have hcc : c₂ = c := by
      have h1 : s₂.code? g.method = U.code? g.method := by
        rw [State.code?_eq, State.code?_eq, hW'.alike.method?]
      exact Option.some.inj (hc₂.symm.trans (h1.trans h.code))
    subst hcc
    have hlen : len₂ = len := by rw [hdg] at hd₂; cases hd₂; rfl
    subst hlen
    have hs₂ : s₂ = (({ U with heap := s₂.heap, slotsUsed := s₂.slotsUsed } : State).setVm s₂.vm).setTop { g with pc := g.pc + len₂, stack := v.toList ++ g.stack } := by
      refine e3.trans ?_
      rw [hf₂, State.calling_eq h.top, State.setFrames_setFrames, State.setTop_of_frames _ hr', hr]
      rfl
    have hsame : U.sameButNew ({ U with heap := s₂.heap, slotsUsed := s₂.slotsUsed } : State) L mc ms := by
      refine ⟨?_, q2, q3, q4, q5, q6⟩
      obtain ⟨t, ht, -⟩ := State.frames_cons hr
      show ({ U with heap := s₂.heap, slotsUsed := s₂.slotsUsed } : State) = { U.setFrames U.frames with heap := s₂.heap, slotsUsed := s₂.slotsUsed }
      rw [State.setFrames_self ht]
    subst hg
    refine Or.inl ⟨v, ⟨(({ U with heap := s₂.heap, slotsUsed := s₂.slotsUsed } : State).setVm s₂.vm), Ls ++ L, c0 + mc, s0 + ms⟩,
      ⟨X.admits, X.cas, X.clock, X.frames, X.room, X.hears, X.method, X.code, (X.here.setHeapUsed s₂.heap s₂.slotsUsed).setVm hW'.alike, X.tail, State.WarmedH.trans X.warmed hW', X.limits, X.bytes, X.same.trans (hsame.setVm s.vm)⟩,
      ⟨g, mk, s₂, L, rfl, rfl, hqc, rfl, hL, rfl, rfl⟩, ?_⟩
    show Steps p.tables e below _ ((({ U with heap := s₂.heap, slotsUsed := s₂.slotsUsed } : State).setVm s₂.vm).setTop { g with pc := g.pc + len₂, stack := v.toList ++ g.stack })
    rw [← hs₂]
    exact hsteps
  · obtain ⟨e2, q2, q3, q4, q5, q6⟩ := id hsm
    have e3 : s₂ = ({ (U.calling g mk a).setFrames s₂.frames with heap := s₂.heap, slotsUsed := s₂.slotsUsed } : State).setVm s₂.vm := by
      have : s₂ = ({ s₂ with vm := (U.calling g mk a).vm } : State).setVm s₂.vm := rfl
      rw [e2] at this
      exact this
    have hf₂ : s₂.frames = .throwing q :: .java g :: U.frames.tail := hend
    have hW' : U.WarmedH s₂.vm := hW₂
    have hs₂ : s₂ = ((({ U with heap := s₂.heap, slotsUsed := s₂.slotsUsed } : State).setVm s₂.vm).setTop g).pushFrame (.throwing q) := by
      refine e3.trans ?_
      rw [hf₂, State.calling_eq h.top, State.setFrames_setFrames, State.pushFrame, State.frames_setTop _ hr', State.setTop_of_frames _ hr', State.setFrames_setFrames, hr]
      rfl
    have hsame : U.sameButNew ({ U with heap := s₂.heap, slotsUsed := s₂.slotsUsed } : State) L mc ms := by
      refine ⟨?_, q2, q3, q4, q5, q6⟩
      obtain ⟨t, ht, -⟩ := State.frames_cons hr
      show ({ U with heap := s₂.heap, slotsUsed := s₂.slotsUsed } : State) = { U.setFrames U.frames with heap := s₂.heap, slotsUsed := s₂.slotsUsed }
      rw [State.setFrames_self ht]
    subst hg
    refine Or.inr ⟨q, ⟨(({ U with heap := s₂.heap, slotsUsed := s₂.slotsUsed } : State).setVm s₂.vm), Ls ++ L, c0 + mc, s0 + ms⟩,
      ⟨X.admits, X.cas, X.clock, X.frames, X.room, X.hears, X.method, X.code, (X.here.setHeapUsed s₂.heap s₂.slotsUsed).setVm hW'.alike, X.tail, State.WarmedH.trans X.warmed hW', X.limits, X.bytes, X.same.trans (hsame.setVm s.vm)⟩,
      ⟨g, mk, s₂, L, E, ce, rfl, rfl, hx, hce, hcv, hcl, rfl, hL, rfl, rfl⟩, ?_⟩
    show Steps p.tables e below _ (((({ U with heap := s₂.heap, slotsUsed := s₂.slotsUsed } : State).setVm s₂.vm).setTop g).pushFrame (.throwing q))
    rw [← hs₂]
    exact hsteps
end Payer
section Calls
variable {p : Program} {l : Launch} {e : Env} {R : Room} {s : State} {m : MethodId} {args : Array Value} {below : List Frame} {meth : Method} {c : Code} {T : State} {locs : List Loc} {cells slots : Nat}
theorem vx_callV (X : Stand p l e R s m args below meth c T locs cells slots) (hexec : p.tables.exec = Jvm.exec) {own C : String} {index : Nat} {y : MethodName} {bytes : ByteArray} {maxL : Nat} {ret : Option FieldType}
    (hown : s.vm.findClass own = some m.cls) (hlink : (Cond.methodLink own index y).before args s = true) (hinst : (Cond.instanceMethod y).before args s = true) (hsel : (Cond.selects C y y).before args s = true)
    (hcode : (Cond.code y bytes maxL ret).before args s = true) (hy : y.cls ≠ "java/lang/invoke/MethodHandle" ∧ y.cls ≠ "java/lang/invoke/VarHandle")
    {W9 : Nat} {Pre : Pt → Array Value → Prop} {Post : Pt → Array Value → Option Value → Pt → Prop} {PostX : Pt → Array Value → Addr → Pt → Prop} (hK : vx_Back l R p e below s args y 3 W9 Pre Post PostX)
    {b : Addr} {cellB : Cell} (hcell : T.heap[b]? = some cellB) (hobj : cellB.vm.isStatics = false) (hcls : s.vm.findClass C = some cellB.cls)
    {g : JFrame} (hg : g.method = m) (hsize : g.locals.size = c.maxLocals) {argsL rest : List Value} (hlen : ∀ sig, parseMethodDescriptor y.desc = some sig → argsL.length = sig.parameters.length)
    (hstack : g.stack = argsL.reverse ++ .ref b :: rest) (hW : 2 * g.monitorRoom + (rest.map fun v => v.category).sum ≤ W9) (hdg : decode c.code g.pc = .ok (.invokevirtual index, 3))
    (hpre : ∀ vm₁, s.WarmedH vm₁ → Pre ⟨T.setVm vm₁, locs, cells, slots⟩ (Value.ref b :: argsL).toArray) :
    (∃ (v : Option Value) (vm₁ : Vm) (B : Pt), s.WarmedH vm₁ ∧ Stand p l e R s m args below meth c B.U B.locs B.cells B.slots ∧ Post ⟨T.setVm vm₁, locs, cells, slots⟩ (Value.ref b :: argsL).toArray v B ∧
      ∀ target, Steps p.tables e below (B.U.setTop { g with pc := g.pc + 3, stack := v.toList ++ rest }) target → Steps p.tables e below (T.setTop g) target) ∨
    (∃ (q : Addr) (vm₁ : Vm) (B : Pt), s.WarmedH vm₁ ∧ Stand p l e R s m args below meth c B.U B.locs B.cells B.slots ∧ PostX ⟨T.setVm vm₁, locs, cells, slots⟩ (Value.ref b :: argsL).toArray q B ∧
      Steps p.tables e below (T.setTop g) ((B.U.setTop { g with stack := rest }).pushFrame (.throwing q))) := by
  obtain ⟨mk, methM, hnamed, hmethM, hstM, habM⟩ := Cond.instanceMethod_spec hinst
  obtain ⟨methM', cM, hmethM', -, -, -, -, -, -, hsigM⟩ := Cond.code_spec hnamed hcode
  cases hmethM.symm.trans hmethM'
  obtain ⟨c2, r2, m2, q1, q2, q3, q4, kP, hkP, hkPi⟩ := Cond.selects_spec hsel
  cases hcls.symm.trans q1
  cases (State.methodFound?_of_named hnamed hy).symm.trans q2
  cases hnamed.symm.trans q3
  have hselP : selectMethod e.platform s.vm cellB.cls mk = .method mk := by rw [Launch.admits_selectMethod X.admits]; exact q4
  obtain ⟨vm₁, X₁, hstep₁⟩ := X.invokevirtual hexec hown hlink hnamed hmethM hstM hkP hkPi hy (a := b) (cell := cellB) hcell
    (fun z h => by rw [h] at hobj; cases hobj) hselP hmethM habM hkP hkPi (g := g) hg (argsL := argsL) (rest := rest) (hlen _ hsigM) hstack hdg
  rcases hK m meth c ⟨T.setVm vm₁, locs, cells, slots⟩ { g with stack := rest } (.invokevirtual index) mk (Value.ref b :: argsL).toArray X₁ hg hsize hdg hW (X₁.named hnamed) (hpre vm₁ X₁.warmed) with ⟨v, B, X', hpost, hsteps⟩ | ⟨q, B, X', hpost, hsteps⟩
  · exact Or.inl ⟨v, vm₁, B, X₁.warmed, X', hpost, fun target h => hstep₁ _ fun acts => by rw [doInvoke_state]; exact hsteps.trans h⟩
  · exact Or.inr ⟨q, vm₁, B, X₁.warmed, X', hpost, hstep₁ _ fun acts => by rw [doInvoke_state]; exact hsteps⟩
theorem vx_callS (X : Stand p l e R s m args below meth c T locs cells slots) (hexec : p.tables.exec = Jvm.exec) {own : String} {index : Nat} {y : MethodName} {bytes : ByteArray} {maxL : Nat} {ret : Option FieldType}
    (hown : s.vm.findClass own = some m.cls) (hlink : (Cond.methodLink own index y).before args s = true) (hstat : (Cond.static y).before args s = true) (hinit : (Cond.initialized y.cls).before args s = true)
    (hcode : (Cond.code y bytes maxL ret).before args s = true) (hy : y.cls ≠ "java/lang/invoke/MethodHandle" ∧ y.cls ≠ "java/lang/invoke/VarHandle")
    {W9 : Nat} {Pre : Pt → Array Value → Prop} {Post : Pt → Array Value → Option Value → Pt → Prop} {PostX : Pt → Array Value → Addr → Pt → Prop} (hK : vx_Back l R p e below s args y 3 W9 Pre Post PostX)
    {g : JFrame} (hg : g.method = m) (hsize : g.locals.size = c.maxLocals) {argsL rest : List Value} (hlen : ∀ sig, parseMethodDescriptor y.desc = some sig → argsL.length = sig.parameters.length)
    (hstack : g.stack = argsL.reverse ++ rest) (hW : 2 * g.monitorRoom + (rest.map fun v => v.category).sum ≤ W9) (hdg : decode c.code g.pc = .ok (.invokestatic index, 3))
    (hpre : ∀ vm₁, s.WarmedH vm₁ → Pre ⟨T.setVm vm₁, locs, cells, slots⟩ argsL.toArray) :
    (∃ (v : Option Value) (vm₁ : Vm) (B : Pt), s.WarmedH vm₁ ∧ Stand p l e R s m args below meth c B.U B.locs B.cells B.slots ∧ Post ⟨T.setVm vm₁, locs, cells, slots⟩ argsL.toArray v B ∧
      ∀ target, Steps p.tables e below (B.U.setTop { g with pc := g.pc + 3, stack := v.toList ++ rest }) target → Steps p.tables e below (T.setTop g) target) ∨
    (∃ (q : Addr) (vm₁ : Vm) (B : Pt), s.WarmedH vm₁ ∧ Stand p l e R s m args below meth c B.U B.locs B.cells B.slots ∧ PostX ⟨T.setVm vm₁, locs, cells, slots⟩ argsL.toArray q B ∧
      Steps p.tables e below (T.setTop g) ((B.U.setTop { g with stack := rest }).pushFrame (.throwing q))) := by
  obtain ⟨mk, hnamed⟩ := Cond.code_named hcode
  obtain ⟨methM, cM, hmethM, -, -, -, -, -, -, hsigM⟩ := Cond.code_spec hnamed hcode
  have hstatic : methM.isStatic = true := Cond.static_spec hnamed hmethM hstat
  obtain ⟨kP, hkP, -⟩ := className_of_methodNamed hnamed
  have hinitP : kP.init = .initialized := Cond.initialized_spec (findClass_of_methodNamed hnamed) hkP hinit
  obtain ⟨vm₁, X₁, hstep₁⟩ := X.invokestatic hexec hown hlink hnamed hmethM hstatic hkP hinitP hy (g := g) hg (argsL := argsL) (rest := rest) (hlen _ hsigM) hstack hdg
  rcases hK m meth c ⟨T.setVm vm₁, locs, cells, slots⟩ { g with stack := rest } (.invokestatic index) mk argsL.toArray X₁ hg hsize hdg hW (X₁.named hnamed) (hpre vm₁ X₁.warmed) with ⟨v, B, X', hpost, hsteps⟩ | ⟨q, B, X', hpost, hsteps⟩
  · exact Or.inl ⟨v, vm₁, B, X₁.warmed, X', hpost, fun target h => hstep₁ _ fun acts => by rw [doInvoke_state]; exact hsteps.trans h⟩
  · exact Or.inr ⟨q, vm₁, B, X₁.warmed, X', hpost, hstep₁ _ fun acts => by rw [doInvoke_state]; exact hsteps⟩
end Calls
theorem vx_cls {s : State} {T : State} {vm₁ : Vm} {E : String} {k : ClassId} (hW : s.WarmedH vm₁) (h : (T.setVm vm₁).vm.findClass E = some k) : s.vm.findClass E = some k := by
  have h1 : vm₁.findClass E = some k := h
  rw [hW.alike.findClass] at h1
  exact h1
/-- the method's frame g, with q thrown over it -/
def vx_W (p : Program) (l : Launch) (e : Env) (R : Room) (s : State) (m : MethodId) (args : Array Value) (below : List Frame) (meth : Method) (c : Code) (H : Heap) (locs : List Loc) (cells slots : Nat) (Q : State → Prop) (g : JFrame) (q : Addr) : Prop :=
  ∀ T : State, T.heap = H → Stand p l e R s m args below meth c T locs cells slots → ∃ t, Steps p.tables e below ((T.setTop g).pushFrame (.throwing q)) t ∧ Q t
def vx_Run (p : Program) (l : Launch) (e : Env) (R : Room) (s : State) (m : MethodId) (args : Array Value) (below : List Frame) (meth : Method) (c : Code) (H : Heap) (locs : List Loc) (cells slots mc ms : Nat) (g : JFrame) (rest : List Value) (Qa : State → Outcome → State → Prop) (XC : String → State → State → Prop) (free : Addr → Prop) : Prop :=
  ∀ T : State, T.heap = H → Stand p l e R s m args below meth c T locs cells slots →
    (∃ (v : Option Value) (st₀ t T' : State) (L : List Loc), st₀.heap = H ∧ Stand p l e R s m args below meth c T' (locs ++ L) (cells + mc) (slots + ms) ∧ (∀ q ∈ L, free q.base) ∧ T'.heap = t.heap ∧ T'.vm = t.vm ∧ Qa st₀ (.returned v) t ∧
      Goes p e below T g T' { g with pc := g.pc + 3, stack := v.toList ++ rest }) ∨
    (∃ (q : Addr) (st₀ t T' : State) (L : List Loc) (E : String) (ce : Cell), st₀.heap = H ∧ Stand p l e R s m args below meth c T' (locs ++ L) (cells + mc) (slots + ms) ∧ (∀ z ∈ L, free z.base) ∧ T'.heap = t.heap ∧ T'.vm = t.vm ∧ XC E st₀ t ∧ t.heap[q]? = some ce ∧ ce.vm = .none ∧ s.vm.findClass E = some ce.cls ∧
      Steps p.tables e below (T.setTop g) ((T'.setTop { g with stack := rest }).pushFrame (.throwing q)))
def vx_X {S : Type} (px : S → Prop) (B : String → S → State → Prop) (A : Nat → Prop) : String → State → State → Prop := fun E st t => ∃ u : S, px u ∧ B E u t ∧ va_F A st t
section Runs
variable {p : Program} {l : Launch} {e : Env} {R : Room} {s : State} {m : MethodId} {args : Array Value} {below : List Frame} {meth : Method} {c : Code} {H : Heap} {locs : List Loc} {cells slots : Nat}
variable {y : MethodName} {bytes cc : ByteArray} {maxL nL mc ms n index : Nat} {ret : Option FieldType} {ws : List Cond} {rm : Room} {Pc : Array Value → State → Prop} {Qc : Array Value → State → Outcome → State → Prop} {XC : String → State → State → Prop} {free : Addr → Prop} {Ts : List Cond} {own C : String} {b : Addr} {As rest : List Value} {g : JFrame}
theorem vx_callBack (cb : CallB R s args own index y bytes maxL ret ws rm mc ms n) (hM : vx_Met l y ws rm Pc Qc XC mc ms free) (hbl : FrameBlind Pc) : vx_Back l R p e below s args y 3 8 (PreOf R mc ms Pc) (PostOf Qc mc ms free) (vx_Post XC mc ms free) := by
  obtain ⟨hrc, hrs, hfr, hlo, hws, hcw, -, hini, -⟩ := cb
  exact vx_back (bytes := bytes) (maxL := maxL) (ret := ret) hM hbl hrc hrs hfr hlo hws hcw (fun a' U hW => word_at hW (Or.inl (by first | rfl | simp [Cond.onTables, Cond.keeps, Cond.steady])) hini)
theorem vx_runV (S : CallFix p m c cc nL s args Ts own) (hM : vx_Met l y ws rm Pc Qc XC mc ms free) (cw : CallW R s args own C index y bytes maxL ret ws rm mc ms n) (hp : PreV s H C b Pc As)
    (hg : g.method = m) (hn : As.length = n) (hsize : g.locals.size = nL) (hstack : g.stack = As.reverse ++ .ref b :: rest) (hW : 2 * g.monitorRoom + (rest.map fun v => v.category).sum ≤ 8) (hdg : decode cc g.pc = .ok (.invokevirtual index, 3)) (hf : cells + mc ≤ R.cells ∧ slots + ms ≤ R.slots) :
    vx_Run p l e R s m args below meth c H locs cells slots mc ms g rest (Qc (Value.ref b :: As).toArray) XC free := by
  have hK : vx_Back l R p e below s args y 3 8 (PreOf R mc ms Pc) (PostOf Qc mc ms free) (vx_Post XC mc ms free) := vx_callBack cw.1 hM hp.1
  obtain ⟨⟨-, -, -, -, -, -, hcode, -, hy, hlen, hl⟩, hin, hse⟩ := cw
  obtain ⟨hx, hb, hml, ho, -⟩ := S
  obtain ⟨-, ⟨cellB, hcB, hoB, hclB⟩, hPc⟩ := hp
  intro T hT X
  rcases vx_callV X hx (C := C) (bytes := bytes) (maxL := maxL) (ret := ret) ho hl hin hse hcode hy hK (by rw [hT]; exact hcB) hoB hclB hg (hsize.trans hml.symm) (argsL := As) (rest := rest) (fun sig h => hn.trans (hlen sig h)) hstack hW (by rw [hb]; exact hdg)
    (fun vm₁ hW₁ => ⟨hf.1, hf.2, hPc (T.setVm vm₁) hT hW₁⟩) with ⟨v, vm₁, ⟨U', l2, c2, s2⟩, hW₁, X', ⟨g', mk, t, L, e1, e2, hq, h1, hL, h2, h3⟩, st⟩ | ⟨q, vm₁, ⟨U', l2, c2, s2⟩, hW₁, X', ⟨g', mk, t, L, E, ce, e1, e2, hq, hce, hcv, hcl, h1, hL, h2, h3⟩, st⟩
  · dsimp only [Pt.U, Pt.locs, Pt.cells, Pt.slots] at X' e1 e2 h1 h2 h3 st
    subst h1; subst h2; subst h3
    exact Or.inl ⟨v, (T.setVm vm₁).calling g' mk (Value.ref b :: As).toArray, t, U', L, hT, X', hL, e1, e2, hq, st⟩
  · dsimp only [Pt.U, Pt.locs, Pt.cells, Pt.slots] at X' e1 e2 h1 h2 h3 st hcl
    subst h1; subst h2; subst h3
    exact Or.inr ⟨q, (T.setVm vm₁).calling g' mk (Value.ref b :: As).toArray, t, U', L, E, ce, hT, X', hL, e1, e2, hq, hce, hcv, vx_cls hW₁ hcl, st⟩
theorem vx_runS (S : CallFix p m c cc nL s args Ts own) (hM : vx_Met l y ws rm Pc Qc XC mc ms free) (cw : CallB R s args own index y bytes maxL ret ws rm mc ms n ∧ (Cond.static y).before args s = true) (hp : PreS s H Pc As)
    (hg : g.method = m) (hn : As.length = n) (hsize : g.locals.size = nL) (hstack : g.stack = As.reverse ++ rest) (hW : 2 * g.monitorRoom + (rest.map fun v => v.category).sum ≤ 8) (hdg : decode cc g.pc = .ok (.invokestatic index, 3)) (hf : cells + mc ≤ R.cells ∧ slots + ms ≤ R.slots) :
    vx_Run p l e R s m args below meth c H locs cells slots mc ms g rest (Qc As.toArray) XC free := by
  have hK : vx_Back l R p e below s args y 3 8 (PreOf R mc ms Pc) (PostOf Qc mc ms free) (vx_Post XC mc ms free) := vx_callBack cw.1 hM hp.1
  obtain ⟨⟨-, -, -, -, -, -, hcode, hini, hy, hlen, hl⟩, hstt⟩ := cw
  obtain ⟨hx, hb, hml, ho, -⟩ := S
  intro T hT X
  rcases vx_callS X hx (bytes := bytes) (maxL := maxL) (ret := ret) ho hl hstt hini hcode hy hK hg (hsize.trans hml.symm) (argsL := As) (rest := rest) (fun sig h => hn.trans (hlen sig h)) hstack hW (by rw [hb]; exact hdg)
    (fun vm₁ hW₁ => ⟨hf.1, hf.2, hp.2 (T.setVm vm₁) hT hW₁⟩) with ⟨v, vm₁, ⟨U', l2, c2, s2⟩, hW₁, X', ⟨g', mk, t, L, e1, e2, hq, h1, hL, h2, h3⟩, st⟩ | ⟨q, vm₁, ⟨U', l2, c2, s2⟩, hW₁, X', ⟨g', mk, t, L, E, ce, e1, e2, hq, hce, hcv, hcl, h1, hL, h2, h3⟩, st⟩
  · dsimp only [Pt.U, Pt.locs, Pt.cells, Pt.slots] at X' e1 e2 h1 h2 h3 st
    subst h1; subst h2; subst h3
    exact Or.inl ⟨v, (T.setVm vm₁).calling g' mk As.toArray, t, U', L, hT, X', hL, e1, e2, hq, st⟩
  · dsimp only [Pt.U, Pt.locs, Pt.cells, Pt.slots] at X' e1 e2 h1 h2 h3 st hcl
    subst h1; subst h2; subst h3
    exact Or.inr ⟨q, (T.setVm vm₁).calling g' mk As.toArray, t, U', L, E, ce, hT, X', hL, e1, e2, hq, hce, hcv, vx_cls hW₁ hcl, st⟩
end Runs
section Rows
variable {p : Program} {l : Launch} {e : Env} {R : Room} {s : State} {m : MethodId} {args : Array Value} {below : List Frame} {meth : Method} {c : Code} {H : Heap} {locs : List Loc} {cells slots : Nat} {Q : State → Prop}
variable {mc ms : Nat} {free : Addr → Prop} {A0 A1 : Nat → Prop} {H0 : Heap} {a : Array Value} {pc : Nat} {ls : Array Slot} {st0 rest : List Value}
theorem vx_keep {st₀ t T' : State} {L : List Loc} (h0 : st₀.heap = H) (e1 : T'.heap = t.heap) (hS : va_S A0 H0 H locs) (hA : ∀ q, q < H.size → A1 q → A0 q) (hf : ∀ q, free q → A0 q) (hL : ∀ q ∈ L, free q.base) (hF : va_F A1 st₀ t) :
    H.size ≤ T'.heap.size ∧ (∀ q : Nat, q < H.size → ¬ A1 q → T'.heap[q]? = H[q]?) ∧ va_S A0 H0 T'.heap (locs ++ L) := by
  obtain ⟨hz, hk⟩ := hF
  rw [h0] at hz hk
  exact ⟨by rw [e1]; exact hz, fun q h1 h2 => by rw [e1]; exact hk q h1 h2,
    ⟨Nat.le_trans hS.1 (by rw [e1]; exact hz), fun q h1 h2 => by rw [e1, hk q (Nat.lt_of_lt_of_le h1 hS.1) (fun z => h2 (hA q (Nat.lt_of_lt_of_le h1 hS.1) z))]; exact hS.2.1 q h1 h2, fun q hq => by
      rcases List.mem_append.mp hq with h | h
      · exact hS.2.2 q h
      · exact hf _ (hL q h)⟩⟩
theorem vx_calli {S SX : Type} {post : Int32 → S → Prop} {px : SX → Prop} {B : S → State → Prop} {BX : String → SX → State → Prop} {AX : Nat → Prop} (hr : vx_Run p l e R s m args below meth c H locs cells slots mc ms (F0 m pc ls st0) rest (va_Qi post B A1 a) (vx_X px BX AX) free) (hS : va_S A0 H0 H locs) (hA : ∀ q, q < H.size → A1 q → A0 q) (hf : ∀ q, free q → A0 q) (hAX : ∀ q, q < H.size → AX q → A0 q)
    (kx : ∀ (E : String) (ce : Cell) (q9 : Addr) (u : SX) (t : State) (H1 : Heap) (locs1 : List Loc), t.heap = H1 → s.vm.Alike t.vm → px u → BX E u t → H.size ≤ H1.size → (∀ q : Nat, q < H.size → ¬ AX q → H1[q]? = H[q]?) → va_S A0 H0 H1 locs1 → H1[q9]? = some ce → ce.vm = .none → s.vm.findClass E = some ce.cls → vx_W p l e R s m args below meth c H1 locs1 (cells + mc) (slots + ms) Q (F0 m pc ls rest) q9)
    (kk : ∀ (r : Int32) (u : S) (t : State) (H1 : Heap) (locs1 : List Loc), t.heap = H1 → s.vm.Alike t.vm → post r u → B u t → H.size ≤ H1.size → (∀ q : Nat, q < H.size → ¬ A1 q → H1[q]? = H[q]?) → va_S A0 H0 H1 locs1 → W p l e R s m args below meth c H1 locs1 (cells + mc) (slots + ms) Q (F0 m (pc + 3) ls (.int r :: rest))) : W p l e R s m args below meth c H locs cells slots Q (F0 m pc ls st0) := by
  intro T hT X
  rcases hr T hT X with ⟨v, st₀, t, T', L, h0, X', hL, e1, e2, ⟨⟨r, u, hv, hp, hb⟩, hF⟩, st⟩ | ⟨q, st₀, t, T', L, E, ce, h0, X', hL, e1, e2, ⟨u, hp, hb, hF⟩, hce, hcv, hcl, st⟩
  · cases hv
    obtain ⟨k1, k2, k3⟩ := vx_keep h0 e1 hS hA hf hL hF
    obtain ⟨t2, a1, b1⟩ := kk r u t T'.heap (locs ++ L) e1.symm (by rw [← e2]; exact X'.warmed.alike) hp hb k1 k2 k3 T' rfl X'
    exact ⟨t2, st t2 a1, b1⟩
  · obtain ⟨k1, k2, k3⟩ := vx_keep h0 e1 hS hAX hf hL hF
    obtain ⟨t2, a1, b1⟩ := kx E ce q u t T'.heap (locs ++ L) e1.symm (by rw [← e2]; exact X'.warmed.alike) hp hb k1 k2 k3 (by rw [e1]; exact hce) hcv hcl T' rfl X'
    exact ⟨t2, st.trans a1, b1⟩
theorem vx_calll {S SX : Type} {post : Int64 → S → Prop} {px : SX → Prop} {B : S → State → Prop} {BX : String → SX → State → Prop} {AX : Nat → Prop} (hr : vx_Run p l e R s m args below meth c H locs cells slots mc ms (F0 m pc ls st0) rest (va_Ql post B A1 a) (vx_X px BX AX) free) (hS : va_S A0 H0 H locs) (hA : ∀ q, q < H.size → A1 q → A0 q) (hf : ∀ q, free q → A0 q) (hAX : ∀ q, q < H.size → AX q → A0 q)
    (kx : ∀ (E : String) (ce : Cell) (q9 : Addr) (u : SX) (t : State) (H1 : Heap) (locs1 : List Loc), t.heap = H1 → s.vm.Alike t.vm → px u → BX E u t → H.size ≤ H1.size → (∀ q : Nat, q < H.size → ¬ AX q → H1[q]? = H[q]?) → va_S A0 H0 H1 locs1 → H1[q9]? = some ce → ce.vm = .none → s.vm.findClass E = some ce.cls → vx_W p l e R s m args below meth c H1 locs1 (cells + mc) (slots + ms) Q (F0 m pc ls rest) q9)
    (kk : ∀ (r : Int64) (u : S) (t : State) (H1 : Heap) (locs1 : List Loc), t.heap = H1 → s.vm.Alike t.vm → post r u → B u t → H.size ≤ H1.size → (∀ q : Nat, q < H.size → ¬ A1 q → H1[q]? = H[q]?) → va_S A0 H0 H1 locs1 → W p l e R s m args below meth c H1 locs1 (cells + mc) (slots + ms) Q (F0 m (pc + 3) ls (.long r :: rest))) : W p l e R s m args below meth c H locs cells slots Q (F0 m pc ls st0) := by
  intro T hT X
  rcases hr T hT X with ⟨v, st₀, t, T', L, h0, X', hL, e1, e2, ⟨⟨r, u, hv, hp, hb⟩, hF⟩, st⟩ | ⟨q, st₀, t, T', L, E, ce, h0, X', hL, e1, e2, ⟨u, hp, hb, hF⟩, hce, hcv, hcl, st⟩
  · cases hv
    obtain ⟨k1, k2, k3⟩ := vx_keep h0 e1 hS hA hf hL hF
    obtain ⟨t2, a1, b1⟩ := kk r u t T'.heap (locs ++ L) e1.symm (by rw [← e2]; exact X'.warmed.alike) hp hb k1 k2 k3 T' rfl X'
    exact ⟨t2, st t2 a1, b1⟩
  · obtain ⟨k1, k2, k3⟩ := vx_keep h0 e1 hS hAX hf hL hF
    obtain ⟨t2, a1, b1⟩ := kx E ce q u t T'.heap (locs ++ L) e1.symm (by rw [← e2]; exact X'.warmed.alike) hp hb k1 k2 k3 (by rw [e1]; exact hce) hcv hcl T' rfl X'
    exact ⟨t2, st.trans a1, b1⟩
theorem vx_callf {S SX : Type} {post : UInt32 → S → Prop} {px : SX → Prop} {B : S → State → Prop} {BX : String → SX → State → Prop} {AX : Nat → Prop} (hr : vx_Run p l e R s m args below meth c H locs cells slots mc ms (F0 m pc ls st0) rest (va_Qf post B A1 a) (vx_X px BX AX) free) (hS : va_S A0 H0 H locs) (hA : ∀ q, q < H.size → A1 q → A0 q) (hf : ∀ q, free q → A0 q) (hAX : ∀ q, q < H.size → AX q → A0 q)
    (kx : ∀ (E : String) (ce : Cell) (q9 : Addr) (u : SX) (t : State) (H1 : Heap) (locs1 : List Loc), t.heap = H1 → s.vm.Alike t.vm → px u → BX E u t → H.size ≤ H1.size → (∀ q : Nat, q < H.size → ¬ AX q → H1[q]? = H[q]?) → va_S A0 H0 H1 locs1 → H1[q9]? = some ce → ce.vm = .none → s.vm.findClass E = some ce.cls → vx_W p l e R s m args below meth c H1 locs1 (cells + mc) (slots + ms) Q (F0 m pc ls rest) q9)
    (kk : ∀ (r : UInt32) (u : S) (t : State) (H1 : Heap) (locs1 : List Loc), t.heap = H1 → s.vm.Alike t.vm → post r u → B u t → H.size ≤ H1.size → (∀ q : Nat, q < H.size → ¬ A1 q → H1[q]? = H[q]?) → va_S A0 H0 H1 locs1 → W p l e R s m args below meth c H1 locs1 (cells + mc) (slots + ms) Q (F0 m (pc + 3) ls (.float r :: rest))) : W p l e R s m args below meth c H locs cells slots Q (F0 m pc ls st0) := by
  intro T hT X
  rcases hr T hT X with ⟨v, st₀, t, T', L, h0, X', hL, e1, e2, ⟨⟨r, u, hv, hp, hb⟩, hF⟩, st⟩ | ⟨q, st₀, t, T', L, E, ce, h0, X', hL, e1, e2, ⟨u, hp, hb, hF⟩, hce, hcv, hcl, st⟩
  · cases hv
    obtain ⟨k1, k2, k3⟩ := vx_keep h0 e1 hS hA hf hL hF
    obtain ⟨t2, a1, b1⟩ := kk r u t T'.heap (locs ++ L) e1.symm (by rw [← e2]; exact X'.warmed.alike) hp hb k1 k2 k3 T' rfl X'
    exact ⟨t2, st t2 a1, b1⟩
  · obtain ⟨k1, k2, k3⟩ := vx_keep h0 e1 hS hAX hf hL hF
    obtain ⟨t2, a1, b1⟩ := kx E ce q u t T'.heap (locs ++ L) e1.symm (by rw [← e2]; exact X'.warmed.alike) hp hb k1 k2 k3 (by rw [e1]; exact hce) hcv hcl T' rfl X'
    exact ⟨t2, st.trans a1, b1⟩
theorem vx_calld {S SX : Type} {post : UInt64 → S → Prop} {px : SX → Prop} {B : S → State → Prop} {BX : String → SX → State → Prop} {AX : Nat → Prop} (hr : vx_Run p l e R s m args below meth c H locs cells slots mc ms (F0 m pc ls st0) rest (va_Qd post B A1 a) (vx_X px BX AX) free) (hS : va_S A0 H0 H locs) (hA : ∀ q, q < H.size → A1 q → A0 q) (hf : ∀ q, free q → A0 q) (hAX : ∀ q, q < H.size → AX q → A0 q)
    (kx : ∀ (E : String) (ce : Cell) (q9 : Addr) (u : SX) (t : State) (H1 : Heap) (locs1 : List Loc), t.heap = H1 → s.vm.Alike t.vm → px u → BX E u t → H.size ≤ H1.size → (∀ q : Nat, q < H.size → ¬ AX q → H1[q]? = H[q]?) → va_S A0 H0 H1 locs1 → H1[q9]? = some ce → ce.vm = .none → s.vm.findClass E = some ce.cls → vx_W p l e R s m args below meth c H1 locs1 (cells + mc) (slots + ms) Q (F0 m pc ls rest) q9)
    (kk : ∀ (r : UInt64) (u : S) (t : State) (H1 : Heap) (locs1 : List Loc), t.heap = H1 → s.vm.Alike t.vm → post r u → B u t → H.size ≤ H1.size → (∀ q : Nat, q < H.size → ¬ A1 q → H1[q]? = H[q]?) → va_S A0 H0 H1 locs1 → W p l e R s m args below meth c H1 locs1 (cells + mc) (slots + ms) Q (F0 m (pc + 3) ls (.double r :: rest))) : W p l e R s m args below meth c H locs cells slots Q (F0 m pc ls st0) := by
  intro T hT X
  rcases hr T hT X with ⟨v, st₀, t, T', L, h0, X', hL, e1, e2, ⟨⟨r, u, hv, hp, hb⟩, hF⟩, st⟩ | ⟨q, st₀, t, T', L, E, ce, h0, X', hL, e1, e2, ⟨u, hp, hb, hF⟩, hce, hcv, hcl, st⟩
  · cases hv
    obtain ⟨k1, k2, k3⟩ := vx_keep h0 e1 hS hA hf hL hF
    obtain ⟨t2, a1, b1⟩ := kk r u t T'.heap (locs ++ L) e1.symm (by rw [← e2]; exact X'.warmed.alike) hp hb k1 k2 k3 T' rfl X'
    exact ⟨t2, st t2 a1, b1⟩
  · obtain ⟨k1, k2, k3⟩ := vx_keep h0 e1 hS hAX hf hL hF
    obtain ⟨t2, a1, b1⟩ := kx E ce q u t T'.heap (locs ++ L) e1.symm (by rw [← e2]; exact X'.warmed.alike) hp hb k1 k2 k3 (by rw [e1]; exact hce) hcv hcl T' rfl X'
    exact ⟨t2, st.trans a1, b1⟩
theorem vx_callv {S SX : Type} {post : S → Prop} {px : SX → Prop} {B : S → State → Prop} {BX : String → SX → State → Prop} {AX : Nat → Prop} (hr : vx_Run p l e R s m args below meth c H locs cells slots mc ms (F0 m pc ls st0) rest (va_Qv post B A1 a) (vx_X px BX AX) free) (hS : va_S A0 H0 H locs) (hA : ∀ q, q < H.size → A1 q → A0 q) (hf : ∀ q, free q → A0 q) (hAX : ∀ q, q < H.size → AX q → A0 q)
    (kx : ∀ (E : String) (ce : Cell) (q9 : Addr) (u : SX) (t : State) (H1 : Heap) (locs1 : List Loc), t.heap = H1 → s.vm.Alike t.vm → px u → BX E u t → H.size ≤ H1.size → (∀ q : Nat, q < H.size → ¬ AX q → H1[q]? = H[q]?) → va_S A0 H0 H1 locs1 → H1[q9]? = some ce → ce.vm = .none → s.vm.findClass E = some ce.cls → vx_W p l e R s m args below meth c H1 locs1 (cells + mc) (slots + ms) Q (F0 m pc ls rest) q9)
    (kk : ∀ (u : S) (t : State) (H1 : Heap) (locs1 : List Loc), t.heap = H1 → s.vm.Alike t.vm → post u → B u t → H.size ≤ H1.size → (∀ q : Nat, q < H.size → ¬ A1 q → H1[q]? = H[q]?) → va_S A0 H0 H1 locs1 → W p l e R s m args below meth c H1 locs1 (cells + mc) (slots + ms) Q (F0 m (pc + 3) ls (rest))) : W p l e R s m args below meth c H locs cells slots Q (F0 m pc ls st0) := by
  intro T hT X
  rcases hr T hT X with ⟨v, st₀, t, T', L, h0, X', hL, e1, e2, ⟨⟨u, hv, hp, hb⟩, hF⟩, st⟩ | ⟨q, st₀, t, T', L, E, ce, h0, X', hL, e1, e2, ⟨u, hp, hb, hF⟩, hce, hcv, hcl, st⟩
  · cases hv
    obtain ⟨k1, k2, k3⟩ := vx_keep h0 e1 hS hA hf hL hF
    obtain ⟨t2, a1, b1⟩ := kk u t T'.heap (locs ++ L) e1.symm (by rw [← e2]; exact X'.warmed.alike) hp hb k1 k2 k3 T' rfl X'
    exact ⟨t2, st t2 a1, b1⟩
  · obtain ⟨k1, k2, k3⟩ := vx_keep h0 e1 hS hAX hf hL hF
    obtain ⟨t2, a1, b1⟩ := kx E ce q u t T'.heap (locs ++ L) e1.symm (by rw [← e2]; exact X'.warmed.alike) hp hb k1 k2 k3 (by rw [e1]; exact hce) hcv hcl T' rfl X'
    exact ⟨t2, st.trans a1, b1⟩
/-- caught by the row x of this method's table; the rows ahead don't take it -/
theorem vx_catch {own name : String} {E : String} {ce : Cell} {q : Addr} (hown : s.vm.findClass own = some m.cls) (pre : List ExceptionTableEntry) (x : ExceptionTableEntry) (suf : List ExceptionTableEntry) (hsplit : c.exceptionTable.toList = pre ++ x :: suf)
    (hpass : ∀ z ∈ pre, covers z pc = false ∨ (z.catchType ≠ 0 ∧ ∃ nm : String, (Cond.classLink own z.catchType nm).before args s = true ∧ va_Nc E nm s)) (hx : covers x pc = true) (h0 : x.catchType ≠ 0)
    (hlink : (Cond.classLink own x.catchType name).before args s = true) (hcast : (Cond.castable E name).before args s = true) (hcell : H[q]? = some ce) (hv : ce.vm = .none) (hcl : s.vm.findClass E = some ce.cls)
    (kk : W p l e R s m args below meth c H locs cells slots Q (F0 m x.handlerPc ls [.ref q])) : vx_W p l e R s m args below meth c H locs cells slots Q (F0 m pc ls rest) q := by
  intro T hT X
  have hpl : e.platform.magicAccessors = ({} : Platform).magicAccessors := by rw [X.admits.platform]
  obtain ⟨c3, c4, hc3, hc4, hasg⟩ := Cond.castable_spec hcast
  cases Option.some.inj (hc3.symm.trans hcl)
  obtain ⟨c5, hc5, hcl5⟩ := Cond.classLink_spec hown hlink e.platform hpl
  cases Option.some.inj (hc4.symm.trans hc5)
  obtain ⟨vm', X', st⟩ := X.thenCaughtThrough q (g := F0 m pc ls rest) rfl (Steps.refl _) (by rw [hT]; exact hcell) (by rw [hv]; rfl) (by obtain ⟨k9, h9, -⟩ := Vm.findClass_spec hcl; exact ⟨k9, h9⟩) pre x suf hsplit
    (fun z hz => by
      rcases hpass z hz with h | ⟨hz0, nm, hl1, hn1⟩
      · exact Or.inl h
      · obtain ⟨c6, hc6, hcl6⟩ := Cond.classLink_spec hown hl1 e.platform hpl
        obtain ⟨a8, b8, h1, h2, h3⟩ := hn1
        cases Option.some.inj (h1.symm.trans hcl)
        cases Option.some.inj (h2.symm.trans hc6)
        exact Or.inr ⟨hz0, _, hcl6, h3⟩) hx (Or.inr ⟨h0, c4, hcl5, hasg⟩)
  obtain ⟨t, a1, b1⟩ := kk (T.setVm vm') hT X'
  exact ⟨t, st.trans a1, b1⟩
end Rows
section Ends
variable {p : Program} {l : Launch} {e : Env} {R : Room} {s : State} {m : MethodId} {args : Array Value} {below : List Frame} {meth : Method} {c : Code} {H : Heap} {locs : List Loc} {cells slots : Nat} {Q : State → Prop}
variable {mc ms : Nat} {free : Addr → Prop} {A0 A1 : Nat → Prop} {H0 : Heap} {a : Array Value} {ls : Array Slot} {st0 rest : List Value}
variable {Qc : Array Value → State → Outcome → State → Prop} {XC : String → State → State → Prop}
/-- what a body that may throw owes at its end -/
def vx_MQ (below : List Frame) (Qc : Array Value → State → Outcome → State → Prop) (XC : String → State → State → Prop) (a : Array Value) (s : State) (mc ms : Nat) (free : Addr → Prop) : State → Prop := fun t =>
  ∃ o, t.status = .running ∧ Ended t below o ∧ vx_Q Qc XC mc ms free a s o t
theorem vx_ret {g : JFrame} {mc ms : Nat} (k : W p l e R s m args below meth c H locs cells slots (MQ below Qc args s mc ms free) g) : W p l e R s m args below meth c H locs cells slots (vx_MQ below Qc XC args s mc ms free) g := by
  intro T hT X
  obtain ⟨t, a1, o, b1, b2, b3, b4⟩ := k T hT X
  exact ⟨t, a1, o, b1, b2, Or.inl ⟨b3, b4⟩⟩
/-- not caught here: it goes on to the caller -/
theorem vx_widen {g : JFrame} {q : Addr} {k n : Nat} (h1 : cells ≤ k) (h2 : slots ≤ n) (kk : vx_W p l e R s m args below meth c H locs k n Q g q) : vx_W p l e R s m args below meth c H locs cells slots Q g q := fun T hT X => kk T hT (stand_widen X h1 h2)
theorem vx_out {pc : Nat} {E : String} {ce : Cell} {q : Addr} {mc ms : Nat} (hout : ∀ x ∈ c.exceptionTable.toList, covers x pc = false) (hlocks : meth.locks = false) (hcell : H[q]? = some ce) (hv : ce.vm = .none) (hcl : s.vm.findClass E = some ce.cls)
    (hx : ∀ t : State, t.heap = H → s.vm.Alike t.vm → XC E s t) (hf : ∀ z ∈ locs, free z.base) (hc : cells ≤ mc) (hs : slots ≤ ms) :
    vx_W p l e R s m args below meth c H locs cells slots (vx_MQ below Qc XC args s mc ms free) (F0 m pc ls rest) q := by
  intro T hT X
  obtain ⟨st1, hrun, hend, hW, hsm⟩ := X.leaveThrown q (g := F0 m pc ls rest) rfl rfl rfl hout hlocks
  have hcell9 : (T.setFrames (.throwing q :: below)).heap[q]? = some ce := by
    show T.heap[q]? = some ce
    rw [hT]; exact hcell
  exact ⟨_, st1, .threw q, hrun, hend, Or.inr ⟨q, rfl, E, ce, locs, hx _ hT hW.alike, hcell9, hv, hcl, hW, hsm.mono hc hs, hf⟩⟩
theorem vx_frame {U : State} {k n : Nat} (h : s.sameButNew ({ U with vm := s.vm } : State) locs k n) : s.heap.size ≤ U.heap.size ∧ ∀ q : Nat, q < s.heap.size → (∀ z ∈ locs, z.base ≠ q) → U.heap[q]? = s.heap[q]? := by
  obtain ⟨-, h2, -, -, -, h6⟩ := h
  refine ⟨h2, fun q hq hz => ?_⟩
  obtain ⟨c9, e1, e2, e3, e4⟩ := h6 q _ (Array.getElem?_eq_getElem hq)
  have hs : c9.slots = (s.heap[q]).slots := Array.ext_getElem? fun i => e4 i fun hm => hz _ hm rfl
  have h9 : c9 = s.heap[q] := by
    rw [hs] at e2
    exact e2
  have e5 : U.heap[q]? = some c9 := e1
  rw [e5, h9, Array.getElem?_eq_getElem hq]
/-- the words of a throw but the four that speak of the heap -/
def vx_no (w : Cond) : Bool := decide (w ≠ .isRef (.static Bundle.tN "UNASSIGNED_STACK" Bundle.steD)) && decide (w ≠ .isRef (.static Bundle.tN "SUPPRESSED_SENTINEL" Bundle.listD)) && decide (w ≠ .laysStatic Bundle.tN "UNASSIGNED_STACK" Bundle.steD) && decide (w ≠ .laysStatic Bundle.tN "SUPPRESSED_SENTINEL" Bundle.listD)
def vx_at0 (own : String) (ic : Nat) (X : String) (names : List String) : List Cond := (Bundle.ownAtoms0 own ic X names).filter vx_no
def vx_atS (own : String) (ic : Nat) (X : String) (names : List String) : List Cond := (Bundle.ownAtoms own ic X names).filter vx_no
/-- a word that the tables alone decide, or a good one -/
def vx_ot (w : Cond) : Bool := w.onTables || goodWord w
theorem vx_ot_at {args a' : Array Value} {s U : State} {w : Cond} (hW : s.WarmedH U.vm) (hvm : s.vm = U.vm) (hg : vx_ot w = true) (h : w.before args s = true) : w.before a' U = true := by
  simp only [vx_ot, Bool.or_eq_true] at hg
  rcases hg with hg | hg
  · exact va_tabs hg hvm h
  · exact word_at hW (good_of_word hg) h
/-- a list's words: the good ones out of the method's own list, the others by premises of their own -/
theorem vx_hat {args : Array Value} {s : State} {L B : List Cond} (h1 : ∀ w ∈ L.filter goodWord, w.before args s = true) (h2 : ∀ w ∈ L.filter (fun w => !goodWord w), w ∈ B) (h3 : ∀ w ∈ B, w.before args s = true) : ∀ w ∈ L, w.before args s = true := by
  intro w hw
  by_cases g : goodWord w = true
  · exact h1 w (List.mem_filter.mpr ⟨hw, g⟩)
  · refine h3 w (h2 w (List.mem_filter.mpr ⟨hw, ?_⟩))
    show (!goodWord w) = true
    cases hgw : goodWord w
    · rfl
    · exact absurd hgw g
theorem vx_c {args : Array Value} {s : State} {w : Cond} {B : List Cond} (h : w.before args s = true) (t : ∀ w ∈ B, w.before args s = true) : ∀ w' ∈ w :: B, w'.before args s = true := fun w' h' => (List.mem_cons.mp h').elim (fun e => by rw [e]; exact h) (t w')
theorem vx_n {args : Array Value} {s : State} : ∀ w ∈ ([] : List Cond), w.before args s = true := fun _ h => nomatch h
theorem vx_own {args : Array Value} {s : State} {L : List Cond} (h1 : ∀ w ∈ L.filter vx_no, w.before args s = true)
    (hU : (Cond.isRef (.static Bundle.tN "UNASSIGNED_STACK" Bundle.steD)).before args s = true) (hN : (Cond.isRef (.static Bundle.tN "SUPPRESSED_SENTINEL" Bundle.listD)).before args s = true)
    (lU : (Cond.laysStatic Bundle.tN "UNASSIGNED_STACK" Bundle.steD).before args s = true) (lN : (Cond.laysStatic Bundle.tN "SUPPRESSED_SENTINEL" Bundle.listD).before args s = true) : ∀ w ∈ L, w.before args s = true := by
  intro w hw
  by_cases e1 : w = .isRef (.static Bundle.tN "UNASSIGNED_STACK" Bundle.steD)
  · rw [e1]; exact hU
  · by_cases e2 : w = .isRef (.static Bundle.tN "SUPPRESSED_SENTINEL" Bundle.listD)
    · rw [e2]; exact hN
    · by_cases e3 : w = .laysStatic Bundle.tN "UNASSIGNED_STACK" Bundle.steD
      · rw [e3]; exact lU
      · by_cases e4 : w = .laysStatic Bundle.tN "SUPPRESSED_SENTINEL" Bundle.listD
        · rw [e4]; exact lN
        · exact h1 w (List.mem_filter.mpr ⟨hw, by unfold vx_no; rw [decide_eq_true e1, decide_eq_true e2, decide_eq_true e3, decide_eq_true e4]; rfl⟩)
/-- where a static field lies, its class's statics cell in H -/
def vx_L (C n d : String) (A : Nat → Prop) (U : State) (H : Heap) : Prop := ∃ (c : ClassId) (k : Class) (i : Nat) (f : Field) (a : Nat) (cell : Cell), U.vm.findClass C = some c ∧ U.fieldFound? C n d = some (c, k, i, f) ∧ f.isStatic = true ∧ k.statics = some a ∧ H[a]? = some cell ∧ cell.vm.isStatics = true ∧ cell.cls = c ∧ f.slot < cell.slots.size ∧ k.staticTypes[f.slot]? = some f.type ∧ ¬ A a
theorem vx_L.moved {C n d : String} {A : Nat → Prop} {u U : State} {H : Heap} (hvm : u.vm.Alike U.vm) (h : vx_L C n d A u H) : vx_L C n d A U H := by
  obtain ⟨c, k, i, f, a, cell, h1, h2, h3, h4, h5, h6, h7, h8, h9, h10⟩ := h
  obtain ⟨k', hi', he⟩ := State.fieldFound?_setVm hvm h2
  exact ⟨c, k', i, f, a, cell, by rw [hvm.findClass]; exact h1, hi', h3, by rw [he]; exact h4, h5, h6, h7, h8, by rw [he]; exact h9, h10⟩
theorem vx_L.kept {C n d : String} {A : Nat → Prop} {U : State} {H H1 : Heap} (h : vx_L C n d A U H) (hq : ∀ a : Nat, a < H.size → ¬ A a → H1[a]? = H[a]?) : vx_L C n d A U H1 := by
  obtain ⟨c, k, i, f, a, cell, h1, h2, h3, h4, h5, h6, h7, h8, h9, h10⟩ := h
  exact ⟨c, k, i, f, a, cell, h1, h2, h3, h4, by rw [hq a (Array.getElem?_eq_some_iff.mp h5).1 h10]; exact h5, h6, h7, h8, h9, h10⟩
theorem vx_L.narrow {C n d : String} {A B : Nat → Prop} {U : State} {H : Heap} (h : vx_L C n d A U H) (hAB : ∀ q, B q → A q) : vx_L C n d B U H := by
  obtain ⟨c, k, i, f, a, cell, h1, h2, h3, h4, h5, h6, h7, h8, h9, h10⟩ := h
  exact ⟨c, k, i, f, a, cell, h1, h2, h3, h4, h5, h6, h7, h8, h9, fun z => h10 (hAB _ z)⟩
theorem vx_L.word {C n d : String} {A : Nat → Prop} {s : State} {args : Array Value} (h : vx_L C n d A s s.heap) : (Cond.laysStatic C n d).before args s = true := by
  obtain ⟨c, k, i, f, a, cell, h1, h2, h3, h4, h5, h6, h7, h8, h9, -⟩ := h
  show (Cond.laysStatic C n d).holds args s none s [] = true
  exact Cond.laysStatic_of h1 h2 h3 h4 h5 h6 h7 h8 h9
/-- .. and what it holds: null or some reference -/
def vx_Zq (C n d : String) (A : Nat → Prop) (U : State) (H : Heap) : Prop := va_Zq C n d A U H ∧ vx_L C n d A U H
theorem vx_Zq.moved {C n d : String} {A : Nat → Prop} {u U : State} {H : Heap} (hvm : u.vm.Alike U.vm) (h : vx_Zq C n d A u H) : vx_Zq C n d A U H := ⟨va_Zq.moved hvm h.1, vx_L.moved hvm h.2⟩
theorem vx_Zq.kept {C n d : String} {A : Nat → Prop} {U : State} {H H1 : Heap} (h : vx_Zq C n d A U H) (hq : ∀ a : Nat, a < H.size → ¬ A a → H1[a]? = H[a]?) : vx_Zq C n d A U H1 := ⟨va_Zq.kept h.1 hq, vx_L.kept h.2 hq⟩
theorem vx_Zq.narrow {C n d : String} {A B : Nat → Prop} {U : State} {H : Heap} (h : vx_Zq C n d A U H) (hAB : ∀ q, B q → A q) : vx_Zq C n d B U H := ⟨va_Zq.narrow h.1 hAB, vx_L.narrow h.2 hAB⟩
theorem vx_Zqof {args : Array Value} {s : State} {C n d : String} {A : Nat → Prop} (hl : (Cond.laysStatic C n d).before args s = true) (hini : (Cond.initialized C).before args s = true) (h : (Cond.isRef (.static C n d)).before args s = true) (hA : ∀ a : Nat, a < s.heap.size → ¬ A a) : vx_Zq C n d A s s.heap := by
  refine ⟨va_Zqof hl hini h hA, ?_⟩
  obtain ⟨c, k, i, f, a, cell, h1, h2, h3, h4, h5, h6, h7, h8, h9⟩ := Cond.laysStatic_spec hl
  exact ⟨c, k, i, f, a, cell, h1, h2, h3, h4, h5, h6, h7, h8, h9, hA a (Array.getElem?_eq_some_iff.mp h5).1⟩
theorem vx_isRef {C n d : String} {v : Value} {A : Nat → Prop} {s : State} {args : Array Value} (h : va_Z C n d v A s s.heap) (hv : v.isRef = true) : (Cond.isRef (.static C n d)).before args s = true := by
  obtain ⟨cf, kf, fi, f, a, cell, h1, h2, h3, h4, h5, h6, h7, -⟩ := h
  have he : (Term.static C n d).eval args s none [] s = some v := by
    simp [Term.eval, State.fieldNamed?, h1, h2, h4, h5, h6, h7]
  simp only [Cond.before, Cond.holds, Cond.value, he]
  cases v <;> simp_all [Value.isRef]
theorem vx_isRefq {C n d : String} {A : Nat → Prop} {s : State} {args : Array Value} (h : va_Zq C n d A s s.heap) : (Cond.isRef (.static C n d)).before args s = true := by
  rcases h with h | ⟨t, h⟩
  · exact vx_isRef h rfl
  · exact vx_isRef h rfl
/-- the same frame, seen from here: as if the method were called anew in this heap -/
theorem vx_rebase {T : State} (X : Stand p l e R s m args below meth c T locs cells slots) {R' : Room} (hf : R'.frames ≤ R.frames) (hl : R'.locals ≤ R.locals) (hc : cells + R'.cells ≤ R.cells) (hs : slots + R'.slots ≤ R.slots) :
    Stand p l e R' ((T.setVm s.vm).setFrames (.invoking m args :: below)) m args below meth c T [] 0 0 := by
  have htop : (T.setVm s.vm).topJava?.isSome := X.here.top
  have hF : ((T.setVm s.vm).setFrames (.invoking m args :: below)).frames = .invoking m args :: below := State.frames_setFrames _ (State.cur_lt_of_top htop)
  obtain ⟨g₀, hg0⟩ := Option.isSome_iff_exists.mp htop
  obtain ⟨r, hr⟩ := State.topJava?_eq_some.mp hg0
  have hl9 : e.platform.stackLimits (T.setVm s.vm).me = e.platform.stackLimits s.me := X.limits
  have hb9 : (T.setVm s.vm).me.stackBytes = s.me.stackBytes := X.bytes
  refine ⟨X.admits, X.cas, X.clock, hF, ?_, X.hears, X.method, X.code, X.here, X.tail, X.warmed, ?_, ?_, ?_⟩
  · have h := X.room
    have hU : ((T.setVm s.vm).setFrames (.invoking m args :: below)).localsInUse = s.localsInUse := by
      rw [State.localsInUse_invoking hF (meth := meth) (c := c) X.method X.code, State.localsInUse_invoking X.frames X.method X.code]
    simp only [State.hasRoom, Bool.and_eq_true, decide_eq_true_eq] at h ⊢
    obtain ⟨⟨⟨⟨h1, h2, h3, h4, h5, h6⟩, h7⟩, h8⟩, h9⟩ := h
    rw [X.frames, List.length_cons] at h2 h3
    have q1 := X.heapSize
    have q2 := X.used
    simp only [hF, hU, List.length_cons, State.stackLimits_setFrames, State.stackBytes_setFrames, hl9, hb9]
    refine ⟨⟨⟨⟨by omega, by omega, by omega, by omega, by omega, h6⟩, ?_⟩, ?_⟩, X.book⟩
    · show T.heap.size + R'.cells ≤ e.platform.maxCells
      omega
    · show T.slotsUsed + R'.slots ≤ e.platform.maxSlots
      omega
  · rw [State.stackLimits_setFrames]; rfl
  · rw [State.stackBytes_setFrames]; rfl
  · refine ⟨?_, Nat.le_refl _, Nat.le_refl _, ?_, ?_, fun a c9 h9 => ⟨c9, h9, rfl, rfl, fun _ _ => rfl⟩⟩
    · obtain ⟨t, ht, -⟩ := State.frames_cons hr
      show T.setVm s.vm = { ((T.setVm s.vm).setFrames (.invoking m args :: below)).setFrames (T.setVm s.vm).frames with heap := T.heap, slotsUsed := T.slotsUsed }
      rw [State.setFrames_setFrames, State.setFrames_self ht]
      rfl
    · show T.slotsUsed = T.slotsUsed + ((T.heap.toList.drop T.heap.size).map (·.slots.size)).sum
      rw [List.drop_eq_nil_of_le (Nat.le_of_eq Array.length_toList)]
      rfl
    · show ((T.heap.toList.drop T.heap.size).map (·.slots.size)).sum ≤ 0
      rw [List.drop_eq_nil_of_le (Nat.le_of_eq Array.length_toList)]
      exact Nat.le_refl _
/-- 'throw new E()': new; dup; invokespecial; athrow -/
theorem vx_throw0 {cc : ByteArray} {pc : Nat} (hexec : p.tables.exec = Jvm.exec) (hb : c.code = cc) (hl : l.stackTraces = false) {own cls : String} {names : List String} {ik ic mc ms : Nat} {A : Nat → Prop}
    (hown : s.vm.findClass own = some m.cls) (hcls : Bundle.fit cls = true) (hnames : ∀ n ∈ names, Bundle.fit n = true)
    (hk : (Cond.classLink own ik cls).before args s = true) (hini : (Cond.initialized cls).before args s = true) (hat : ∀ w ∈ vx_at0 own ic cls names, w.before args s = true)
    (hgood : ∀ w ∈ Cond.classLink own ik cls :: Cond.initialized cls :: vx_at0 own ic cls names, vx_ot w = true)
    (hU : vx_Zq Bundle.tN "UNASSIGNED_STACK" Bundle.steD A s s.heap) (hN : vx_Zq Bundle.tN "SUPPRESSED_SENTINEL" Bundle.listD A s s.heap) (hS : va_S A s.heap H locs) (hsize : ls.size = c.maxLocals)
    (d0 : decode cc pc = .ok (.new ik, 3)) (d3 : decode cc (pc + 3) = .ok (.dup, 1)) (d4 : decode cc (pc + 4) = .ok (.invokespecial ic, 3)) (d7 : decode cc (pc + 7) = .ok (.athrow, 1))
    (hout : ∀ x ∈ c.exceptionTable.toList, covers x (pc + 7) = false)
    (hRframes : names.length + 3 < R.frames) (hRlocals : (rest.map fun v => v.category).sum + (13 * (names.length + 1) + 42) ≤ R.locals) (hRcells : cells + 1 ≤ R.cells) (hRslots : slots + 6 ≤ R.slots) (hlocks : meth.locks = false)
    (hx : ∀ t : State, s.vm.Alike t.vm → H.size ≤ t.heap.size → (∀ q : Nat, q < H.size → t.heap[q]? = H[q]?) → XC cls s t)
    (hf : ∀ z ∈ locs, free z.base) (hc : cells + 1 ≤ mc) (hs : slots + 6 ≤ ms) :
    W p l e R s m args below meth c H locs cells slots (vx_MQ below Qc XC args s mc ms free) (F0 m pc ls rest) := by
  intro T hT X
  have htr : e.platform.stackTraces = false := (show e.platform.stackTraces = l.stackTraces by rw [X.admits.platform]).trans hl
  have Y := vx_rebase X (R' := { frames := R.frames, locals := R.locals, cells := 1, slots := 6 }) (Nat.le_refl _) (Nat.le_refl _) hRcells hRslots
  obtain ⟨s', hA⟩ : ∃ z, z = (T.setVm s.vm).setFrames (.invoking m args :: below) := ⟨_, rfl⟩
  rw [← hA] at Y
  have hvm : s'.vm = s.vm := by rw [hA]; rfl
  have hhp : s'.heap = H := by rw [hA]; exact hT
  have hW0 : s.WarmedH s'.vm := by rw [hvm]; exact State.WarmedH.refl s
  have hat' : ∀ w ∈ vx_at0 own ic cls names, w.before args s' = true := fun w hw => vx_ot_at hW0 hvm.symm (hgood w (List.mem_cons_of_mem _ (List.mem_cons_of_mem _ hw))) (hat w hw)
  have hk' : (Cond.classLink own ik cls).before args s' = true := vx_ot_at hW0 hvm.symm (hgood _ List.mem_cons_self) hk
  have hini' : (Cond.initialized cls).before args s' = true := vx_ot_at hW0 hvm.symm (hgood _ (List.mem_cons_of_mem _ List.mem_cons_self)) hini
  have hU' : vx_Zq Bundle.tN "UNASSIGNED_STACK" Bundle.steD A s' s'.heap := by rw [hhp]; exact vx_Zq.moved hW0.alike (hU.kept hS.2.1)
  have hN' : vx_Zq Bundle.tN "SUPPRESSED_SENTINEL" Bundle.listD A s' s'.heap := by rw [hhp]; exact vx_Zq.moved hW0.alike (hN.kept hS.2.1)
  have h : ∀ w ∈ Bundle.ownAtoms0 own ic cls names, w.before args s' = true := vx_own hat' (vx_isRefq hU'.1) (vx_isRefq hN'.1) hU'.2.word hN'.2.word
  have hown' : s'.vm.findClass own = some m.cls := by rw [hvm]; exact hown
  have hins : (Cond.instantiable cls 6).before args s' = true := h _ (by simp [Bundle.ownAtoms0])
  obtain ⟨vm₁, cX, kX, hfX, hkX, -, -, X₁, st1⟩ := Y.newCold hexec (own := own) (C := cls) (index := ik) (n := 6) hown' hk' hins hini'
    (g := F0 m pc ls rest) rfl (by rw [hb]; exact d0) (Nat.le_refl _) (Nat.le_refl _)
  generalize hT1 : (T.setVm vm₁).pushCell { cls := cX, slots := kX.instanceTypes.map defaultValue, vm := .none } = T1 at X₁ st1
  have hcat : (Value.ref T.heap.size).category = 1 := rfl
  have hcellA : T1.heap[T.heap.size]? = some (freshCell cX kX) := by rw [← hT1]; exact State.heap_pushCell_size _ _
  have d3' : decode c.code (pc + 3) = .ok (.dup, 1) := by rw [hb]; exact d3
  obtain ⟨U, hsteps, hrun, hend, hW, hsame, ce, hce, hO⟩ := X₁.ctorThrow0 hexec htr (own := own) (cls := cls) (names := names) (ic := ic) hown' hcls hnames h (fun x hx => nomatch hx) hfX hkX hcellA (by rw [hhp, hT]; exact Nat.le_refl _)
    (g := { method := m, pc := pc + 4, locals := ls, stack := .ref T.heap.size :: .ref T.heap.size :: rest, locked := none }) rfl hsize rfl rfl (rest := rest) rfl
    (by rw [hb]; exact d4) (by rw [hb]; exact d7) hout hRframes (by simp only [List.map_cons, List.sum_cons, hcat]; omega) hlocks
  obtain ⟨f1, f2⟩ := vx_frame hsame
  rw [hhp] at f1 f2
  have hWs : s.WarmedH U.vm := State.WarmedH.trans hW0 hW
  have hcl : s.vm.findClass cls = some ce.cls := by
    have h9 := hO.cls
    rw [hvm] at h9
    exact h9
  have hall : s.sameButNew ({ U with vm := s.vm } : State) locs mc ms := by
    subst hA
    obtain ⟨e1, e2⟩ := hsame
    rw [State.setFrames_setFrames] at e1
    have h2 : (T.setVm s.vm).sameButNew ({ U with vm := s.vm } : State) [] (0 + 1) (0 + 6) := ⟨e1, e2⟩
    have h3 := X.same.trans h2
    rw [List.append_nil] at h3
    exact h3.mono hc hs
  refine ⟨U, ?_, .threw T.heap.size, hrun, hend, Or.inr ⟨T.heap.size, rfl, cls, ce, locs, hx U hWs.alike f1 (fun q hq => f2 q hq (fun z hz => nomatch hz)), hce, hO.vm, hcl, hWs, hall, hf⟩⟩
  refine st1 _ ?_
  show Steps p.tables e below (T1.setTop { method := m, pc := pc + 3, locals := ls, stack := .ref T.heap.size :: rest, locked := none }) _
  jvm_step X₁.here [X₁.here.top, hexec, d3', Value.category]
  exact hsteps
/-- 'throw new E("text")': new; dup; ldc; invokespecial; athrow -/
theorem vx_throwS {cc : ByteArray} {pc : Nat} (hexec : p.tables.exec = Jvm.exec) (hb : c.code = cc) (hl : l.stackTraces = false) {own cls text : String} {names : List String} {ik is ic mc ms sa : Nat} {A : Nat → Prop}
    (hown : s.vm.findClass own = some m.cls) (hcls : Bundle.fit cls = true) (hnames : ∀ n ∈ names, Bundle.fit n = true)
    (hk : (Cond.classLink own ik cls).before args s = true) (hini : (Cond.initialized cls).before args s = true) (hstr : vk_R own is text sa s) (hat : ∀ w ∈ vx_atS own ic cls names, w.before args s = true)
    (hgood : ∀ w ∈ Cond.classLink own ik cls :: Cond.initialized cls :: vx_atS own ic cls names, vx_ot w = true)
    (hU : vx_Zq Bundle.tN "UNASSIGNED_STACK" Bundle.steD A s s.heap) (hN : vx_Zq Bundle.tN "SUPPRESSED_SENTINEL" Bundle.listD A s s.heap) (hS : va_S A s.heap H locs) (hsize : ls.size = c.maxLocals)
    (d0 : decode cc pc = .ok (.new ik, 3)) (d3 : decode cc (pc + 3) = .ok (.dup, 1)) (d4 : decode cc (pc + 4) = .ok (.ldc is, 2)) (d6 : decode cc (pc + 6) = .ok (.invokespecial ic, 3)) (d9 : decode cc (pc + 9) = .ok (.athrow, 1))
    (hout : ∀ x ∈ c.exceptionTable.toList, covers x (pc + 9) = false)
    (hRframes : names.length + 3 < R.frames) (hRlocals : (rest.map fun v => v.category).sum + (13 * (names.length + 1) + 43) ≤ R.locals) (hRcells : cells + 1 ≤ R.cells) (hRslots : slots + 6 ≤ R.slots) (hlocks : meth.locks = false)
    (hx : ∀ t : State, s.vm.Alike t.vm → H.size ≤ t.heap.size → (∀ q : Nat, q < H.size → t.heap[q]? = H[q]?) → XC cls s t)
    (hf : ∀ z ∈ locs, free z.base) (hc : cells + 1 ≤ mc) (hs : slots + 6 ≤ ms) :
    W p l e R s m args below meth c H locs cells slots (vx_MQ below Qc XC args s mc ms free) (F0 m pc ls rest) := by
  intro T hT X
  have htr : e.platform.stackTraces = false := (show e.platform.stackTraces = l.stackTraces by rw [X.admits.platform]).trans hl
  have Y := vx_rebase X (R' := { frames := R.frames, locals := R.locals, cells := 1, slots := 6 }) (Nat.le_refl _) (Nat.le_refl _) hRcells hRslots
  obtain ⟨s', hA⟩ : ∃ z, z = (T.setVm s.vm).setFrames (.invoking m args :: below) := ⟨_, rfl⟩
  rw [← hA] at Y
  have hvm : s'.vm = s.vm := by rw [hA]; rfl
  have hhp : s'.heap = H := by rw [hA]; exact hT
  have hW0 : s.WarmedH s'.vm := by rw [hvm]; exact State.WarmedH.refl s
  have hat' : ∀ w ∈ vx_atS own ic cls names, w.before args s' = true := fun w hw => vx_ot_at hW0 hvm.symm (hgood w (List.mem_cons_of_mem _ (List.mem_cons_of_mem _ hw))) (hat w hw)
  have hk' : (Cond.classLink own ik cls).before args s' = true := vx_ot_at hW0 hvm.symm (hgood _ List.mem_cons_self) hk
  have hini' : (Cond.initialized cls).before args s' = true := vx_ot_at hW0 hvm.symm (hgood _ (List.mem_cons_of_mem _ List.mem_cons_self)) hini
  have hU' : vx_Zq Bundle.tN "UNASSIGNED_STACK" Bundle.steD A s' s'.heap := by rw [hhp]; exact vx_Zq.moved hW0.alike (hU.kept hS.2.1)
  have hN' : vx_Zq Bundle.tN "SUPPRESSED_SENTINEL" Bundle.listD A s' s'.heap := by rw [hhp]; exact vx_Zq.moved hW0.alike (hN.kept hS.2.1)
  have h : ∀ w ∈ Bundle.ownAtoms own ic cls names, w.before args s' = true := vx_own hat' (vx_isRefq hU'.1) (vx_isRefq hN'.1) hU'.2.word hN'.2.word
  have hown' : s'.vm.findClass own = some m.cls := by rw [hvm]; exact hown
  have hins : (Cond.instantiable cls 6).before args s' = true := h _ (by simp [Bundle.ownAtoms])
  obtain ⟨vm₁, cX, kX, hfX, hkX, -, -, X₁, st1⟩ := Y.newCold hexec (own := own) (C := cls) (index := ik) (n := 6) hown' hk' hins hini'
    (g := F0 m pc ls rest) rfl (by rw [hb]; exact d0) (Nat.le_refl _) (Nat.le_refl _)
  generalize hT1 : (T.setVm vm₁).pushCell { cls := cX, slots := kX.instanceTypes.map defaultValue, vm := .none } = T1 at X₁ st1
  have hcat : (Value.ref T.heap.size).category = 1 := rfl
  have hcellA : T1.heap[T.heap.size]? = some (freshCell cX kX) := by rw [← hT1]; exact State.heap_pushCell_size _ _
  have d3' : decode c.code (pc + 3) = .ok (.dup, 1) := by rw [hb]; exact d3
  have d4' : decode c.code (pc + 4) = .ok (.ldc is, 2) := by rw [hb]; exact d4
  have hstr' : vk_R own is text sa s' := vk_R.warm hW0 hstr
  obtain ⟨U, hsteps, hrun, hend, hW, hsame, ce, hce, hO⟩ := X₁.ctorThrowS hexec htr (own := own) (cls := cls) (names := names) (ic := ic) hown' hcls hnames h (fun x hx => nomatch hx) hfX hkX hcellA (by rw [hhp, hT]; exact Nat.le_refl _) (msg := .ref sa) rfl
    (g := { method := m, pc := pc + 6, locals := ls, stack := .ref sa :: .ref T.heap.size :: .ref T.heap.size :: rest, locked := none }) rfl hsize rfl rfl (rest := rest) rfl
    (by rw [hb]; exact d6) (by rw [hb]; exact d9) hout hRframes (by simp only [List.map_cons, List.sum_cons, hcat]; omega) hlocks
  obtain ⟨f1, f2⟩ := vx_frame hsame
  rw [hhp] at f1 f2
  have hWs : s.WarmedH U.vm := State.WarmedH.trans hW0 hW
  have hcl : s.vm.findClass cls = some ce.cls := by
    have h9 := hO.cls
    rw [hvm] at h9
    exact h9
  have hall : s.sameButNew ({ U with vm := s.vm } : State) locs mc ms := by
    subst hA
    obtain ⟨e1, e2⟩ := hsame
    rw [State.setFrames_setFrames] at e1
    have h2 : (T.setVm s.vm).sameButNew ({ U with vm := s.vm } : State) [] (0 + 1) (0 + 6) := ⟨e1, e2⟩
    have h3 := X.same.trans h2
    rw [List.append_nil] at h3
    exact h3.mono hc hs
  refine ⟨U, ?_, .threw T.heap.size, hrun, hend, Or.inr ⟨T.heap.size, rfl, cls, ce, locs, hx U hWs.alike f1 (fun q hq => f2 q hq (fun z hz => nomatch hz)), hce, hO.vm, hcl, hWs, hall, hf⟩⟩
  refine st1 _ ?_
  show Steps p.tables e below (T1.setTop { method := m, pc := pc + 3, locals := ls, stack := .ref T.heap.size :: rest, locked := none }) _
  jvm_step X₁.here [X₁.here.top, hexec, d3', Value.category]
  exact X₁.ldcString hexec (own := own) (text := text) (index := is) (a := sa) hown' hstr'.1 hstr'.2
    (g := { method := m, pc := pc + 4, locals := ls, stack := .ref T.heap.size :: .ref T.heap.size :: rest, locked := none }) rfl d4' _ hsteps
/-- 'throw new E("text")', the text by a wide index -/
theorem vx_throwSW {cc : ByteArray} {pc : Nat} (hexec : p.tables.exec = Jvm.exec) (hb : c.code = cc) (hl : l.stackTraces = false) {own cls text : String} {names : List String} {ik is ic mc ms sa : Nat} {A : Nat → Prop}
    (hown : s.vm.findClass own = some m.cls) (hcls : Bundle.fit cls = true) (hnames : ∀ n ∈ names, Bundle.fit n = true)
    (hk : (Cond.classLink own ik cls).before args s = true) (hini : (Cond.initialized cls).before args s = true) (hstr : vk_R own is text sa s) (hat : ∀ w ∈ vx_atS own ic cls names, w.before args s = true)
    (hgood : ∀ w ∈ Cond.classLink own ik cls :: Cond.initialized cls :: vx_atS own ic cls names, vx_ot w = true)
    (hU : vx_Zq Bundle.tN "UNASSIGNED_STACK" Bundle.steD A s s.heap) (hN : vx_Zq Bundle.tN "SUPPRESSED_SENTINEL" Bundle.listD A s s.heap) (hS : va_S A s.heap H locs) (hsize : ls.size = c.maxLocals)
    (d0 : decode cc pc = .ok (.new ik, 3)) (d3 : decode cc (pc + 3) = .ok (.dup, 1)) (d4 : decode cc (pc + 4) = .ok (.ldc_w is, 3)) (d7 : decode cc (pc + 7) = .ok (.invokespecial ic, 3)) (d10 : decode cc (pc + 10) = .ok (.athrow, 1))
    (hout : ∀ x ∈ c.exceptionTable.toList, covers x (pc + 10) = false)
    (hRframes : names.length + 3 < R.frames) (hRlocals : (rest.map fun v => v.category).sum + (13 * (names.length + 1) + 43) ≤ R.locals) (hRcells : cells + 1 ≤ R.cells) (hRslots : slots + 6 ≤ R.slots) (hlocks : meth.locks = false)
    (hx : ∀ t : State, s.vm.Alike t.vm → H.size ≤ t.heap.size → (∀ q : Nat, q < H.size → t.heap[q]? = H[q]?) → XC cls s t)
    (hf : ∀ z ∈ locs, free z.base) (hc : cells + 1 ≤ mc) (hs : slots + 6 ≤ ms) :
    W p l e R s m args below meth c H locs cells slots (vx_MQ below Qc XC args s mc ms free) (F0 m pc ls rest) := by
  intro T hT X
  have htr : e.platform.stackTraces = false := (show e.platform.stackTraces = l.stackTraces by rw [X.admits.platform]).trans hl
  have Y := vx_rebase X (R' := { frames := R.frames, locals := R.locals, cells := 1, slots := 6 }) (Nat.le_refl _) (Nat.le_refl _) hRcells hRslots
  obtain ⟨s', hA⟩ : ∃ z, z = (T.setVm s.vm).setFrames (.invoking m args :: below) := ⟨_, rfl⟩
  rw [← hA] at Y
  have hvm : s'.vm = s.vm := by rw [hA]; rfl
  have hhp : s'.heap = H := by rw [hA]; exact hT
  have hW0 : s.WarmedH s'.vm := by rw [hvm]; exact State.WarmedH.refl s
  have hat' : ∀ w ∈ vx_atS own ic cls names, w.before args s' = true := fun w hw => vx_ot_at hW0 hvm.symm (hgood w (List.mem_cons_of_mem _ (List.mem_cons_of_mem _ hw))) (hat w hw)
  have hk' : (Cond.classLink own ik cls).before args s' = true := vx_ot_at hW0 hvm.symm (hgood _ List.mem_cons_self) hk
  have hini' : (Cond.initialized cls).before args s' = true := vx_ot_at hW0 hvm.symm (hgood _ (List.mem_cons_of_mem _ List.mem_cons_self)) hini
  have hU' : vx_Zq Bundle.tN "UNASSIGNED_STACK" Bundle.steD A s' s'.heap := by rw [hhp]; exact vx_Zq.moved hW0.alike (hU.kept hS.2.1)
  have hN' : vx_Zq Bundle.tN "SUPPRESSED_SENTINEL" Bundle.listD A s' s'.heap := by rw [hhp]; exact vx_Zq.moved hW0.alike (hN.kept hS.2.1)
  have h : ∀ w ∈ Bundle.ownAtoms own ic cls names, w.before args s' = true := vx_own hat' (vx_isRefq hU'.1) (vx_isRefq hN'.1) hU'.2.word hN'.2.word
  have hown' : s'.vm.findClass own = some m.cls := by rw [hvm]; exact hown
  have hins : (Cond.instantiable cls 6).before args s' = true := h _ (by simp [Bundle.ownAtoms])
  obtain ⟨vm₁, cX, kX, hfX, hkX, -, -, X₁, st1⟩ := Y.newCold hexec (own := own) (C := cls) (index := ik) (n := 6) hown' hk' hins hini'
    (g := F0 m pc ls rest) rfl (by rw [hb]; exact d0) (Nat.le_refl _) (Nat.le_refl _)
  generalize hT1 : (T.setVm vm₁).pushCell { cls := cX, slots := kX.instanceTypes.map defaultValue, vm := .none } = T1 at X₁ st1
  have hcat : (Value.ref T.heap.size).category = 1 := rfl
  have hcellA : T1.heap[T.heap.size]? = some (freshCell cX kX) := by rw [← hT1]; exact State.heap_pushCell_size _ _
  have d3' : decode c.code (pc + 3) = .ok (.dup, 1) := by rw [hb]; exact d3
  have d4' : decode c.code (pc + 4) = .ok (.ldc_w is, 3) := by rw [hb]; exact d4
  have hstr' : vk_R own is text sa s' := vk_R.warm hW0 hstr
  obtain ⟨U, hsteps, hrun, hend, hW, hsame, ce, hce, hO⟩ := X₁.ctorThrowS hexec htr (own := own) (cls := cls) (names := names) (ic := ic) hown' hcls hnames h (fun x hx => nomatch hx) hfX hkX hcellA (by rw [hhp, hT]; exact Nat.le_refl _) (msg := .ref sa) rfl
    (g := { method := m, pc := pc + 7, locals := ls, stack := .ref sa :: .ref T.heap.size :: .ref T.heap.size :: rest, locked := none }) rfl hsize rfl rfl (rest := rest) rfl
    (by rw [hb]; exact d7) (by rw [hb]; exact d10) hout hRframes (by simp only [List.map_cons, List.sum_cons, hcat]; omega) hlocks
  obtain ⟨f1, f2⟩ := vx_frame hsame
  rw [hhp] at f1 f2
  have hWs : s.WarmedH U.vm := State.WarmedH.trans hW0 hW
  have hcl : s.vm.findClass cls = some ce.cls := by
    have h9 := hO.cls
    rw [hvm] at h9
    exact h9
  have hall : s.sameButNew ({ U with vm := s.vm } : State) locs mc ms := by
    subst hA
    obtain ⟨e1, e2⟩ := hsame
    rw [State.setFrames_setFrames] at e1
    have h2 : (T.setVm s.vm).sameButNew ({ U with vm := s.vm } : State) [] (0 + 1) (0 + 6) := ⟨e1, e2⟩
    have h3 := X.same.trans h2
    rw [List.append_nil] at h3
    exact h3.mono hc hs
  refine ⟨U, ?_, .threw T.heap.size, hrun, hend, Or.inr ⟨T.heap.size, rfl, cls, ce, locs, hx U hWs.alike f1 (fun q hq => f2 q hq (fun z hz => nomatch hz)), hce, hO.vm, hcl, hWs, hall, hf⟩⟩
  refine st1 _ ?_
  show Steps p.tables e below (T1.setTop { method := m, pc := pc + 3, locals := ls, stack := .ref T.heap.size :: rest, locked := none }) _
  jvm_step X₁.here [X₁.here.top, hexec, d3', Value.category]
  exact X₁.ldcStringW hexec (own := own) (text := text) (index := is) (a := sa) hown' hstr'.1 hstr'.2
    (g := { method := m, pc := pc + 4, locals := ls, stack := .ref T.heap.size :: .ref T.heap.size :: rest, locked := none }) rfl d4' _ hsteps
end Ends
section Bodies
variable {l : Launch}
theorem vx_ofW {y : MethodName} {ws ws' : List Cond} {rm : Room} {Pc : Array Value → State → Prop} {Qc : Array Value → State → Outcome → State → Prop} {XC : String → State → State → Prop} {mc ms : Nat} {free : Addr → Prop} {cc : ByteArray} {maxL : Nat} {ret : Option FieldType}
    (hy : plainName y.cls = true) (hw : ws = Cond.code y cc maxL ret :: ws')
    (body : ∀ p e s m args below meth c s₁, BodyLoose p l y (headSpec ws rm) cc maxL ret e s m args below meth c s₁ → c.maxLocals = maxL → (∀ x ∈ c.exceptionTable.toList, False) → Pc args s →
      W p l e (headSpec ws rm).room s m args below meth c s.heap [] 0 0 (vx_MQ below Qc XC args s mc ms free) (entryFrame m args maxL)) : vx_Met l y ws rm Pc Qc XC mc ms free := by
  refine MetFree.of_bodyS (code := cc) (maxLocals := maxL) (ret := ret) hy ?_ ?_
  · intro args s m h hn
    obtain ⟨meth, c, h1, h2, h3, h4, h5, h6, -, -⟩ := Cond.code_spec hn (atoms_spec (ws := ws) h _ (by rw [hw]; exact List.mem_cons_self))
    exact ⟨meth, c, h1, h2, h3, h4, h5, h6⟩
  · intro p e s m args below meth c s₁ B hml hP _
    have hh0 : s₁.heap = s.heap := by rw [B.state]; rfl
    have ht : ∀ x ∈ c.exceptionTable.toList, False := by
      obtain ⟨meth9, c9, h1, h2, -, -, -, -, h7, -⟩ := Cond.code_spec B.named (atoms_spec (ws := ws) B.pre _ (by rw [hw]; exact List.mem_cons_self))
      cases Option.some.inj (h1.symm.trans B.method)
      cases Option.some.inj (h2.symm.trans (Stand.of_body B).code)
      intro x hx
      rw [Array.isEmpty_iff.mp h7] at hx
      cases hx
    obtain ⟨t, a1, o, b1, b2, b3⟩ := body p e s m args below meth c s₁ B hml ht hP s₁ hh0 (Stand.of_body B)
    exact ⟨t, o, a1, b1, b2, b3⟩
/-- the table of a body with handlers -/
theorem vx_table {p : Program} {x y : MethodName} {S : Spec} {cc bytes : ByteArray} {maxL maxL' : Nat} {ret ret' : Option FieldType} {e : Env} {s s₁ : State} {m : MethodId} {args : Array Value} {below : List Frame} {meth : Method} {c : Code} {hh : List (Nat × Nat × Nat × Nat)}
    (B : BodyLoose p l y S cc maxL ret e s m args below meth c s₁) (h : (Cond.codeWith y bytes maxL' ret' hh).before args s = true) : c.exceptionTable.toList = tableOf hh := by
  obtain ⟨m9, meth9, c9, hn9, h1, h2, -, -, h6, -⟩ := Cond.codeWith_spec h
  cases Option.some.inj (hn9.symm.trans B.named)
  cases Option.some.inj (h1.symm.trans B.method)
  cases Option.some.inj (h2.symm.trans (Stand.of_body B).code)
  rw [← h6, table_eq]
end Bodies
end VXA
/-! ===== END ===== -/
/-! ===== BEGIN a static call of a method with an exception table ===== -/
section VXS
variable {p : Program} {l : Launch} {e : Env} {R : Room} {s : State} {m : MethodId} {args : Array Value} {below : List Frame} {meth : Method} {c : Code} {T : State} {H : Heap} {locs : List Loc} {cells slots : Nat}
abbrev vx_CSW (R : Room) (s : State) (args : Array Value) (own : String) (index : Nat) (y : MethodName) (bytes : ByteArray) (maxL : Nat) (ret : Option FieldType) (hh : List (Nat × Nat × Nat × Nat)) (ws : List Cond) (rm : Room) (mc ms n : Nat) : Prop :=
  (rm.cells = mc ∧ rm.slots = ms ∧ rm.frames + 1 ≤ R.frames ∧ 8 + (maxL + 11) + rm.locals ≤ R.locals ∧ (∀ w ∈ ws, ∀ (a' : Array Value) (U : State), s.WarmedH U.vm → w.before a' U = true) ∧ Cond.codeWith y bytes maxL ret hh ∈ ws) ∧
  (Cond.codeWith y bytes maxL ret hh).before args s = true ∧ (Cond.initialized y.cls).before args s = true ∧ (y.cls ≠ "java/lang/invoke/MethodHandle" ∧ y.cls ≠ "java/lang/invoke/VarHandle") ∧
  (∀ sig, parseMethodDescriptor y.desc = some sig → n = sig.parameters.length) ∧ (Cond.methodLink own index y).before args s = true ∧ (Cond.static y).before args s = true
theorem vx_cwSW {own : String} {index maxL mc ms : Nat} {y : MethodName} {bytes : ByteArray} {ret : Option FieldType} {hh : List (Nat × Nat × Nat × Nat)} {Ts ws ws' : List Cond} {rm : Room} (n : Nat) (ht : ∀ w ∈ Ts, w.before args s = true) (hT : GoodIn Ts (va_wsS own index y ws)) (hw : ws = Cond.codeWith y bytes maxL ret hh :: ws') (hrc : rm.cells = mc) (hrs : rm.slots = ms)
    (hd : y.cls ≠ "java/lang/invoke/MethodHandle" ∧ y.cls ≠ "java/lang/invoke/VarHandle" ∧ (parseMethodDescriptor y.desc).map (fun d => d.parameters.length) = some n) (hR : rm.frames + 1 ≤ R.frames ∧ 8 + (maxL + 11) + rm.locals ≤ R.locals) :
    vx_CSW R s args own index y bytes maxL ret hh ws rm mc ms n := by
  have ok : ∀ w ∈ va_wsS own index y ws, w.before args s = true := fun w h => ht w (hT w h).1
  have hG : GoodIn Ts ws := fun w h => hT w (by unfold va_wsS; exact List.mem_append_right _ h)
  have hc : Cond.codeWith y bytes maxL ret hh ∈ ws := by rw [hw]; exact List.mem_cons_self
  refine ⟨⟨hrc, hrs, hR.1, hR.2, pay_in ht hG, hc⟩, ht _ (hG _ hc).1, ok _ (by simp [va_wsS]), ⟨hd.1, hd.2.1⟩, fun sig h => ?_, ok _ (by simp [va_wsS]), ok _ (by simp [va_wsS])⟩
  have h2 := hd.2.2
  rw [h] at h2
  exact (Option.some.inj h2).symm
theorem vx_callSW (X : Stand p l e R s m args below meth c T locs cells slots) (hexec : p.tables.exec = Jvm.exec) {own : String} {index : Nat} {y : MethodName} {bytes : ByteArray} {maxL : Nat} {ret : Option FieldType} {hh : List (Nat × Nat × Nat × Nat)}
    (hown : s.vm.findClass own = some m.cls) (hlink : (Cond.methodLink own index y).before args s = true) (hstat : (Cond.static y).before args s = true) (hinit : (Cond.initialized y.cls).before args s = true)
    (hcode : (Cond.codeWith y bytes maxL ret hh).before args s = true) (hy : y.cls ≠ "java/lang/invoke/MethodHandle" ∧ y.cls ≠ "java/lang/invoke/VarHandle")
    {W9 : Nat} {Pre : Pt → Array Value → Prop} {Post : Pt → Array Value → Option Value → Pt → Prop} (hK : Back l R p e below s args y 3 W9 Pre Post)
    {g : JFrame} (hg : g.method = m) (hsize : g.locals.size = c.maxLocals) {argsL rest : List Value} (hlen : ∀ sig, parseMethodDescriptor y.desc = some sig → argsL.length = sig.parameters.length)
    (hstack : g.stack = argsL.reverse ++ rest) (hW : 2 * g.monitorRoom + (rest.map fun v => v.category).sum ≤ W9) (hdg : decode c.code g.pc = .ok (.invokestatic index, 3))
    (hpre : ∀ vm₁, s.WarmedH vm₁ → Pre ⟨T.setVm vm₁, locs, cells, slots⟩ argsL.toArray) :
    ∃ (v : Option Value) (vm₁ : Vm) (B : Pt), s.WarmedH vm₁ ∧ Stand p l e R s m args below meth c B.U B.locs B.cells B.slots ∧ Post ⟨T.setVm vm₁, locs, cells, slots⟩ argsL.toArray v B ∧
      ∀ target, Steps p.tables e below (B.U.setTop { g with pc := g.pc + 3, stack := v.toList ++ rest }) target → Steps p.tables e below (T.setTop g) target := by
  obtain ⟨mk, methM, cM, hnamed, hmethM, -, -, -, -, -, -, hsigM⟩ := Cond.codeWith_spec hcode
  have hstatic : methM.isStatic = true := Cond.static_spec hnamed hmethM hstat
  obtain ⟨kP, hkP, -⟩ := className_of_methodNamed hnamed
  have hinitP : kP.init = .initialized := Cond.initialized_spec (findClass_of_methodNamed hnamed) hkP hinit
  obtain ⟨vm₁, X₁, hstep₁⟩ := X.invokestatic hexec hown hlink hnamed hmethM hstatic hkP hinitP hy (g := g) hg (argsL := argsL) (rest := rest) (hlen _ hsigM) hstack hdg
  obtain ⟨v, B, X', hpost, hsteps⟩ := hK m meth c ⟨T.setVm vm₁, locs, cells, slots⟩ { g with stack := rest } (.invokestatic index) mk argsL.toArray X₁ hg hsize hdg hW (X₁.named hnamed) (hpre vm₁ X₁.warmed)
  exact ⟨v, vm₁, B, X₁.warmed, X', hpost, fun target h => hstep₁ _ fun acts => by rw [doInvoke_state]; exact hsteps.trans h⟩
theorem vx_runSW {y : MethodName} {bytes cc : ByteArray} {maxL nL mc ms n index : Nat} {ret : Option FieldType} {hh : List (Nat × Nat × Nat × Nat)} {ws : List Cond} {rm : Room} {Pc : Array Value → State → Prop} {Qc : Array Value → State → Outcome → State → Prop} {free : Addr → Prop} {Ts : List Cond} {own : String} {As rest : List Value} {g : JFrame}
    (S : CallFix p m c cc nL s args Ts own) (hM : Met l y ws rm Pc Qc mc ms free) (cw : vx_CSW R s args own index y bytes maxL ret hh ws rm mc ms n) (hp : PreS s H Pc As)
    (hg : g.method = m) (hn : As.length = n) (hsize : g.locals.size = nL) (hstack : g.stack = As.reverse ++ rest) (hW : 2 * g.monitorRoom + (rest.map fun v => v.category).sum ≤ 8) (hdg : decode cc g.pc = .ok (.invokestatic index, 3)) (hf : cells + mc ≤ R.cells ∧ slots + ms ≤ R.slots) :
    va_Run p l e R s m args below meth c H locs cells slots mc ms g rest (Qc As.toArray) (free) := by
  obtain ⟨⟨hrc, hrs, hfr, hlo, hws, hcw⟩, hcode, hini, hy, hlen, hl, hstt⟩ := cw
  have hK : Back l R p e below s args y 3 8 (PreOf R mc ms Pc) (PostOf Qc mc ms free) := va_backW (hh := hh) (bytes := bytes) (maxL := maxL) (ret := ret) hM hp.1 hrc hrs hfr hlo hws hcw (fun a' U hW => word_at hW (Or.inl (by first | rfl | simp [Cond.onTables, Cond.keeps, Cond.steady])) hini)
  obtain ⟨hx, hb, hml, ho, -⟩ := S
  intro T hT X
  obtain ⟨v, vm₁, ⟨U', l2, c2, s2⟩, hW₁, X', ⟨g', mk, t, L, e1, e2, hq, h1, hL, h2, h3⟩, st⟩ := vx_callSW X hx (hh := hh) (bytes := bytes) (maxL := maxL) (ret := ret) ho hl hstt hini hcode hy hK hg (hsize.trans hml.symm) (argsL := As) (rest := rest) (fun sig h => hn.trans (hlen sig h)) hstack hW (by rw [hb]; exact hdg)
    (fun vm₁ hW₁ => ⟨hf.1, hf.2, hp.2 (T.setVm vm₁) hT hW₁⟩)
  dsimp only [Pt.U, Pt.locs, Pt.cells, Pt.slots] at X' e1 e2 h1 h2 h3 st
  subst h1; subst h2; subst h3
  exact ⟨v, (T.setVm vm₁).calling g' mk As.toArray, t, U', L, hT, X', hL, e1, e2, hq, st⟩
/-- not caught here, past rows that name other classes: it goes on to the caller -/
theorem vx_outP {p : Program} {l : Launch} {e : Env} {R : Room} {s : State} {m : MethodId} {args : Array Value} {below : List Frame} {meth : Method} {c : Code} {H : Heap} {locs : List Loc} {cells slots : Nat} {free : Addr → Prop} {ls : Array Slot} {rest : List Value} {Qc : Array Value → State → Outcome → State → Prop} {XC : String → State → State → Prop}
    {pc : Nat} {own E : String} {ce : Cell} {q : Addr} {mc ms : Nat} (hown : s.vm.findClass own = some m.cls) (hlocks : meth.locks = false)
    (hpass : ∀ z ∈ c.exceptionTable.toList, covers z pc = false ∨ (z.catchType ≠ 0 ∧ ∃ nm : String, (Cond.classLink own z.catchType nm).before args s = true ∧ va_Nc E nm s)) (hcell : H[q]? = some ce) (hv : ce.vm = .none) (hcl : s.vm.findClass E = some ce.cls)
    (hx : ∀ t : State, t.heap = H → s.vm.Alike t.vm → XC E s t) (hf : ∀ z ∈ locs, free z.base) (hc : cells ≤ mc) (hs : slots ≤ ms) :
    vx_W p l e R s m args below meth c H locs cells slots (vx_MQ below Qc XC args s mc ms free) (F0 m pc ls rest) q := by
  intro T hT X
  have hpl : e.platform.magicAccessors = ({} : Platform).magicAccessors := by rw [X.admits.platform]
  obtain ⟨vm', hW', X', st⟩ := X.outThrough hlocks q (g := F0 m pc ls rest) rfl rfl rfl (cell := ce) (by rw [hT]; exact hcell) (by rw [hv]; rfl)
    (by obtain ⟨k9, h9, -⟩ := Vm.findClass_spec hcl; exact ⟨k9, h9⟩) (fun z hz => by
      rcases hpass z hz with h | ⟨hz0, nm, hl1, hn1⟩
      · exact Or.inl h
      · obtain ⟨c6, hc6, hcl6⟩ := Cond.classLink_spec hown hl1 e.platform hpl
        obtain ⟨a8, b8, h1, h2, h3⟩ := hn1
        cases Option.some.inj (h1.symm.trans hcl)
        cases Option.some.inj (h2.symm.trans hc6)
        exact Or.inr ⟨hz0, _, hcl6, h3⟩)
  obtain ⟨g₀, hfr⟩ := X'.frames_eq
  have hcell9 : ((T.setVm vm').setFrames (.throwing q :: below)).heap[q]? = some ce := by
    show T.heap[q]? = some ce
    rw [hT]; exact hcell
  have hend : Ended ((T.setVm vm').setFrames (.throwing q :: below)) below (.threw q) := State.frames_setFrames _ (State.cur_lt_of_frames hfr)
  refine ⟨(T.setVm vm').setFrames (.throwing q :: below), ?_, .threw q, X'.here.running, hend, Or.inr ⟨q, rfl, E, ce, locs, hx _ hT (X'.ends _).1.alike, hcell9, hv, hcl, (X'.ends _).1, (X'.ends _).2.mono hc hs, hf⟩⟩
  rw [X.pushThrowing_eq]
  exact st
/-- a thing of a world lies in the heap -/
theorem vx_lt {D : va_G} {cl : List vw_C} {ws : va_W} {H1 : Heap} (h : va_P D cl ws H1) {k : Nat} {q : Nat × va_E} (hk : ws[k]? = some q) : q.1 < H1.size := (h k q hk).lt
end VXS
/-! ===== END ===== -/
/-! ===== BEGIN methods with a table of their own: called by a name, returning or throwing ===== -/
section VXH
/-! vx_backW, vx_callVX, vx_callSX, vx_callVW, vx_runVW, vx_runVX, vx_runSX, vx_ofWH follow the same proofs as their sisters above (Free/Laws.lean, Shelf42/LK1.lean); vx_outP calls Shelf42/NT130.lean (outThrough). -/
section
variable {l : Launch} {R : Room} {p : Program} {e : Env} {below : List Frame} {s : State} {sargs : Array Value} {y : MethodName} {len W9 : Nat}
theorem vx_backW {ws : List Cond} {rm : Room} {Pc : Array Value → State → Prop} {Qc : Array Value → State → Outcome → State → Prop} {XC : String → State → State → Prop} {mc ms : Nat} {free : Addr → Prop} {bytes : ByteArray} {maxL : Nat} {ret : Option FieldType} {hh : List (Nat × Nat × Nat × Nat)}
    (hM : vx_Met l y ws rm Pc Qc XC mc ms free) (hblind : FrameBlind Pc) (hrc : rm.cells = mc) (hrs : rm.slots = ms)
    (hframes : rm.frames + 1 ≤ R.frames) (hlocals : W9 + (maxL + 11) + rm.locals ≤ R.locals)
    (hws : ∀ w ∈ ws, ∀ a' U, s.WarmedH U.vm → w.before a' U = true) (hcode : Cond.codeWith y bytes maxL ret hh ∈ ws) (hinit : ∀ a' U, s.WarmedH U.vm → (Cond.initialized y.cls).before a' U = true) :
    vx_Back l R p e below s sargs y len W9 (PreOf R mc ms Pc) (PostOf Qc mc ms free) (vx_Post XC mc ms free) := by
  intro m meth c A g ig mk a X hg hsize hdg hW hn hp
  have h1 : (headSpec ws rm).pre.before a A.U = true := atoms_intro fun w hw => hws w hw _ _ X.warmed
  have h2 : (Cond.codeWith y bytes maxL ret hh).before a A.U = true := hws _ hcode _ _ X.warmed
  have h3 : (Cond.initialized y.cls).before a A.U = true := hinit _ _ X.warmed
  have h4 : A.cells + (headSpec ws rm).room.cells ≤ R.cells := by rw [show (headSpec ws rm).room.cells = mc from hrc]; exact hp.1
  have h5 : A.slots + (headSpec ws rm).room.slots ≤ R.slots := by rw [show (headSpec ws rm).room.slots = ms from hrs]; exact hp.2.1
  have hPc : Pc a (A.U.calling g mk a) := hblind _ _ _ _ hp.2.2
  obtain ⟨U, Ls, c0, s0⟩ := A
  dsimp only [Pt.U, Pt.locs, Pt.cells, Pt.slots] at h1 h2 h3 h4 h5 X hn hPc ⊢
  obtain ⟨m9, methY, cY, hn9, hmY, hcY, -, hlY, -⟩ := Cond.codeWith_spec h2
  cases Option.some.inj (hn9.symm.trans hn)
  obtain ⟨kY, hkY, -⟩ := className_of_methodNamed hn
  have hinitY : kY.init = .initialized := Cond.initialized_spec (findClass_of_methodNamed hn) hkY h3
  have h : At U g.method c below := by rw [hg]; exact X.here
  have hlocals9 : W9 + (maxL + 11) + (headSpec ws rm).room.locals ≤ R.locals := hlocals
  have happ : (headSpec ws rm).appliesLoose y e.platform (U.calling g mk a) = true :=
    Spec.appliesLoose_calling (g := g) h hdg hn hkY hinitY
      (X.room_calling (g := g) (R' := (headSpec ws rm).room) hsize hmY hcY hframes (by rw [hlY]; omega) h4 h5) h1
  obtain ⟨mid, hmid⟩ := h.above
  have hfr : (U.setTop g).frames = (.java g :: mid) ++ below := by rw [State.frames_setTop' g h.top, hmid]; rfl
  obtain ⟨o, s₂, hsteps, -, hend, hq⟩ := Steps.callFree hM p X.admits X.cas X.clock (acts := []) hfr happ hPc trivial
  have hq' : vx_Q Qc XC mc ms free a (U.calling g mk a) o s₂ := hq
  rw [State.frames_setTop' g h.top] at hend
  obtain ⟨g₀, hg0⟩ := Option.isSome_iff_exists.mp h.top
  obtain ⟨r, hr⟩ := State.topJava?_eq_some.mp hg0
  have hr' : (({ U with heap := s₂.heap, slotsUsed := s₂.slotsUsed } : State).setVm s₂.vm).frames = .java g₀ :: r := hr
  rcases hq' with ⟨hqc, L, hfe, hL⟩ | ⟨q, rfl, E, ce, L, hx, hce, hcv, hcl, hW₂, hsm, hL⟩
  · obtain ⟨⟨v, rfl⟩, hW₂, e2, q2, q3, q4, q5, q6⟩ := id hfe
    have e3 : s₂ = ({ (U.calling g mk a).setFrames s₂.frames with heap := s₂.heap, slotsUsed := s₂.slotsUsed } : State).setVm s₂.vm := by
      have : s₂ = ({ s₂ with vm := (U.calling g mk a).vm } : State).setVm s₂.vm := rfl
      rw [e2] at this
      exact this
    obtain ⟨c₂, i₂, len₂, hc₂, hd₂, hf₂⟩ := hend
    have hW' : U.WarmedH s₂.vm := hW₂
    have hcc : c₂ = c := by
      have h1 : s₂.code? g.method = U.code? g.method := by
        rw [State.code?_eq, State.code?_eq, hW'.alike.method?]
      exact Option.some.inj (hc₂.symm.trans (h1.trans h.code))
    subst hcc
    have hlen : len₂ = len := by rw [hdg] at hd₂; cases hd₂; rfl
    subst hlen
    have hs₂ : s₂ = (({ U with heap := s₂.heap, slotsUsed := s₂.slotsUsed } : State).setVm s₂.vm).setTop { g with pc := g.pc + len₂, stack := v.toList ++ g.stack } := by
      refine e3.trans ?_
      rw [hf₂, State.calling_eq h.top, State.setFrames_setFrames, State.setTop_of_frames _ hr', hr]
      rfl
    have hsame : U.sameButNew ({ U with heap := s₂.heap, slotsUsed := s₂.slotsUsed } : State) L mc ms := by
      refine ⟨?_, q2, q3, q4, q5, q6⟩
      obtain ⟨t, ht, -⟩ := State.frames_cons hr
      show ({ U with heap := s₂.heap, slotsUsed := s₂.slotsUsed } : State) = { U.setFrames U.frames with heap := s₂.heap, slotsUsed := s₂.slotsUsed }
      rw [State.setFrames_self ht]
    subst hg
    refine Or.inl ⟨v, ⟨(({ U with heap := s₂.heap, slotsUsed := s₂.slotsUsed } : State).setVm s₂.vm), Ls ++ L, c0 + mc, s0 + ms⟩,
      ⟨X.admits, X.cas, X.clock, X.frames, X.room, X.hears, X.method, X.code, (X.here.setHeapUsed s₂.heap s₂.slotsUsed).setVm hW'.alike, X.tail, State.WarmedH.trans X.warmed hW', X.limits, X.bytes, X.same.trans (hsame.setVm s.vm)⟩,
      ⟨g, mk, s₂, L, rfl, rfl, hqc, rfl, hL, rfl, rfl⟩, ?_⟩
    show Steps p.tables e below _ ((({ U with heap := s₂.heap, slotsUsed := s₂.slotsUsed } : State).setVm s₂.vm).setTop { g with pc := g.pc + len₂, stack := v.toList ++ g.stack })
    rw [← hs₂]
    exact hsteps
  · obtain ⟨e2, q2, q3, q4, q5, q6⟩ := id hsm
    have e3 : s₂ = ({ (U.calling g mk a).setFrames s₂.frames with heap := s₂.heap, slotsUsed := s₂.slotsUsed } : State).setVm s₂.vm := by
      have : s₂ = ({ s₂ with vm := (U.calling g mk a).vm } : State).setVm s₂.vm := rfl
      rw [e2] at this
      exact this
    have hf₂ : s₂.frames = .throwing q :: .java g :: U.frames.tail := hend
    have hW' : U.WarmedH s₂.vm := hW₂
    have hs₂ : s₂ = ((({ U with heap := s₂.heap, slotsUsed := s₂.slotsUsed } : State).setVm s₂.vm).setTop g).pushFrame (.throwing q) := by
      refine e3.trans ?_
      rw [hf₂, State.calling_eq h.top, State.setFrames_setFrames, State.pushFrame, State.frames_setTop _ hr', State.setTop_of_frames _ hr', State.setFrames_setFrames, hr]
      rfl
    have hsame : U.sameButNew ({ U with heap := s₂.heap, slotsUsed := s₂.slotsUsed } : State) L mc ms := by
      refine ⟨?_, q2, q3, q4, q5, q6⟩
      obtain ⟨t, ht, -⟩ := State.frames_cons hr
      show ({ U with heap := s₂.heap, slotsUsed := s₂.slotsUsed } : State) = { U.setFrames U.frames with heap := s₂.heap, slotsUsed := s₂.slotsUsed }
      rw [State.setFrames_self ht]
    subst hg
    refine Or.inr ⟨q, ⟨(({ U with heap := s₂.heap, slotsUsed := s₂.slotsUsed } : State).setVm s₂.vm), Ls ++ L, c0 + mc, s0 + ms⟩,
      ⟨X.admits, X.cas, X.clock, X.frames, X.room, X.hears, X.method, X.code, (X.here.setHeapUsed s₂.heap s₂.slotsUsed).setVm hW'.alike, X.tail, State.WarmedH.trans X.warmed hW', X.limits, X.bytes, X.same.trans (hsame.setVm s.vm)⟩,
      ⟨g, mk, s₂, L, E, ce, rfl, rfl, hx, hce, hcv, hcl, rfl, hL, rfl, rfl⟩, ?_⟩
    show Steps p.tables e below _ (((({ U with heap := s₂.heap, slotsUsed := s₂.slotsUsed } : State).setVm s₂.vm).setTop g).pushFrame (.throwing q))
    rw [← hs₂]
    exact hsteps
end
variable {p : Program} {l : Launch} {e : Env} {R : Room} {s : State} {m : MethodId} {args : Array Value} {below : List Frame} {meth : Method} {c : Code} {T : State} {H : Heap} {locs : List Loc} {cells slots : Nat}
theorem vx_callVX (X : Stand p l e R s m args below meth c T locs cells slots) (hexec : p.tables.exec = Jvm.exec) {own C : String} {index : Nat} {y : MethodName} {bytes : ByteArray} {maxL : Nat} {ret : Option FieldType} {hh : List (Nat × Nat × Nat × Nat)}
    (hown : s.vm.findClass own = some m.cls) (hlink : (Cond.methodLink own index y).before args s = true) (hinst : (Cond.instanceMethod y).before args s = true) (hsel : (Cond.selects C y y).before args s = true)
    (hcode : (Cond.codeWith y bytes maxL ret hh).before args s = true) (hy : y.cls ≠ "java/lang/invoke/MethodHandle" ∧ y.cls ≠ "java/lang/invoke/VarHandle")
    {W9 : Nat} {Pre : Pt → Array Value → Prop} {Post : Pt → Array Value → Option Value → Pt → Prop} {PostX : Pt → Array Value → Addr → Pt → Prop} (hK : vx_Back l R p e below s args y 3 W9 Pre Post PostX)
    {b : Addr} {cellB : Cell} (hcell : T.heap[b]? = some cellB) (hobj : cellB.vm.isStatics = false) (hcls : s.vm.findClass C = some cellB.cls)
    {g : JFrame} (hg : g.method = m) (hsize : g.locals.size = c.maxLocals) {argsL rest : List Value} (hlen : ∀ sig, parseMethodDescriptor y.desc = some sig → argsL.length = sig.parameters.length)
    (hstack : g.stack = argsL.reverse ++ .ref b :: rest) (hW : 2 * g.monitorRoom + (rest.map fun v => v.category).sum ≤ W9) (hdg : decode c.code g.pc = .ok (.invokevirtual index, 3))
    (hpre : ∀ vm₁, s.WarmedH vm₁ → Pre ⟨T.setVm vm₁, locs, cells, slots⟩ (Value.ref b :: argsL).toArray) :
    (∃ (v : Option Value) (vm₁ : Vm) (B : Pt), s.WarmedH vm₁ ∧ Stand p l e R s m args below meth c B.U B.locs B.cells B.slots ∧ Post ⟨T.setVm vm₁, locs, cells, slots⟩ (Value.ref b :: argsL).toArray v B ∧
      ∀ target, Steps p.tables e below (B.U.setTop { g with pc := g.pc + 3, stack := v.toList ++ rest }) target → Steps p.tables e below (T.setTop g) target) ∨
    (∃ (q : Addr) (vm₁ : Vm) (B : Pt), s.WarmedH vm₁ ∧ Stand p l e R s m args below meth c B.U B.locs B.cells B.slots ∧ PostX ⟨T.setVm vm₁, locs, cells, slots⟩ (Value.ref b :: argsL).toArray q B ∧
      Steps p.tables e below (T.setTop g) ((B.U.setTop { g with stack := rest }).pushFrame (.throwing q))) := by
  obtain ⟨mk, methM, hnamed, hmethM, hstM, habM⟩ := Cond.instanceMethod_spec hinst
  obtain ⟨m8, methM', cM, hn8, hmethM', -, -, -, -, -, -, hsigM⟩ := Cond.codeWith_spec hcode
  cases Option.some.inj (hn8.symm.trans hnamed)
  cases hmethM.symm.trans hmethM'
  obtain ⟨c2, r2, m2, q1, q2, q3, q4, kP, hkP, hkPi⟩ := Cond.selects_spec hsel
  cases hcls.symm.trans q1
  cases (State.methodFound?_of_named hnamed hy).symm.trans q2
  cases hnamed.symm.trans q3
  have hselP : selectMethod e.platform s.vm cellB.cls mk = .method mk := by rw [Launch.admits_selectMethod X.admits]; exact q4
  obtain ⟨vm₁, X₁, hstep₁⟩ := X.invokevirtual hexec hown hlink hnamed hmethM hstM hkP hkPi hy (a := b) (cell := cellB) hcell
    (fun z h => by rw [h] at hobj; cases hobj) hselP hmethM habM hkP hkPi (g := g) hg (argsL := argsL) (rest := rest) (hlen _ hsigM) hstack hdg
  rcases hK m meth c ⟨T.setVm vm₁, locs, cells, slots⟩ { g with stack := rest } (.invokevirtual index) mk (Value.ref b :: argsL).toArray X₁ hg hsize hdg hW (X₁.named hnamed) (hpre vm₁ X₁.warmed) with ⟨v, B, X', hpost, hsteps⟩ | ⟨q, B, X', hpost, hsteps⟩
  · exact Or.inl ⟨v, vm₁, B, X₁.warmed, X', hpost, fun target h => hstep₁ _ fun acts => by rw [doInvoke_state]; exact hsteps.trans h⟩
  · exact Or.inr ⟨q, vm₁, B, X₁.warmed, X', hpost, hstep₁ _ fun acts => by rw [doInvoke_state]; exact hsteps⟩
theorem vx_callSX (X : Stand p l e R s m args below meth c T locs cells slots) (hexec : p.tables.exec = Jvm.exec) {own : String} {index : Nat} {y : MethodName} {bytes : ByteArray} {maxL : Nat} {ret : Option FieldType} {hh : List (Nat × Nat × Nat × Nat)}
    (hown : s.vm.findClass own = some m.cls) (hlink : (Cond.methodLink own index y).before args s = true) (hstat : (Cond.static y).before args s = true) (hinit : (Cond.initialized y.cls).before args s = true)
    (hcode : (Cond.codeWith y bytes maxL ret hh).before args s = true) (hy : y.cls ≠ "java/lang/invoke/MethodHandle" ∧ y.cls ≠ "java/lang/invoke/VarHandle")
    {W9 : Nat} {Pre : Pt → Array Value → Prop} {Post : Pt → Array Value → Option Value → Pt → Prop} {PostX : Pt → Array Value → Addr → Pt → Prop} (hK : vx_Back l R p e below s args y 3 W9 Pre Post PostX)
    {g : JFrame} (hg : g.method = m) (hsize : g.locals.size = c.maxLocals) {argsL rest : List Value} (hlen : ∀ sig, parseMethodDescriptor y.desc = some sig → argsL.length = sig.parameters.length)
    (hstack : g.stack = argsL.reverse ++ rest) (hW : 2 * g.monitorRoom + (rest.map fun v => v.category).sum ≤ W9) (hdg : decode c.code g.pc = .ok (.invokestatic index, 3))
    (hpre : ∀ vm₁, s.WarmedH vm₁ → Pre ⟨T.setVm vm₁, locs, cells, slots⟩ argsL.toArray) :
    (∃ (v : Option Value) (vm₁ : Vm) (B : Pt), s.WarmedH vm₁ ∧ Stand p l e R s m args below meth c B.U B.locs B.cells B.slots ∧ Post ⟨T.setVm vm₁, locs, cells, slots⟩ argsL.toArray v B ∧
      ∀ target, Steps p.tables e below (B.U.setTop { g with pc := g.pc + 3, stack := v.toList ++ rest }) target → Steps p.tables e below (T.setTop g) target) ∨
    (∃ (q : Addr) (vm₁ : Vm) (B : Pt), s.WarmedH vm₁ ∧ Stand p l e R s m args below meth c B.U B.locs B.cells B.slots ∧ PostX ⟨T.setVm vm₁, locs, cells, slots⟩ argsL.toArray q B ∧
      Steps p.tables e below (T.setTop g) ((B.U.setTop { g with stack := rest }).pushFrame (.throwing q))) := by
  obtain ⟨mk, methM, cM, hnamed, hmethM, -, -, -, -, -, -, hsigM⟩ := Cond.codeWith_spec hcode
  have hstatic : methM.isStatic = true := Cond.static_spec hnamed hmethM hstat
  obtain ⟨kP, hkP, -⟩ := className_of_methodNamed hnamed
  have hinitP : kP.init = .initialized := Cond.initialized_spec (findClass_of_methodNamed hnamed) hkP hinit
  obtain ⟨vm₁, X₁, hstep₁⟩ := X.invokestatic hexec hown hlink hnamed hmethM hstatic hkP hinitP hy (g := g) hg (argsL := argsL) (rest := rest) (hlen _ hsigM) hstack hdg
  rcases hK m meth c ⟨T.setVm vm₁, locs, cells, slots⟩ { g with stack := rest } (.invokestatic index) mk argsL.toArray X₁ hg hsize hdg hW (X₁.named hnamed) (hpre vm₁ X₁.warmed) with ⟨v, B, X', hpost, hsteps⟩ | ⟨q, B, X', hpost, hsteps⟩
  · exact Or.inl ⟨v, vm₁, B, X₁.warmed, X', hpost, fun target h => hstep₁ _ fun acts => by rw [doInvoke_state]; exact hsteps.trans h⟩
  · exact Or.inr ⟨q, vm₁, B, X₁.warmed, X', hpost, hstep₁ _ fun acts => by rw [doInvoke_state]; exact hsteps⟩
theorem vx_callVW (X : Stand p l e R s m args below meth c T locs cells slots) (hexec : p.tables.exec = Jvm.exec) {own C : String} {index : Nat} {y : MethodName} {bytes : ByteArray} {maxL : Nat} {ret : Option FieldType} {hh : List (Nat × Nat × Nat × Nat)}
    (hown : s.vm.findClass own = some m.cls) (hlink : (Cond.methodLink own index y).before args s = true) (hinst : (Cond.instanceMethod y).before args s = true) (hsel : (Cond.selects C y y).before args s = true)
    (hcode : (Cond.codeWith y bytes maxL ret hh).before args s = true) (hy : y.cls ≠ "java/lang/invoke/MethodHandle" ∧ y.cls ≠ "java/lang/invoke/VarHandle")
    {W9 : Nat} {Pre : Pt → Array Value → Prop} {Post : Pt → Array Value → Option Value → Pt → Prop} (hK : Back l R p e below s args y 3 W9 Pre Post)
    {b : Addr} {cellB : Cell} (hcell : T.heap[b]? = some cellB) (hobj : cellB.vm.isStatics = false) (hcls : s.vm.findClass C = some cellB.cls)
    {g : JFrame} (hg : g.method = m) (hsize : g.locals.size = c.maxLocals) {argsL rest : List Value} (hlen : ∀ sig, parseMethodDescriptor y.desc = some sig → argsL.length = sig.parameters.length)
    (hstack : g.stack = argsL.reverse ++ .ref b :: rest) (hW : 2 * g.monitorRoom + (rest.map fun v => v.category).sum ≤ W9) (hdg : decode c.code g.pc = .ok (.invokevirtual index, 3))
    (hpre : ∀ vm₁, s.WarmedH vm₁ → Pre ⟨T.setVm vm₁, locs, cells, slots⟩ (Value.ref b :: argsL).toArray) :
    ∃ (v : Option Value) (vm₁ : Vm) (B : Pt), s.WarmedH vm₁ ∧ Stand p l e R s m args below meth c B.U B.locs B.cells B.slots ∧ Post ⟨T.setVm vm₁, locs, cells, slots⟩ (Value.ref b :: argsL).toArray v B ∧
      ∀ target, Steps p.tables e below (B.U.setTop { g with pc := g.pc + 3, stack := v.toList ++ rest }) target → Steps p.tables e below (T.setTop g) target := by
  obtain ⟨mk, methM, hnamed, hmethM, hstM, habM⟩ := Cond.instanceMethod_spec hinst
  obtain ⟨m8, methM', cM, hn8, hmethM', -, -, -, -, -, -, hsigM⟩ := Cond.codeWith_spec hcode
  cases Option.some.inj (hn8.symm.trans hnamed)
  cases hmethM.symm.trans hmethM'
  obtain ⟨c2, r2, m2, q1, q2, q3, q4, kP, hkP, hkPi⟩ := Cond.selects_spec hsel
  cases hcls.symm.trans q1
  cases (State.methodFound?_of_named hnamed hy).symm.trans q2
  cases hnamed.symm.trans q3
  have hselP : selectMethod e.platform s.vm cellB.cls mk = .method mk := by rw [Launch.admits_selectMethod X.admits]; exact q4
  obtain ⟨vm₁, X₁, hstep₁⟩ := X.invokevirtual hexec hown hlink hnamed hmethM hstM hkP hkPi hy (a := b) (cell := cellB) hcell
    (fun z h => by rw [h] at hobj; cases hobj) hselP hmethM habM hkP hkPi (g := g) hg (argsL := argsL) (rest := rest) (hlen _ hsigM) hstack hdg
  obtain ⟨v, B, X', hpost, hsteps⟩ := hK m meth c ⟨T.setVm vm₁, locs, cells, slots⟩ { g with stack := rest } (.invokevirtual index) mk (Value.ref b :: argsL).toArray X₁ hg hsize hdg hW (X₁.named hnamed) (hpre vm₁ X₁.warmed)
  exact ⟨v, vm₁, B, X₁.warmed, X', hpost, fun target h => hstep₁ _ fun acts => by rw [doInvoke_state]; exact hsteps.trans h⟩
abbrev vx_CVW (R : Room) (s : State) (args : Array Value) (own C : String) (index : Nat) (y : MethodName) (bytes : ByteArray) (maxL : Nat) (ret : Option FieldType) (hh : List (Nat × Nat × Nat × Nat)) (ws : List Cond) (rm : Room) (mc ms n : Nat) : Prop :=
  (rm.cells = mc ∧ rm.slots = ms ∧ rm.frames + 1 ≤ R.frames ∧ 8 + (maxL + 11) + rm.locals ≤ R.locals ∧ (∀ w ∈ ws, ∀ (a' : Array Value) (U : State), s.WarmedH U.vm → w.before a' U = true) ∧ Cond.codeWith y bytes maxL ret hh ∈ ws) ∧
  (Cond.codeWith y bytes maxL ret hh).before args s = true ∧ (Cond.initialized y.cls).before args s = true ∧ (y.cls ≠ "java/lang/invoke/MethodHandle" ∧ y.cls ≠ "java/lang/invoke/VarHandle") ∧
  (∀ sig, parseMethodDescriptor y.desc = some sig → n = sig.parameters.length) ∧ (Cond.methodLink own index y).before args s = true ∧ (Cond.instanceMethod y).before args s = true ∧ (Cond.selects C y y).before args s = true
theorem vx_cwVW {own C : String} {index maxL mc ms : Nat} {y : MethodName} {bytes : ByteArray} {ret : Option FieldType} {hh : List (Nat × Nat × Nat × Nat)} {Ts ws ws' : List Cond} {rm : Room} (n : Nat) (ht : ∀ w ∈ Ts, w.before args s = true) (hT : GoodIn Ts (wsV own index C y ws)) (hw : ws = Cond.codeWith y bytes maxL ret hh :: ws') (hrc : rm.cells = mc) (hrs : rm.slots = ms)
    (hd : y.cls = C ∧ y.cls ≠ "java/lang/invoke/MethodHandle" ∧ y.cls ≠ "java/lang/invoke/VarHandle" ∧ (parseMethodDescriptor y.desc).map (fun d => d.parameters.length) = some n) (hR : rm.frames + 1 ≤ R.frames ∧ 8 + (maxL + 11) + rm.locals ≤ R.locals) :
    vx_CVW R s args own C index y bytes maxL ret hh ws rm mc ms n := by
  obtain ⟨hC, hd⟩ := hd
  subst hC
  have ok : ∀ w ∈ wsV own index y.cls y ws, w.before args s = true := fun w h => ht w (hT w h).1
  have hG : GoodIn Ts ws := fun w h => hT w (by unfold wsV; exact List.mem_append_right _ h)
  have hc : Cond.codeWith y bytes maxL ret hh ∈ ws := by rw [hw]; exact List.mem_cons_self
  refine ⟨⟨hrc, hrs, hR.1, hR.2, pay_in ht hG, hc⟩, ht _ (hG _ hc).1, ok _ (by simp [wsV]), ⟨hd.1, hd.2.1⟩, fun sig h => ?_, ok _ (by simp [wsV]), ok _ (by simp [wsV]), ok _ (by simp [wsV])⟩
  have h2 := hd.2.2
  rw [h] at h2
  exact (Option.some.inj h2).symm
theorem vx_runVW {y : MethodName} {bytes cc : ByteArray} {maxL nL mc ms n index : Nat} {ret : Option FieldType} {hh : List (Nat × Nat × Nat × Nat)} {ws : List Cond} {rm : Room} {Pc : Array Value → State → Prop} {Qc : Array Value → State → Outcome → State → Prop} {free : Addr → Prop} {Ts : List Cond} {own C : String} {b : Addr} {As rest : List Value} {g : JFrame}
    (S : CallFix p m c cc nL s args Ts own) (hM : Met l y ws rm Pc Qc mc ms free) (cw : vx_CVW R s args own C index y bytes maxL ret hh ws rm mc ms n) (hp : PreV s H C b Pc As)
    (hg : g.method = m) (hn : As.length = n) (hsize : g.locals.size = nL) (hstack : g.stack = As.reverse ++ .ref b :: rest) (hW : 2 * g.monitorRoom + (rest.map fun v => v.category).sum ≤ 8) (hdg : decode cc g.pc = .ok (.invokevirtual index, 3)) (hf : cells + mc ≤ R.cells ∧ slots + ms ≤ R.slots) :
    va_Run p l e R s m args below meth c H locs cells slots mc ms g rest (Qc (Value.ref b :: As).toArray) free := by
  obtain ⟨⟨hrc, hrs, hfr, hlo, hws, hcw⟩, hcode, hini, hy, hlen, hl, hin, hse⟩ := cw
  have hK : Back l R p e below s args y 3 8 (PreOf R mc ms Pc) (PostOf Qc mc ms free) := va_backW (hh := hh) (bytes := bytes) (maxL := maxL) (ret := ret) hM hp.1 hrc hrs hfr hlo hws hcw (fun a' U hW => word_at hW (Or.inl (by first | rfl | simp [Cond.onTables, Cond.keeps, Cond.steady])) hini)
  obtain ⟨hx, hb, hml, ho, -⟩ := S
  obtain ⟨-, ⟨cellB, hcB, hoB, hclB⟩, hPc⟩ := hp
  intro T hT X
  obtain ⟨v, vm₁, ⟨U', l2, c2, s2⟩, hW₁, X', ⟨g', mk, t, L, e1, e2, hq, h1, hL, h2, h3⟩, st⟩ := vx_callVW X hx (C := C) (hh := hh) (bytes := bytes) (maxL := maxL) (ret := ret) ho hl hin hse hcode hy hK (by rw [hT]; exact hcB) hoB hclB hg (hsize.trans hml.symm) (argsL := As) (rest := rest) (fun sig h => hn.trans (hlen sig h)) hstack hW (by rw [hb]; exact hdg)
    (fun vm₁ hW₁ => ⟨hf.1, hf.2, hPc (T.setVm vm₁) hT hW₁⟩)
  dsimp only [Pt.U, Pt.locs, Pt.cells, Pt.slots] at X' e1 e2 h1 h2 h3 st
  subst h1; subst h2; subst h3
  exact ⟨v, (T.setVm vm₁).calling g' mk (Value.ref b :: As).toArray, t, U', L, hT, X', hL, e1, e2, hq, st⟩
section
variable {y : MethodName} {bytes cc : ByteArray} {maxL nL mc ms n index : Nat} {ret : Option FieldType} {ws : List Cond} {rm : Room} {Pc : Array Value → State → Prop} {Qc : Array Value → State → Outcome → State → Prop} {XC : String → State → State → Prop} {free : Addr → Prop} {Ts : List Cond} {own C : String} {b : Addr} {As rest : List Value} {g : JFrame}
theorem vx_runVX {hh : List (Nat × Nat × Nat × Nat)} (S : CallFix p m c cc nL s args Ts own) (hM : vx_Met l y ws rm Pc Qc XC mc ms free) (cw : vx_CVW R s args own C index y bytes maxL ret hh ws rm mc ms n) (hp : PreV s H C b Pc As)
    (hg : g.method = m) (hn : As.length = n) (hsize : g.locals.size = nL) (hstack : g.stack = As.reverse ++ .ref b :: rest) (hW : 2 * g.monitorRoom + (rest.map fun v => v.category).sum ≤ 8) (hdg : decode cc g.pc = .ok (.invokevirtual index, 3)) (hf : cells + mc ≤ R.cells ∧ slots + ms ≤ R.slots) :
    vx_Run p l e R s m args below meth c H locs cells slots mc ms g rest (Qc (Value.ref b :: As).toArray) XC free := by
  obtain ⟨⟨hrc, hrs, hfr, hlo, hws, hcw⟩, hcode, hini, hy, hlen, hl, hin, hse⟩ := cw
  have hK : vx_Back l R p e below s args y 3 8 (PreOf R mc ms Pc) (PostOf Qc mc ms free) (vx_Post XC mc ms free) := vx_backW (hh := hh) (bytes := bytes) (maxL := maxL) (ret := ret) hM hp.1 hrc hrs hfr hlo hws hcw (fun a' U hW => word_at hW (Or.inl (by first | rfl | simp [Cond.onTables, Cond.keeps, Cond.steady])) hini)
  obtain ⟨hx, hb, hml, ho, -⟩ := S
  obtain ⟨-, ⟨cellB, hcB, hoB, hclB⟩, hPc⟩ := hp
  intro T hT X
  rcases vx_callVX X hx (C := C) (hh := hh) (bytes := bytes) (maxL := maxL) (ret := ret) ho hl hin hse hcode hy hK (by rw [hT]; exact hcB) hoB hclB hg (hsize.trans hml.symm) (argsL := As) (rest := rest) (fun sig h => hn.trans (hlen sig h)) hstack hW (by rw [hb]; exact hdg)
    (fun vm₁ hW₁ => ⟨hf.1, hf.2, hPc (T.setVm vm₁) hT hW₁⟩) with ⟨v, vm₁, ⟨U', l2, c2, s2⟩, hW₁, X', ⟨g', mk, t, L, e1, e2, hq, h1, hL, h2, h3⟩, st⟩ | ⟨q, vm₁, ⟨U', l2, c2, s2⟩, hW₁, X', ⟨g', mk, t, L, E, ce, e1, e2, hq, hce, hcv, hcl, h1, hL, h2, h3⟩, st⟩
  · dsimp only [Pt.U, Pt.locs, Pt.cells, Pt.slots] at X' e1 e2 h1 h2 h3 st
    subst h1; subst h2; subst h3
    exact Or.inl ⟨v, (T.setVm vm₁).calling g' mk (Value.ref b :: As).toArray, t, U', L, hT, X', hL, e1, e2, hq, st⟩
  · dsimp only [Pt.U, Pt.locs, Pt.cells, Pt.slots] at X' e1 e2 h1 h2 h3 st hcl
    subst h1; subst h2; subst h3
    exact Or.inr ⟨q, (T.setVm vm₁).calling g' mk (Value.ref b :: As).toArray, t, U', L, E, ce, hT, X', hL, e1, e2, hq, hce, hcv, vx_cls hW₁ hcl, st⟩
theorem vx_runSX {hh : List (Nat × Nat × Nat × Nat)} (S : CallFix p m c cc nL s args Ts own) (hM : vx_Met l y ws rm Pc Qc XC mc ms free) (cw : vx_CSW R s args own index y bytes maxL ret hh ws rm mc ms n) (hp : PreS s H Pc As)
    (hg : g.method = m) (hn : As.length = n) (hsize : g.locals.size = nL) (hstack : g.stack = As.reverse ++ rest) (hW : 2 * g.monitorRoom + (rest.map fun v => v.category).sum ≤ 8) (hdg : decode cc g.pc = .ok (.invokestatic index, 3)) (hf : cells + mc ≤ R.cells ∧ slots + ms ≤ R.slots) :
    vx_Run p l e R s m args below meth c H locs cells slots mc ms g rest (Qc As.toArray) XC free := by
  obtain ⟨⟨hrc, hrs, hfr, hlo, hws, hcw⟩, hcode, hini, hy, hlen, hl, hstt⟩ := cw
  have hK : vx_Back l R p e below s args y 3 8 (PreOf R mc ms Pc) (PostOf Qc mc ms free) (vx_Post XC mc ms free) := vx_backW (hh := hh) (bytes := bytes) (maxL := maxL) (ret := ret) hM hp.1 hrc hrs hfr hlo hws hcw (fun a' U hW => word_at hW (Or.inl (by first | rfl | simp [Cond.onTables, Cond.keeps, Cond.steady])) hini)
  obtain ⟨hx, hb, hml, ho, -⟩ := S
  intro T hT X
  rcases vx_callSX X hx (hh := hh) (bytes := bytes) (maxL := maxL) (ret := ret) ho hl hstt hini hcode hy hK hg (hsize.trans hml.symm) (argsL := As) (rest := rest) (fun sig h => hn.trans (hlen sig h)) hstack hW (by rw [hb]; exact hdg)
    (fun vm₁ hW₁ => ⟨hf.1, hf.2, hp.2 (T.setVm vm₁) hT hW₁⟩) with ⟨v, vm₁, ⟨U', l2, c2, s2⟩, hW₁, X', ⟨g', mk, t, L, e1, e2, hq, h1, hL, h2, h3⟩, st⟩ | ⟨q, vm₁, ⟨U', l2, c2, s2⟩, hW₁, X', ⟨g', mk, t, L, E, ce, e1, e2, hq, hce, hcv, hcl, h1, hL, h2, h3⟩, st⟩
  · dsimp only [Pt.U, Pt.locs, Pt.cells, Pt.slots] at X' e1 e2 h1 h2 h3 st
    subst h1; subst h2; subst h3
    exact Or.inl ⟨v, (T.setVm vm₁).calling g' mk As.toArray, t, U', L, hT, X', hL, e1, e2, hq, st⟩
  · dsimp only [Pt.U, Pt.locs, Pt.cells, Pt.slots] at X' e1 e2 h1 h2 h3 st hcl
    subst h1; subst h2; subst h3
    exact Or.inr ⟨q, (T.setVm vm₁).calling g' mk As.toArray, t, U', L, E, ce, hT, X', hL, e1, e2, hq, hce, hcv, vx_cls hW₁ hcl, st⟩
end
end VXH
theorem vx_ofWH {l : Launch} {y : MethodName} {ws ws' : List Cond} {rm : Room} {Pc : Array Value → State → Prop} {Qc : Array Value → State → Outcome → State → Prop} {XC : String → State → State → Prop} {mc ms : Nat} {free : Addr → Prop} {cc : ByteArray} {maxL : Nat} {ret : Option FieldType} {hh : List (Nat × Nat × Nat × Nat)}
    (hy : plainName y.cls = true) (hw : ws = Cond.codeWith y cc maxL ret hh :: ws')
    (body : ∀ p e s m args below meth c s₁, BodyLoose p l y (headSpec ws rm) cc maxL ret e s m args below meth c s₁ → c.maxLocals = maxL → Pc args s →
      W p l e (headSpec ws rm).room s m args below meth c s.heap [] 0 0 (vx_MQ below Qc XC args s mc ms free) (entryFrame m args maxL)) : vx_Met l y ws rm Pc Qc XC mc ms free := by
  refine MetFree.of_bodyS (code := cc) (maxLocals := maxL) (ret := ret) hy ?_ ?_
  · intro args s m h hn
    obtain ⟨m9, meth, c, hn9, h1, h2, h3, h4, -, h5, h6, -⟩ := Cond.codeWith_spec (atoms_spec (ws := ws) h _ (by rw [hw]; exact List.mem_cons_self))
    cases hn.symm.trans hn9
    exact ⟨meth, c, h1, h2, h3, h4, h5, h6⟩
  · intro p e s m args below meth c s₁ B hml hP _
    have hh0 : s₁.heap = s.heap := by rw [B.state]; rfl
    obtain ⟨t, a1, o, b1, b2, b3⟩ := body p e s m args below meth c s₁ B hml hP s₁ hh0 (Stand.of_body B)
    exact ⟨t, o, a1, b1, b2, b3⟩
/-! ===== END ===== -/
end
section
/-! names of all methods (by my program, out of the listing and the tables) -/
def wsA : List Cond := lw_tbl.filter goodWord
theorem y_inA {w : Cond} (h : w ∈ lw_tbl) (g : goodWord w = true) : w ∈ wsA := List.mem_filter.mpr ⟨h, g⟩
theorem y_inT {w : Cond} (h : w ∈ tables_1) (g : goodWord w = true) : w ∈ wsA := y_inA (List.mem_append_right _ h) g
theorem y_gA {ws : List Cond} (h : ∀ w ∈ ws, w ∈ wsA) : GoodIn wsA ws := fun w hw => ⟨h w hw, good_of_word (List.mem_filter.mp (h w hw)).2⟩
theorem y_gM {w : Cond} (h : w ∈ wsA) : ∀ w' ∈ w :: wsA, w' ∈ wsA := fun w' hw => (List.mem_cons.mp hw).elim (fun e => by rw [e]; exact h) id
theorem y_gV {own C : String} {idx : Nat} {y : MethodName} {ws : List Cond} (h1 : Cond.methodLink own idx y ∈ wsA) (h2 : Cond.instanceMethod y ∈ wsA) (h3 : Cond.selects C y y ∈ wsA) (h4 : Cond.initialized C ∈ wsA) (h : ∀ w ∈ ws, w ∈ wsA) : GoodIn wsA (wsV own idx C y ws) := y_gA (fun w hw => (List.mem_append.mp hw).elim (fun q => by
  simp only [List.mem_cons, List.not_mem_nil, or_false] at q
  rcases q with rfl | rfl | rfl | rfl <;> assumption) (h w))
theorem y_gS {own : String} {idx : Nat} {y : MethodName} {ws : List Cond} (h1 : Cond.methodLink own idx y ∈ wsA) (h2 : Cond.static y ∈ wsA) (h3 : Cond.initialized y.cls ∈ wsA) (h : ∀ w ∈ ws, w ∈ wsA) : GoodIn wsA (va_wsS own idx y ws) := y_gA (fun w hw => (List.mem_append.mp hw).elim (fun q => by
  simp only [List.mem_cons, List.not_mem_nil, or_false] at q
  rcases q with rfl | rfl | rfl <;> assumption) (h w))
def RX0 : String := "ClauseYard"
def TX0 : u_T := fun k => match k with
  | 0 => ("ClauseYard", "search", "LClauseYard$Search;", true)
  | 1 => ("ClauseYard", "clausesBelow", "[I", true)
  | 2 => ("ClauseYard", "assumptions", "[I", true)
  | 3 => ("ClauseYard", "clauseCount", "I", false)
  | 4 => ("ClauseYard", "level", "I", false)
  | 5 => ("ClauseYard", "assumptionCount", "I", false)
  | 6 => ("ClauseYard", "tapeCount", "I", false)
  | 7 => ("ClauseYard", "tapeYes", "I", false)
  | 8 => ("ClauseYard", "tapeNo", "I", false)
  | _ => ("ClauseYard", "model", "I", false)
def tyX0 : Nat → FieldType := fun k => match k with
  | 0 => .object "ClauseYard$Search"
  | 1 => .array .int
  | 2 => .array .int
  | 3 => .int
  | 4 => .int
  | 5 => .int
  | 6 => .int
  | 7 => .int
  | 8 => .int
  | _ => .int
theorem nX0 : ∀ a, a < 10 → ∀ b, b < 10 → a ≠ b → (TX0 a).2.1 ≠ (TX0 b).2.1 := by decide +kernel
theorem tyX0_ok : ∀ k, k < 10 → parseFieldDescriptor (TX0 k).2.2.1 = some (tyX0 k) := by decide +kernel
theorem inX0 : ∀ w ∈ u_ws RX0 TX0 10, w ∈ wsA := fun w h => y_inT ((by decide +kernel : ∀ w ∈ u_ws RX0 TX0 10, w ∈ tables_1) w h) ((by decide +kernel : ∀ w ∈ u_ws RX0 TX0 10, goodWord w = true) w h)
def RX1 : String := "ClauseYardModel"
def TX1 : u_T := fun k => match k with
  | 0 => ("ClauseYardModel", "thrown", "I", false)
  | 1 => ("ClauseYardModel", "tape", "[I", true)
  | 2 => ("ClauseYardModel", "tapeSize", "I", false)
  | 3 => ("ClauseYardModel", "clauses", "I", false)
  | 4 => ("ClauseYardModel", "literals", "[I", true)
  | 5 => ("ClauseYardModel", "sizes", "[I", true)
  | 6 => ("ClauseYardModel", "levels", "[I", true)
  | 7 => ("ClauseYardModel", "level", "I", false)
  | 8 => ("ClauseYardModel", "assumed", "[I", true)
  | 9 => ("ClauseYardModel", "assumptions", "I", false)
  | 10 => ("ClauseYardModel", "model", "I", false)
  | 11 => ("ClauseYardModel", "good", "[J", true)
  | _ => ("ClauseYardModel", "inWord", "[J", true)
def tyX1 : Nat → FieldType := fun k => match k with
  | 0 => .int
  | 1 => .array .int
  | 2 => .int
  | 3 => .int
  | 4 => .array .int
  | 5 => .array .int
  | 6 => .array .int
  | 7 => .int
  | 8 => .array .int
  | 9 => .int
  | 10 => .int
  | 11 => .array .long
  | _ => .array .long
theorem nX1 : ∀ a, a < 13 → ∀ b, b < 13 → a ≠ b → (TX1 a).2.1 ≠ (TX1 b).2.1 := by decide +kernel
theorem tyX1_ok : ∀ k, k < 13 → parseFieldDescriptor (TX1 k).2.2.1 = some (tyX1 k) := by decide +kernel
theorem inX1 : ∀ w ∈ u_ws RX1 TX1 13, w ∈ wsA := fun w h => y_inT ((by decide +kernel : ∀ w ∈ u_ws RX1 TX1 13, w ∈ tables_1) w h) ((by decide +kernel : ∀ w ∈ u_ws RX1 TX1 13, goodWord w = true) w h)
def RX2 : String := "ClauseYard$Search"
def TX2 : u_T := fun k => match k with
  | 0 => ("ClauseYard$Search", "highYes", "[I", true)
  | 1 => ("ClauseYard$Search", "highNo", "[I", true)
  | 2 => ("ClauseYard$Search", "low", "[J", true)
  | 3 => ("ClauseYard$Search", "reasonYes", "[I", true)
  | 4 => ("ClauseYard$Search", "reasonNo", "[I", true)
  | 5 => ("ClauseYard$Search", "blamedYes", "I", false)
  | 6 => ("ClauseYard$Search", "blamedNo", "I", false)
  | _ => ("ClauseYard$Search", "found", "J", false)
def tyX2 : Nat → FieldType := fun k => match k with
  | 0 => .array .int
  | 1 => .array .int
  | 2 => .array .long
  | 3 => .array .int
  | 4 => .array .int
  | 5 => .int
  | 6 => .int
  | _ => .long
theorem nX2 : ∀ a, a < 8 → ∀ b, b < 8 → a ≠ b → (TX2 a).2.1 ≠ (TX2 b).2.1 := by decide +kernel
theorem tyX2_ok : ∀ k, k < 8 → parseFieldDescriptor (TX2 k).2.2.1 = some (tyX2 k) := by decide +kernel
theorem inX2 : ∀ w ∈ u_ws RX2 TX2 8, w ∈ wsA := fun w h => y_inT ((by decide +kernel : ∀ w ∈ u_ws RX2 TX2 8, w ∈ tables_1) w h) ((by decide +kernel : ∀ w ∈ u_ws RX2 TX2 8, goodWord w = true) w h)
def RL : String := "ClauseYardLaw"
def RJL : String := "java/lang/Long"
def RJI : String := "java/lang/Integer"
abbrev vwCl : List vw_C := [(RX0, TX0, 10), (RX1, TX1, 13), (RX2, TX2, 8)]
abbrev cX0_init : ByteArray := prog_1_method_1_code
def yX0_init : MethodName := ⟨RX0, "<init>", "()V"⟩
def wsX0_init : List Cond := .code yX0_init cX0_init 1 none :: wsA
set_option maxRecDepth 100000 in
theorem kX0_init : ∀ w ∈ wsX0_init, w ∈ wsA := y_gM (y_inT (List.mem_of_getElem? (i := 17) rfl) rfl)
abbrev cX2_init : ByteArray := prog_2_method_1_code
def yX2_init : MethodName := ⟨RX2, "<init>", "()V"⟩
def wsX2_init : List Cond := .code yX2_init cX2_init 1 none :: wsA
set_option maxRecDepth 100000 in
theorem kX2_init : ∀ w ∈ wsX2_init, w ∈ wsA := y_gM (y_inT (List.mem_of_getElem? (i := 25) rfl) rfl)
abbrev cX0_free : ByteArray := prog_1_method_7_code
def yX0_free : MethodName := ⟨RX0, "free", "()I"⟩
def wsX0_free : List Cond := .code yX0_free cX0_free 2 (some .int) :: wsA
set_option maxRecDepth 100000 in
theorem kX0_free : ∀ w ∈ wsX0_free, w ∈ wsA := y_gM (y_inT (List.mem_of_getElem? (i := 88) rfl) rfl)
abbrev cX0_least : ByteArray := prog_1_method_8_code
def yX0_least : MethodName := ⟨RX0, "least", "()I"⟩
def wsX0_least : List Cond := .code yX0_least cX0_least 1 (some .int) :: wsA
set_option maxRecDepth 100000 in
theorem kX0_least : ∀ w ∈ wsX0_least, w ∈ wsA := y_gM (y_inT (List.mem_of_getElem? (i := 92) rfl) rfl)
abbrev cX0_writeAssumptions : ByteArray := prog_1_method_19_code
def yX0_writeAssumptions : MethodName := ⟨RX0, "writeAssumptions", "(I)I"⟩
def wsX0_writeAssumptions : List Cond := .code yX0_writeAssumptions cX0_writeAssumptions 4 (some .int) :: wsA
set_option maxRecDepth 100000 in
theorem kX0_writeAssumptions : ∀ w ∈ wsX0_writeAssumptions, w ∈ wsA := y_gM (y_inT (List.mem_of_getElem? (i := 96) rfl) rfl)
abbrev cX0_yesMask : ByteArray := prog_1_method_17_code
def yX0_yesMask : MethodName := ⟨RX0, "yesMask", "(I)I"⟩
def wsX0_yesMask : List Cond := .code yX0_yesMask cX0_yesMask 1 (some .int) :: wsA
set_option maxRecDepth 100000 in
theorem kX0_yesMask : ∀ w ∈ wsX0_yesMask, w ∈ wsA := y_gM (y_inT (List.mem_of_getElem? (i := 99) rfl) rfl)
abbrev cX0_noMask : ByteArray := prog_1_method_18_code
def yX0_noMask : MethodName := ⟨RX0, "noMask", "(I)I"⟩
def wsX0_noMask : List Cond := .code yX0_noMask cX0_noMask 1 (some .int) :: wsA
set_option maxRecDepth 100000 in
theorem kX0_noMask : ∀ w ∈ wsX0_noMask, w ∈ wsA := y_gM (y_inT (List.mem_of_getElem? (i := 102) rfl) rfl)
abbrev cX2_write : ByteArray := prog_2_method_2_code
def yX2_write : MethodName := ⟨RX2, "write", "(III)V"⟩
def wsX2_write : List Cond := .code yX2_write cX2_write 4 none :: wsA
set_option maxRecDepth 100000 in
theorem kX2_write : ∀ w ∈ wsX2_write, w ∈ wsA := y_gM (y_inT (List.mem_of_getElem? (i := 106) rfl) rfl)
abbrev cX2_whereTrue : ByteArray := prog_2_method_7_code
def yX2_whereTrue : MethodName := ⟨RX2, "whereTrue", "(II)J"⟩
def wsX2_whereTrue : List Cond := .code yX2_whereTrue cX2_whereTrue 5 (some .long) :: wsA
set_option maxRecDepth 100000 in
theorem kX2_whereTrue : ∀ w ∈ wsX2_whereTrue, w ∈ wsA := y_gM (y_inT (List.mem_of_getElem? (i := 110) rfl) rfl)
abbrev cX2_writeParts : ByteArray := prog_2_method_6_code
def yX2_writeParts : MethodName := ⟨RX2, "writeParts", "(IIIJ)V"⟩
def wsX2_writeParts : List Cond := .code yX2_writeParts cX2_writeParts 6 none :: wsA
set_option maxRecDepth 100000 in
theorem kX2_writeParts : ∀ w ∈ wsX2_writeParts, w ∈ wsA := y_gM (y_inT (List.mem_of_getElem? (i := 117) rfl) rfl)
abbrev cX2_leastFrom : ByteArray := prog_2_method_3_code
def yX2_leastFrom : MethodName := ⟨RX2, "leastFrom", "(II)I"⟩
def wsX2_leastFrom : List Cond := .code yX2_leastFrom cX2_leastFrom 7 (some .int) :: wsA
set_option maxRecDepth 100000 in
theorem kX2_leastFrom : ∀ w ∈ wsX2_leastFrom, w ∈ wsA := y_gM (y_inT (List.mem_of_getElem? (i := 121) rfl) rfl)
abbrev cX2_giveReasonsOfStart : ByteArray := prog_2_method_8_code
def yX2_giveReasonsOfStart : MethodName := ⟨RX2, "giveReasonsOfStart", "(I)V"⟩
def wsX2_giveReasonsOfStart : List Cond := .code yX2_giveReasonsOfStart cX2_giveReasonsOfStart 3 none :: wsA
set_option maxRecDepth 100000 in
theorem kX2_giveReasonsOfStart : ∀ w ∈ wsX2_giveReasonsOfStart, w ∈ wsA := y_gM (y_inT (List.mem_of_getElem? (i := 126) rfl) rfl)
abbrev cX2_goodByLowAlone : ByteArray := prog_2_method_9_code
def yX2_goodByLowAlone : MethodName := ⟨RX2, "goodByLowAlone", "(I)J"⟩
def wsX2_goodByLowAlone : List Cond := .code yX2_goodByLowAlone cX2_goodByLowAlone 5 (some .long) :: wsA
set_option maxRecDepth 100000 in
theorem kX2_goodByLowAlone : ∀ w ∈ wsX2_goodByLowAlone, w ∈ wsA := y_gM (y_inT (List.mem_of_getElem? (i := 130) rfl) rfl)
abbrev cX2_goodInBlock : ByteArray := prog_2_method_10_code
def yX2_goodInBlock : MethodName := ⟨RX2, "goodInBlock", "(IJI)J"⟩
def wsX2_goodInBlock : List Cond := .code yX2_goodInBlock cX2_goodInBlock 9 (some .long) :: wsA
set_option maxRecDepth 100000 in
theorem kX2_goodInBlock : ∀ w ∈ wsX2_goodInBlock, w ∈ wsA := y_gM (y_inT (List.mem_of_getElem? (i := 134) rfl) rfl)
abbrev cJL_numberOfTrailingZeros : ByteArray := prog_9_method_49_code
def yJL_numberOfTrailingZeros : MethodName := ⟨RJL, "numberOfTrailingZeros", "(J)I"⟩
def wsJL_numberOfTrailingZeros : List Cond := .code yJL_numberOfTrailingZeros cJL_numberOfTrailingZeros 3 (some .int) :: wsA
set_option maxRecDepth 100000 in
theorem kJL_numberOfTrailingZeros : ∀ w ∈ wsJL_numberOfTrailingZeros, w ∈ wsA := y_gM (y_inT (List.mem_of_getElem? (i := 137) rfl) rfl)
abbrev cJI_numberOfTrailingZeros : ByteArray := prog_8_method_48_code
def yJI_numberOfTrailingZeros : MethodName := ⟨RJI, "numberOfTrailingZeros", "(I)I"⟩
def wsJI_numberOfTrailingZeros : List Cond := .code yJI_numberOfTrailingZeros cJI_numberOfTrailingZeros 2 (some .int) :: wsA
set_option maxRecDepth 100000 in
theorem kJI_numberOfTrailingZeros : ∀ w ∈ wsJI_numberOfTrailingZeros, w ∈ wsA := y_gM (y_inT (List.mem_of_getElem? (i := 140) rfl) rfl)
abbrev cX2_leap : ByteArray := prog_2_method_11_code
def yX2_leap : MethodName := ⟨RX2, "leap", "(I)I"⟩
def wsX2_leap : List Cond := .code yX2_leap cX2_leap 6 (some .int) :: wsA
set_option maxRecDepth 100000 in
theorem kX2_leap : ∀ w ∈ wsX2_leap, w ∈ wsA := y_gM (y_inT (List.mem_of_getElem? (i := 145) rfl) rfl)
abbrev cX2_setByReasons : ByteArray := prog_2_method_12_code
def yX2_setByReasons : MethodName := ⟨RX2, "setByReasons", "(I)I"⟩
def wsX2_setByReasons : List Cond := .code yX2_setByReasons cX2_setByReasons 5 (some .int) :: wsA
set_option maxRecDepth 100000 in
theorem kX2_setByReasons : ∀ w ∈ wsX2_setByReasons, w ∈ wsA := y_gM (y_inT (List.mem_of_getElem? (i := 149) rfl) rfl)
abbrev cX0_can : ByteArray := prog_1_method_10_code
def yX0_can : MethodName := ⟨RX0, "can", "()Z"⟩
def wsX0_can : List Cond := .code yX0_can cX0_can 1 (some .boolean) :: wsA
set_option maxRecDepth 100000 in
theorem kX0_can : ∀ w ∈ wsX0_can, w ∈ wsA := y_gM (y_inT (List.mem_of_getElem? (i := 153) rfl) rfl)
abbrev cX0_isSatisfied : ByteArray := prog_1_method_20_code
def yX0_isSatisfied : MethodName := ⟨RX0, "isSatisfied", "(I)Z"⟩
def wsX0_isSatisfied : List Cond := .code yX0_isSatisfied cX0_isSatisfied 2 (some .boolean) :: wsA
set_option maxRecDepth 100000 in
theorem kX0_isSatisfied : ∀ w ∈ wsX0_isSatisfied, w ∈ wsA := y_gM (y_inT (List.mem_of_getElem? (i := 157) rfl) rfl)
abbrev cL_put : ByteArray := method_3_code
def yL_put : MethodName := ⟨RL, "put", "(LClauseYard;I[J)I"⟩
def wsL_put : List Cond := .codeWith yL_put cL_put 4 (some .int) [(0, 9, 12, 13), (0, 9, 15, 15)] :: wsA
set_option maxRecDepth 100000 in
theorem kL_put : ∀ w ∈ wsL_put, w ∈ wsA := y_gM (y_inT (List.mem_of_getElem? (i := 160) rfl) rfl)
abbrev cX0_put : ByteArray := prog_1_method_2_code
def yX0_put : MethodName := ⟨RX0, "put", "(I)I"⟩
def wsX0_put : List Cond := .code yX0_put cX0_put 2 (some .int) :: wsA
set_option maxRecDepth 100000 in
theorem kX0_put : ∀ w ∈ wsX0_put, w ∈ wsA := y_gM (y_inT (List.mem_of_getElem? (i := 166) rfl) rfl)
abbrev cX0_isLiteral : ByteArray := prog_1_method_16_code
def yX0_isLiteral : MethodName := ⟨RX0, "isLiteral", "(I)Z"⟩
def wsX0_isLiteral : List Cond := .code yX0_isLiteral cX0_isLiteral 1 (some .boolean) :: wsA
set_option maxRecDepth 100000 in
theorem kX0_isLiteral : ∀ w ∈ wsX0_isLiteral, w ∈ wsA := y_gM (y_inT (List.mem_of_getElem? (i := 169) rfl) rfl)
abbrev cL_add : ByteArray := method_4_code
def yL_add : MethodName := ⟨RL, "add", "(LClauseYard;[J)I"⟩
def wsL_add : List Cond := .codeWith yL_add cL_add 3 (some .int) [(0, 8, 11, 15)] :: wsA
set_option maxRecDepth 100000 in
theorem kL_add : ∀ w ∈ wsL_add, w ∈ wsA := y_gM (y_inT (List.mem_of_getElem? (i := 256) rfl) rfl)
abbrev cX0_add : ByteArray := prog_1_method_3_code
def yX0_add : MethodName := ⟨RX0, "add", "()I"⟩
def wsX0_add : List Cond := .code yX0_add cX0_add 1 (some .int) :: wsA
set_option maxRecDepth 100000 in
theorem kX0_add : ∀ w ∈ wsX0_add, w ∈ wsA := y_gM (y_inT (List.mem_of_getElem? (i := 260) rfl) rfl)
abbrev cL_open : ByteArray := method_5_code
def yL_open : MethodName := ⟨RL, "open", "(LClauseYard;[J)I"⟩
def wsL_open : List Cond := .codeWith yL_open cL_open 3 (some .int) [(0, 8, 11, 15)] :: wsA
set_option maxRecDepth 100000 in
theorem kL_open : ∀ w ∈ wsL_open, w ∈ wsA := y_gM (y_inT (List.mem_of_getElem? (i := 264) rfl) rfl)
abbrev cX0_open : ByteArray := prog_1_method_4_code
def yX0_open : MethodName := ⟨RX0, "open", "()I"⟩
def wsX0_open : List Cond := .code yX0_open cX0_open 1 (some .int) :: wsA
set_option maxRecDepth 100000 in
theorem kX0_open : ∀ w ∈ wsX0_open, w ∈ wsA := y_gM (y_inT (List.mem_of_getElem? (i := 268) rfl) rfl)
abbrev cL_close : ByteArray := method_6_code
def yL_close : MethodName := ⟨RL, "close", "(LClauseYard;[J)I"⟩
def wsL_close : List Cond := .codeWith yL_close cL_close 3 (some .int) [(0, 8, 11, 15)] :: wsA
set_option maxRecDepth 100000 in
theorem kL_close : ∀ w ∈ wsL_close, w ∈ wsA := y_gM (y_inT (List.mem_of_getElem? (i := 272) rfl) rfl)
abbrev cX0_close : ByteArray := prog_1_method_5_code
def yX0_close : MethodName := ⟨RX0, "close", "()I"⟩
def wsX0_close : List Cond := .code yX0_close cX0_close 2 (some .int) :: wsA
set_option maxRecDepth 100000 in
theorem kX0_close : ∀ w ∈ wsX0_close, w ∈ wsA := y_gM (y_inT (List.mem_of_getElem? (i := 276) rfl) rfl)
abbrev cL_assume : ByteArray := method_7_code
def yL_assume : MethodName := ⟨RL, "assume", "(LClauseYard;I[J)I"⟩
def wsL_assume : List Cond := .codeWith yL_assume cL_assume 4 (some .int) [(0, 9, 12, 13), (0, 9, 15, 15)] :: wsA
set_option maxRecDepth 100000 in
theorem kL_assume : ∀ w ∈ wsL_assume, w ∈ wsA := y_gM (y_inT (List.mem_of_getElem? (i := 280) rfl) rfl)
abbrev cX0_assume : ByteArray := prog_1_method_6_code
def yX0_assume : MethodName := ⟨RX0, "assume", "(I)I"⟩
def wsX0_assume : List Cond := .code yX0_assume cX0_assume 2 (some .int) :: wsA
set_option maxRecDepth 100000 in
theorem kX0_assume : ∀ w ∈ wsX0_assume, w ∈ wsA := y_gM (y_inT (List.mem_of_getElem? (i := 284) rfl) rfl)
abbrev cL_next : ByteArray := method_8_code
def yL_next : MethodName := ⟨RL, "next", "(LClauseYard;[J)I"⟩
def wsL_next : List Cond := .codeWith yL_next cL_next 3 (some .int) [(0, 8, 11, 15)] :: wsA
set_option maxRecDepth 100000 in
theorem kL_next : ∀ w ∈ wsL_next, w ∈ wsA := y_gM (y_inT (List.mem_of_getElem? (i := 288) rfl) rfl)
abbrev cX0_next : ByteArray := prog_1_method_9_code
def yX0_next : MethodName := ⟨RX0, "next", "()I"⟩
def wsX0_next : List Cond := .code yX0_next cX0_next 1 (some .int) :: wsA
set_option maxRecDepth 100000 in
theorem kX0_next : ∀ w ∈ wsX0_next, w ∈ wsA := y_gM (y_inT (List.mem_of_getElem? (i := 292) rfl) rfl)
abbrev cL_forced : ByteArray := method_9_code
def yL_forced : MethodName := ⟨RL, "forced", "(LClauseYard;I[J)I"⟩
def wsL_forced : List Cond := .codeWith yL_forced cL_forced 4 (some .int) [(0, 16, 19, 13)] :: wsA
set_option maxRecDepth 100000 in
theorem kL_forced : ∀ w ∈ wsL_forced, w ∈ wsA := y_gM (y_inT (List.mem_of_getElem? (i := 296) rfl) rfl)
abbrev cX0_forced : ByteArray := prog_1_method_11_code
def yX0_forced : MethodName := ⟨RX0, "forced", "(I)Z"⟩
def wsX0_forced : List Cond := .code yX0_forced cX0_forced 3 (some .boolean) :: wsA
set_option maxRecDepth 100000 in
theorem kX0_forced : ∀ w ∈ wsX0_forced, w ∈ wsA := y_gM (y_inT (List.mem_of_getElem? (i := 300) rfl) rfl)
abbrev cL_blames : ByteArray := method_10_code
def yL_blames : MethodName := ⟨RL, "blames", "(LClauseYard;I[J)I"⟩
def wsL_blames : List Cond := .codeWith yL_blames cL_blames 4 (some .int) [(0, 16, 19, 40)] :: wsA
set_option maxRecDepth 100000 in
theorem kL_blames : ∀ w ∈ wsL_blames, w ∈ wsA := y_gM (y_inT (List.mem_of_getElem? (i := 303) rfl) rfl)
abbrev cX0_blames : ByteArray := prog_1_method_12_code
def yX0_blames : MethodName := ⟨RX0, "blames", "(I)Z"⟩
def wsX0_blames : List Cond := .code yX0_blames cX0_blames 2 (some .boolean) :: wsA
set_option maxRecDepth 100000 in
theorem kX0_blames : ∀ w ∈ wsX0_blames, w ∈ wsA := y_gM (y_inT (List.mem_of_getElem? (i := 308) rfl) rfl)
abbrev cL_count : ByteArray := method_11_code
def yL_count : MethodName := ⟨RL, "count", "(LClauseYard;I[J)I"⟩
def wsL_count : List Cond := .codeWith yL_count cL_count 4 (some .int) [(0, 9, 12, 13)] :: wsA
set_option maxRecDepth 100000 in
theorem kL_count : ∀ w ∈ wsL_count, w ∈ wsA := y_gM (y_inT (List.mem_of_getElem? (i := 327) rfl) rfl)
abbrev cX0_count : ByteArray := prog_1_method_13_code
def yX0_count : MethodName := ⟨RX0, "count", "(I)I"⟩
def wsX0_count : List Cond := .code yX0_count cX0_count 7 (some .int) :: wsA
set_option maxRecDepth 100000 in
theorem kX0_count : ∀ w ∈ wsX0_count, w ∈ wsA := y_gM (y_inT (List.mem_of_getElem? (i := 331) rfl) rfl)
abbrev cX2_foundInBlock : ByteArray := prog_2_method_4_code
def yX2_foundInBlock : MethodName := ⟨RX2, "foundInBlock", "()I"⟩
def wsX2_foundInBlock : List Cond := .code yX2_foundInBlock cX2_foundInBlock 1 (some .int) :: wsA
set_option maxRecDepth 100000 in
theorem kX2_foundInBlock : ∀ w ∈ wsX2_foundInBlock, w ∈ wsA := y_gM (y_inT (List.mem_of_getElem? (i := 336) rfl) rfl)
abbrev cJL_bitCount : ByteArray := prog_9_method_50_code
def yJL_bitCount : MethodName := ⟨RJL, "bitCount", "(J)I"⟩
def wsJL_bitCount : List Cond := .code yJL_bitCount cJL_bitCount 2 (some .int) :: wsA
set_option maxRecDepth 100000 in
theorem kJL_bitCount : ∀ w ∈ wsJL_bitCount, w ∈ wsA := y_gM (y_inT (List.mem_of_getElem? (i := 339) rfl) rfl)
abbrev cX2_nextBlock : ByteArray := prog_2_method_5_code
def yX2_nextBlock : MethodName := ⟨RX2, "nextBlock", "(I)I"⟩
def wsX2_nextBlock : List Cond := .code yX2_nextBlock cX2_nextBlock 1 (some .int) :: wsA
set_option maxRecDepth 100000 in
theorem kX2_nextBlock : ∀ w ∈ wsX2_nextBlock, w ∈ wsA := y_gM (y_inT (List.mem_of_getElem? (i := 345) rfl) rfl)
abbrev cL_value : ByteArray := method_12_code
def yL_value : MethodName := ⟨RL, "value", "(LClauseYard;I[J)I"⟩
def wsL_value : List Cond := .codeWith yL_value cL_value 4 (some .int) [(0, 9, 12, 13), (0, 9, 15, 15)] :: wsA
set_option maxRecDepth 100000 in
theorem kL_value : ∀ w ∈ wsL_value, w ∈ wsA := y_gM (y_inT (List.mem_of_getElem? (i := 351) rfl) rfl)
abbrev cX0_value : ByteArray := prog_1_method_14_code
def yX0_value : MethodName := ⟨RX0, "value", "(I)I"⟩
def wsX0_value : List Cond := .code yX0_value cX0_value 2 (some .int) :: wsA
set_option maxRecDepth 100000 in
theorem kX0_value : ∀ w ∈ wsX0_value, w ∈ wsA := y_gM (y_inT (List.mem_of_getElem? (i := 355) rfl) rfl)
abbrev cL_look : ByteArray := method_13_code
def yL_look : MethodName := ⟨RL, "look", "(LClauseYard;I[J)I"⟩
def wsL_look : List Cond := .codeWith yL_look cL_look 4 (some .int) [(0, 9, 12, 13)] :: wsA
set_option maxRecDepth 100000 in
theorem kL_look : ∀ w ∈ wsL_look, w ∈ wsA := y_gM (y_inT (List.mem_of_getElem? (i := 359) rfl) rfl)
abbrev cX0_look : ByteArray := prog_1_method_15_code
def yX0_look : MethodName := ⟨RX0, "look", "(I)I"⟩
def wsX0_look : List Cond := .code yX0_look cX0_look 2 (some .int) :: wsA
set_option maxRecDepth 100000 in
theorem kX0_look : ∀ w ∈ wsX0_look, w ∈ wsA := y_gM (y_inT (List.mem_of_getElem? (i := 363) rfl) rfl)
abbrev cX1_init : ByteArray := prog_4_method_1_code
def yX1_init : MethodName := ⟨RX1, "<init>", "()V"⟩
def wsX1_init : List Cond := .code yX1_init cX1_init 1 none :: wsA
set_option maxRecDepth 100000 in
theorem kX1_init : ∀ w ∈ wsX1_init, w ∈ wsA := y_gM (y_inT (List.mem_of_getElem? (i := 369) rfl) rfl)
abbrev cX1_renew : ByteArray := prog_4_method_7_code
def yX1_renew : MethodName := ⟨RX1, "renew", "()V"⟩
def wsX1_renew : List Cond := .code yX1_renew cX1_renew 2 none :: wsA
set_option maxRecDepth 100000 in
theorem kX1_renew : ∀ w ∈ wsX1_renew, w ∈ wsA := y_gM (y_inT (List.mem_of_getElem? (i := 380) rfl) rfl)
abbrev cX1_apply : ByteArray := prog_4_method_6_code
def yX1_apply : MethodName := ⟨RX1, "apply", "(I)V"⟩
def wsX1_apply : List Cond := .code yX1_apply cX1_apply 6 none :: wsA
set_option maxRecDepth 100000 in
theorem kX1_apply : ∀ w ∈ wsX1_apply, w ∈ wsA := y_gM (y_inT (List.mem_of_getElem? (i := 385) rfl) rfl)
abbrev cX1_truth : ByteArray := prog_4_method_5_code
def yX1_truth : MethodName := ⟨RX1, "truth", "(II)J"⟩
def wsX1_truth : List Cond := .code yX1_truth cX1_truth 6 (some .long) :: wsA
set_option maxRecDepth 100000 in
theorem kX1_truth : ∀ w ∈ wsX1_truth, w ∈ wsA := y_gM (y_inT (List.mem_of_getElem? (i := 389) rfl) rfl)
abbrev cX1_thrown : ByteArray := prog_4_method_2_code
def yX1_thrown : MethodName := ⟨RX1, "thrown", "()I"⟩
def wsX1_thrown : List Cond := .code yX1_thrown cX1_thrown 1 (some .int) :: wsA
set_option maxRecDepth 100000 in
theorem kX1_thrown : ∀ w ∈ wsX1_thrown, w ∈ wsA := y_gM (y_inT (List.mem_of_getElem? (i := 433) rfl) rfl)
abbrev cX1_put : ByteArray := prog_4_method_11_code
def yX1_put : MethodName := ⟨RX1, "put", "(I)I"⟩
def wsX1_put : List Cond := .code yX1_put cX1_put 2 (some .int) :: wsA
set_option maxRecDepth 100000 in
theorem kX1_put : ∀ w ∈ wsX1_put, w ∈ wsA := y_gM (y_inT (List.mem_of_getElem? (i := 437) rfl) rfl)
abbrev cX1_isLiteral : ByteArray := prog_4_method_4_code
def yX1_isLiteral : MethodName := ⟨RX1, "isLiteral", "(I)Z"⟩
def wsX1_isLiteral : List Cond := .code yX1_isLiteral cX1_isLiteral 1 (some .boolean) :: wsA
set_option maxRecDepth 100000 in
theorem kX1_isLiteral : ∀ w ∈ wsX1_isLiteral, w ∈ wsA := y_gM (y_inT (List.mem_of_getElem? (i := 440) rfl) rfl)
abbrev cX1_throwing : ByteArray := prog_4_method_3_code
def yX1_throwing : MethodName := ⟨RX1, "throwing", "(ZZ)Z"⟩
def wsX1_throwing : List Cond := .code yX1_throwing cX1_throwing 3 (some .boolean) :: wsA
set_option maxRecDepth 100000 in
theorem kX1_throwing : ∀ w ∈ wsX1_throwing, w ∈ wsA := y_gM (y_inT (List.mem_of_getElem? (i := 444) rfl) rfl)
abbrev cX1_add : ByteArray := prog_4_method_12_code
def yX1_add : MethodName := ⟨RX1, "add", "()I"⟩
def wsX1_add : List Cond := .code yX1_add cX1_add 2 (some .int) :: wsA
set_option maxRecDepth 100000 in
theorem kX1_add : ∀ w ∈ wsX1_add, w ∈ wsA := y_gM (y_inT (List.mem_of_getElem? (i := 448) rfl) rfl)
abbrev cX1_open : ByteArray := prog_4_method_13_code
def yX1_open : MethodName := ⟨RX1, "open", "()I"⟩
def wsX1_open : List Cond := .code yX1_open cX1_open 1 (some .int) :: wsA
set_option maxRecDepth 100000 in
theorem kX1_open : ∀ w ∈ wsX1_open, w ∈ wsA := y_gM (y_inT (List.mem_of_getElem? (i := 452) rfl) rfl)
abbrev cX1_close : ByteArray := prog_4_method_14_code
def yX1_close : MethodName := ⟨RX1, "close", "()I"⟩
def wsX1_close : List Cond := .code yX1_close cX1_close 2 (some .int) :: wsA
set_option maxRecDepth 100000 in
theorem kX1_close : ∀ w ∈ wsX1_close, w ∈ wsA := y_gM (y_inT (List.mem_of_getElem? (i := 456) rfl) rfl)
abbrev cX1_assume : ByteArray := prog_4_method_15_code
def yX1_assume : MethodName := ⟨RX1, "assume", "(I)I"⟩
def wsX1_assume : List Cond := .code yX1_assume cX1_assume 2 (some .int) :: wsA
set_option maxRecDepth 100000 in
theorem kX1_assume : ∀ w ∈ wsX1_assume, w ∈ wsA := y_gM (y_inT (List.mem_of_getElem? (i := 460) rfl) rfl)
abbrev cX1_free : ByteArray := prog_4_method_16_code
def yX1_free : MethodName := ⟨RX1, "free", "()I"⟩
def wsX1_free : List Cond := .code yX1_free cX1_free 2 (some .int) :: wsA
set_option maxRecDepth 100000 in
theorem kX1_free : ∀ w ∈ wsX1_free, w ∈ wsA := y_gM (y_inT (List.mem_of_getElem? (i := 464) rfl) rfl)
abbrev cX1_least : ByteArray := prog_4_method_17_code
def yX1_least : MethodName := ⟨RX1, "least", "()I"⟩
def wsX1_least : List Cond := .code yX1_least cX1_least 1 (some .int) :: wsA
set_option maxRecDepth 100000 in
theorem kX1_least : ∀ w ∈ wsX1_least, w ∈ wsA := y_gM (y_inT (List.mem_of_getElem? (i := 468) rfl) rfl)
abbrev cX1_from : ByteArray := prog_4_method_10_code
def yX1_from : MethodName := ⟨RX1, "from", "(I)I"⟩
def wsX1_from : List Cond := .code yX1_from cX1_from 6 (some .int) :: wsA
set_option maxRecDepth 100000 in
theorem kX1_from : ∀ w ∈ wsX1_from, w ∈ wsA := y_gM (y_inT (List.mem_of_getElem? (i := 472) rfl) rfl)
abbrev cX1_word : ByteArray := prog_4_method_8_code
def yX1_word : MethodName := ⟨RX1, "word", "(II)J"⟩
def wsX1_word : List Cond := .code yX1_word cX1_word 6 (some .long) :: wsA
set_option maxRecDepth 100000 in
theorem kX1_word : ∀ w ∈ wsX1_word, w ∈ wsA := y_gM (y_inT (List.mem_of_getElem? (i := 476) rfl) rfl)
abbrev cX1_next : ByteArray := prog_4_method_18_code
def yX1_next : MethodName := ⟨RX1, "next", "()I"⟩
def wsX1_next : List Cond := .code yX1_next cX1_next 1 (some .int) :: wsA
set_option maxRecDepth 100000 in
theorem kX1_next : ∀ w ∈ wsX1_next, w ∈ wsA := y_gM (y_inT (List.mem_of_getElem? (i := 480) rfl) rfl)
abbrev cX1_can : ByteArray := prog_4_method_19_code
def yX1_can : MethodName := ⟨RX1, "can", "()Z"⟩
def wsX1_can : List Cond := .code yX1_can cX1_can 1 (some .boolean) :: wsA
set_option maxRecDepth 100000 in
theorem kX1_can : ∀ w ∈ wsX1_can, w ∈ wsA := y_gM (y_inT (List.mem_of_getElem? (i := 484) rfl) rfl)
abbrev cX1_some : ByteArray := prog_4_method_9_code
def yX1_some : MethodName := ⟨RX1, "some", "(I)Z"⟩
def wsX1_some : List Cond := .code yX1_some cX1_some 4 (some .boolean) :: wsA
set_option maxRecDepth 100000 in
theorem kX1_some : ∀ w ∈ wsX1_some, w ∈ wsA := y_gM (y_inT (List.mem_of_getElem? (i := 488) rfl) rfl)
abbrev cX1_forced : ByteArray := prog_4_method_20_code
def yX1_forced : MethodName := ⟨RX1, "forced", "(I)Z"⟩
def wsX1_forced : List Cond := .code yX1_forced cX1_forced 4 (some .boolean) :: wsA
set_option maxRecDepth 100000 in
theorem kX1_forced : ∀ w ∈ wsX1_forced, w ∈ wsA := y_gM (y_inT (List.mem_of_getElem? (i := 492) rfl) rfl)
abbrev cX1_blames : ByteArray := prog_4_method_21_code
def yX1_blames : MethodName := ⟨RX1, "blames", "(I)Z"⟩
def wsX1_blames : List Cond := .code yX1_blames cX1_blames 2 (some .boolean) :: wsA
set_option maxRecDepth 100000 in
theorem kX1_blames : ∀ w ∈ wsX1_blames, w ∈ wsA := y_gM (y_inT (List.mem_of_getElem? (i := 496) rfl) rfl)
abbrev cX1_count : ByteArray := prog_4_method_22_code
def yX1_count : MethodName := ⟨RX1, "count", "(I)I"⟩
def wsX1_count : List Cond := .code yX1_count cX1_count 7 (some .int) :: wsA
set_option maxRecDepth 100000 in
theorem kX1_count : ∀ w ∈ wsX1_count, w ∈ wsA := y_gM (y_inT (List.mem_of_getElem? (i := 500) rfl) rfl)
abbrev cX1_value : ByteArray := prog_4_method_23_code
def yX1_value : MethodName := ⟨RX1, "value", "(I)I"⟩
def wsX1_value : List Cond := .code yX1_value cX1_value 2 (some .int) :: wsA
set_option maxRecDepth 100000 in
theorem kX1_value : ∀ w ∈ wsX1_value, w ∈ wsA := y_gM (y_inT (List.mem_of_getElem? (i := 504) rfl) rfl)
abbrev cX1_look : ByteArray := prog_4_method_24_code
def yX1_look : MethodName := ⟨RX1, "look", "(I)I"⟩
def wsX1_look : List Cond := .code yX1_look cX1_look 2 (some .int) :: wsA
set_option maxRecDepth 100000 in
theorem kX1_look : ∀ w ∈ wsX1_look, w ∈ wsA := y_gM (y_inT (List.mem_of_getElem? (i := 508) rfl) rfl)
abbrev cL_law : ByteArray := code
theorem ini_ClauseYardLaw : Cond.initialized RL ∈ wsA := y_inT (List.mem_of_getElem? (i := 0) (by decide +kernel)) rfl
theorem ini_ClauseYard : Cond.initialized RX0 ∈ wsA := y_inT (List.mem_of_getElem? (i := 1) (by decide +kernel)) rfl
theorem ini_ClauseYard_Search : Cond.initialized RX2 ∈ wsA := y_inT (List.mem_of_getElem? (i := 2) (by decide +kernel)) rfl
theorem ini_ClauseYardModel : Cond.initialized RX1 ∈ wsA := y_inT (List.mem_of_getElem? (i := 3) (by decide +kernel)) rfl
theorem ini_Throwable : Cond.initialized "java/lang/Throwable" ∈ wsA := y_inT (List.mem_of_getElem? (i := 4) (by decide +kernel)) rfl
theorem ini_Exception : Cond.initialized "java/lang/Exception" ∈ wsA := y_inT (List.mem_of_getElem? (i := 5) (by decide +kernel)) rfl
theorem ini_RuntimeException : Cond.initialized "java/lang/RuntimeException" ∈ wsA := y_inT (List.mem_of_getElem? (i := 6) (by decide +kernel)) rfl
theorem ini_IllegalArgumentException : Cond.initialized "java/lang/IllegalArgumentException" ∈ wsA := y_inT (List.mem_of_getElem? (i := 7) (by decide +kernel)) rfl
theorem ini_IllegalStateException : Cond.initialized "java/lang/IllegalStateException" ∈ wsA := y_inT (List.mem_of_getElem? (i := 8) (by decide +kernel)) rfl
theorem ini_Long : Cond.initialized RJL ∈ wsA := y_inT (List.mem_of_getElem? (i := 9) (by decide +kernel)) rfl
theorem ini_Integer : Cond.initialized RJI ∈ wsA := y_inT (List.mem_of_getElem? (i := 10) (by decide +kernel)) rfl
theorem ini_NoSuchElementException : Cond.initialized "java/util/NoSuchElementException" ∈ wsA := y_inT (List.mem_of_getElem? (i := 11) (by decide +kernel)) rfl
theorem ini_Math : Cond.initialized "java/lang/Math" ∈ wsA := y_inT (List.mem_of_getElem? (i := 12) (by decide +kernel)) rfl
theorem lkL_8 : Cond.classLink RL 8 RX0 ∈ wsA := y_inT (List.mem_of_getElem? (i := 13) (by decide +kernel)) rfl
theorem ist_ClauseYard : Cond.instantiable RX0 10 ∈ wsA := y_inT (List.mem_of_getElem? (i := 14) (by decide +kernel)) rfl
theorem lkL_51 : Cond.methodLink RL 51 yX0_init ∈ wsA := y_inT (List.mem_of_getElem? (i := 15) (by decide +kernel)) rfl
theorem im_X0_init : Cond.instanceMethod yX0_init ∈ wsA := y_inT (List.mem_of_getElem? (i := 16) (by decide +kernel)) rfl
theorem gL_51 : GoodIn wsA wsX0_init := y_gA kX0_init
theorem lkX0_3 : Cond.methodLink RX0 3 objectInit ∈ wsA := y_inT (List.mem_of_getElem? (i := 18) (by decide +kernel)) rfl
theorem lkX0_9 : Cond.classLink RX0 9 RX2 ∈ wsA := y_inT (List.mem_of_getElem? (i := 21) (by decide +kernel)) rfl
theorem ist_ClauseYard_Search : Cond.instantiable RX2 8 ∈ wsA := y_inT (List.mem_of_getElem? (i := 22) (by decide +kernel)) rfl
theorem lkX2_5 : Cond.methodLink RX2 5 objectInit ∈ wsA := y_inT (List.mem_of_getElem? (i := 26) (by decide +kernel)) rfl
theorem lkX2_11 : Cond.fieldLink RX2 11 "ClauseYard$Search" "highYes" "[I" ∈ wsA := y_inT (List.mem_of_getElem? (i := 27) (by decide +kernel)) rfl
theorem lkX2_15 : Cond.fieldLink RX2 15 "ClauseYard$Search" "highNo" "[I" ∈ wsA := y_inT (List.mem_of_getElem? (i := 28) (by decide +kernel)) rfl
theorem lkX2_18 : Cond.fieldLink RX2 18 "ClauseYard$Search" "low" "[J" ∈ wsA := y_inT (List.mem_of_getElem? (i := 29) (by decide +kernel)) rfl
theorem lkX2_22 : Cond.fieldLink RX2 22 "ClauseYard$Search" "reasonYes" "[I" ∈ wsA := y_inT (List.mem_of_getElem? (i := 30) (by decide +kernel)) rfl
theorem lkX2_25 : Cond.fieldLink RX2 25 "ClauseYard$Search" "reasonNo" "[I" ∈ wsA := y_inT (List.mem_of_getElem? (i := 31) (by decide +kernel)) rfl
theorem lkX2_75 : Cond.fieldLink RX2 75 "ClauseYard$Search" "blamedYes" "I" ∈ wsA := y_inT (List.mem_of_getElem? (i := 32) (by decide +kernel)) rfl
theorem lkX2_79 : Cond.fieldLink RX2 79 "ClauseYard$Search" "blamedNo" "I" ∈ wsA := y_inT (List.mem_of_getElem? (i := 33) (by decide +kernel)) rfl
theorem lkX2_52 : Cond.fieldLink RX2 52 "ClauseYard$Search" "found" "J" ∈ wsA := y_inT (List.mem_of_getElem? (i := 34) (by decide +kernel)) rfl
theorem ac_int : Cond.arrayClass .int ∈ wsA := y_inT (List.mem_of_getElem? (i := 52) (by decide +kernel)) rfl
theorem ac_long : Cond.arrayClass .long ∈ wsA := y_inT (List.mem_of_getElem? (i := 53) (by decide +kernel)) rfl
theorem lkX0_12 : Cond.fieldLink RX0 12 "ClauseYard" "search" "LClauseYard$Search;" ∈ wsA := y_inT (List.mem_of_getElem? (i := 54) (by decide +kernel)) rfl
theorem lkX0_16 : Cond.fieldLink RX0 16 "ClauseYard" "clausesBelow" "[I" ∈ wsA := y_inT (List.mem_of_getElem? (i := 55) (by decide +kernel)) rfl
theorem lkX0_20 : Cond.fieldLink RX0 20 "ClauseYard" "assumptions" "[I" ∈ wsA := y_inT (List.mem_of_getElem? (i := 56) (by decide +kernel)) rfl
theorem lkX0_59 : Cond.fieldLink RX0 59 "ClauseYard" "clauseCount" "I" ∈ wsA := y_inT (List.mem_of_getElem? (i := 57) (by decide +kernel)) rfl
theorem lkX0_68 : Cond.fieldLink RX0 68 "ClauseYard" "level" "I" ∈ wsA := y_inT (List.mem_of_getElem? (i := 58) (by decide +kernel)) rfl
theorem lkX0_75 : Cond.fieldLink RX0 75 "ClauseYard" "assumptionCount" "I" ∈ wsA := y_inT (List.mem_of_getElem? (i := 59) (by decide +kernel)) rfl
theorem lkX0_38 : Cond.fieldLink RX0 38 "ClauseYard" "tapeCount" "I" ∈ wsA := y_inT (List.mem_of_getElem? (i := 60) (by decide +kernel)) rfl
theorem lkX0_46 : Cond.fieldLink RX0 46 "ClauseYard" "tapeYes" "I" ∈ wsA := y_inT (List.mem_of_getElem? (i := 61) (by decide +kernel)) rfl
theorem lkX0_53 : Cond.fieldLink RX0 53 "ClauseYard" "tapeNo" "I" ∈ wsA := y_inT (List.mem_of_getElem? (i := 62) (by decide +kernel)) rfl
theorem lkX0_23 : Cond.fieldLink RX0 23 "ClauseYard" "model" "I" ∈ wsA := y_inT (List.mem_of_getElem? (i := 63) (by decide +kernel)) rfl
theorem lkL_77 : Cond.methodLink RL 77 yX0_free ∈ wsA := y_inT (List.mem_of_getElem? (i := 85) (by decide +kernel)) rfl
theorem gL_77 : GoodIn wsA (wsV RL 77 RX0 yX0_free wsX0_free) := y_gV lkL_77 (y_inT (List.mem_of_getElem? (i := 86) (by decide +kernel)) rfl) (y_inT (List.mem_of_getElem? (i := 87) (by decide +kernel)) rfl) ini_ClauseYard kX0_free
theorem lkL_81 : Cond.methodLink RL 81 yX0_least ∈ wsA := y_inT (List.mem_of_getElem? (i := 89) (by decide +kernel)) rfl
theorem gL_81 : GoodIn wsA (wsV RL 81 RX0 yX0_least wsX0_least) := y_gV lkL_81 (y_inT (List.mem_of_getElem? (i := 90) (by decide +kernel)) rfl) (y_inT (List.mem_of_getElem? (i := 91) (by decide +kernel)) rfl) ini_ClauseYard kX0_least
theorem lkX0_80 : Cond.methodLink RX0 80 yX0_writeAssumptions ∈ wsA := y_inT (List.mem_of_getElem? (i := 93) (by decide +kernel)) rfl
theorem gX0_80 : GoodIn wsA (wsV RX0 80 RX0 yX0_writeAssumptions wsX0_writeAssumptions) := y_gV lkX0_80 (y_inT (List.mem_of_getElem? (i := 95) (by decide +kernel)) rfl) (y_inA (by decide +kernel) rfl) ini_ClauseYard kX0_writeAssumptions
theorem lkX0_49 : Cond.methodLink RX0 49 yX0_yesMask ∈ wsA := y_inT (List.mem_of_getElem? (i := 97) (by decide +kernel)) rfl
theorem gX0_49 : GoodIn wsA (va_wsS RX0 49 yX0_yesMask wsX0_yesMask) := y_gS lkX0_49 (y_inT (List.mem_of_getElem? (i := 98) (by decide +kernel)) rfl) ini_ClauseYard kX0_yesMask
theorem lkX0_56 : Cond.methodLink RX0 56 yX0_noMask ∈ wsA := y_inT (List.mem_of_getElem? (i := 100) (by decide +kernel)) rfl
theorem gX0_56 : GoodIn wsA (va_wsS RX0 56 yX0_noMask wsX0_noMask) := y_gS lkX0_56 (y_inT (List.mem_of_getElem? (i := 101) (by decide +kernel)) rfl) ini_ClauseYard kX0_noMask
theorem lkX0_64 : Cond.methodLink RX0 64 yX2_write ∈ wsA := y_inT (List.mem_of_getElem? (i := 103) (by decide +kernel)) rfl
theorem gX0_64 : GoodIn wsA (wsV RX0 64 RX2 yX2_write wsX2_write) := y_gV lkX0_64 (y_inT (List.mem_of_getElem? (i := 104) (by decide +kernel)) rfl) (y_inT (List.mem_of_getElem? (i := 105) (by decide +kernel)) rfl) ini_ClauseYard_Search kX2_write
theorem lkX2_28 : Cond.constant RX2 28 (262080 : Int32) ∈ wsA := y_inT (List.mem_of_getElem? (i := 107) (by decide +kernel)) rfl
theorem lkX2_29 : Cond.methodLink RX2 29 yX2_whereTrue ∈ wsA := y_inT (List.mem_of_getElem? (i := 108) (by decide +kernel)) rfl
theorem gX2_29 : GoodIn wsA (va_wsS RX2 29 yX2_whereTrue wsX2_whereTrue) := y_gS lkX2_29 (y_inT (List.mem_of_getElem? (i := 109) (by decide +kernel)) rfl) ini_ClauseYard_Search kX2_whereTrue
theorem lkX2_72 : Cond.fieldLink RX2 72 "ClauseYard$Search" "WHERE_ONE" "[J" ∈ wsA := y_inT (List.mem_of_getElem? (i := 111) (by decide +kernel)) rfl
theorem lkX2_42 : Cond.constantLong RX2 42 (-1 : Int64) ∈ wsA := y_inT (List.mem_of_getElem? (i := 113) (by decide +kernel)) rfl
theorem lkX2_33 : Cond.methodLink RX2 33 yX2_writeParts ∈ wsA := y_inT (List.mem_of_getElem? (i := 114) (by decide +kernel)) rfl
theorem gX2_33 : GoodIn wsA (wsV RX2 33 RX2 yX2_writeParts wsX2_writeParts) := y_gV lkX2_33 (y_inT (List.mem_of_getElem? (i := 116) (by decide +kernel)) rfl) (y_inA (by decide +kernel) rfl) ini_ClauseYard_Search kX2_writeParts
theorem lkX0_83 : Cond.methodLink RX0 83 yX2_leastFrom ∈ wsA := y_inT (List.mem_of_getElem? (i := 118) (by decide +kernel)) rfl
theorem gX0_83 : GoodIn wsA (wsV RX0 83 RX2 yX2_leastFrom wsX2_leastFrom) := y_gV lkX0_83 (y_inT (List.mem_of_getElem? (i := 119) (by decide +kernel)) rfl) (y_inT (List.mem_of_getElem? (i := 120) (by decide +kernel)) rfl) ini_ClauseYard_Search kX2_leastFrom
theorem lkX2_37 : Cond.constant RX2 37 (262143 : Int32) ∈ wsA := y_inT (List.mem_of_getElem? (i := 122) (by decide +kernel)) rfl
theorem lkX2_38 : Cond.methodLink RX2 38 yX2_giveReasonsOfStart ∈ wsA := y_inT (List.mem_of_getElem? (i := 123) (by decide +kernel)) rfl
theorem gX2_38 : GoodIn wsA (wsV RX2 38 RX2 yX2_giveReasonsOfStart wsX2_giveReasonsOfStart) := y_gV lkX2_38 (y_inT (List.mem_of_getElem? (i := 125) (by decide +kernel)) rfl) (y_inA (by decide +kernel) rfl) ini_ClauseYard_Search kX2_giveReasonsOfStart
theorem lkX2_44 : Cond.methodLink RX2 44 yX2_goodByLowAlone ∈ wsA := y_inT (List.mem_of_getElem? (i := 127) (by decide +kernel)) rfl
theorem gX2_44 : GoodIn wsA (wsV RX2 44 RX2 yX2_goodByLowAlone wsX2_goodByLowAlone) := y_gV lkX2_44 (y_inT (List.mem_of_getElem? (i := 129) (by decide +kernel)) rfl) (y_inA (by decide +kernel) rfl) ini_ClauseYard_Search kX2_goodByLowAlone
theorem lkX2_48 : Cond.methodLink RX2 48 yX2_goodInBlock ∈ wsA := y_inT (List.mem_of_getElem? (i := 131) (by decide +kernel)) rfl
theorem gX2_48 : GoodIn wsA (wsV RX2 48 RX2 yX2_goodInBlock wsX2_goodInBlock) := y_gV lkX2_48 (y_inT (List.mem_of_getElem? (i := 133) (by decide +kernel)) rfl) (y_inA (by decide +kernel) rfl) ini_ClauseYard_Search kX2_goodInBlock
theorem lkX2_56 : Cond.methodLink RX2 56 yJL_numberOfTrailingZeros ∈ wsA := y_inT (List.mem_of_getElem? (i := 135) (by decide +kernel)) rfl
theorem gX2_56 : GoodIn wsA (va_wsS RX2 56 yJL_numberOfTrailingZeros wsJL_numberOfTrailingZeros) := y_gS lkX2_56 (y_inT (List.mem_of_getElem? (i := 136) (by decide +kernel)) rfl) ini_Long kJL_numberOfTrailingZeros
theorem lkJL_311 : Cond.methodLink RJL 311 yJI_numberOfTrailingZeros ∈ wsA := y_inT (List.mem_of_getElem? (i := 138) (by decide +kernel)) rfl
theorem gJL_311 : GoodIn wsA (va_wsS RJL 311 yJI_numberOfTrailingZeros wsJI_numberOfTrailingZeros) := y_gS lkJL_311 (y_inT (List.mem_of_getElem? (i := 139) (by decide +kernel)) rfl) ini_Integer kJI_numberOfTrailingZeros
theorem lkJI_264 : Cond.constant RJI 264 (65536 : Int32) ∈ wsA := y_inT (List.mem_of_getElem? (i := 141) (by decide +kernel)) rfl
theorem lkX2_62 : Cond.methodLink RX2 62 yX2_leap ∈ wsA := y_inT (List.mem_of_getElem? (i := 142) (by decide +kernel)) rfl
theorem gX2_62 : GoodIn wsA (wsV RX2 62 RX2 yX2_leap wsX2_leap) := y_gV lkX2_62 (y_inT (List.mem_of_getElem? (i := 144) (by decide +kernel)) rfl) (y_inA (by decide +kernel) rfl) ini_ClauseYard_Search kX2_leap
theorem lkX2_66 : Cond.methodLink RX2 66 yX2_setByReasons ∈ wsA := y_inT (List.mem_of_getElem? (i := 146) (by decide +kernel)) rfl
theorem gX2_66 : GoodIn wsA (wsV RX2 66 RX2 yX2_setByReasons wsX2_setByReasons) := y_gV lkX2_66 (y_inT (List.mem_of_getElem? (i := 148) (by decide +kernel)) rfl) (y_inA (by decide +kernel) rfl) ini_ClauseYard_Search kX2_setByReasons
theorem lkL_88 : Cond.methodLink RL 88 yX0_can ∈ wsA := y_inT (List.mem_of_getElem? (i := 150) (by decide +kernel)) rfl
theorem gL_88 : GoodIn wsA (wsV RL 88 RX0 yX0_can wsX0_can) := y_gV lkL_88 (y_inT (List.mem_of_getElem? (i := 151) (by decide +kernel)) rfl) (y_inT (List.mem_of_getElem? (i := 152) (by decide +kernel)) rfl) ini_ClauseYard kX0_can
theorem lkX0_89 : Cond.methodLink RX0 89 yX0_isSatisfied ∈ wsA := y_inT (List.mem_of_getElem? (i := 154) (by decide +kernel)) rfl
theorem gX0_89 : GoodIn wsA (wsV RX0 89 RX0 yX0_isSatisfied wsX0_isSatisfied) := y_gV lkX0_89 (y_inT (List.mem_of_getElem? (i := 156) (by decide +kernel)) rfl) (y_inA (by decide +kernel) rfl) ini_ClauseYard kX0_isSatisfied
theorem lkL_55 : Cond.methodLink RL 55 yL_put ∈ wsA := y_inT (List.mem_of_getElem? (i := 158) (by decide +kernel)) rfl
theorem gL_55 : GoodIn wsA (va_wsS RL 55 yL_put wsL_put) := y_gS lkL_55 (y_inT (List.mem_of_getElem? (i := 159) (by decide +kernel)) rfl) ini_ClauseYardLaw kL_put
theorem lkL_13 : Cond.classLink RL 13 "java/lang/IllegalArgumentException" ∈ wsA := y_inT (List.mem_of_getElem? (i := 161) (by decide +kernel)) rfl
theorem lkL_15 : Cond.classLink RL 15 "java/lang/IllegalStateException" ∈ wsA := y_inT (List.mem_of_getElem? (i := 162) (by decide +kernel)) rfl
theorem lkL_7 : Cond.methodLink RL 7 yX0_put ∈ wsA := y_inT (List.mem_of_getElem? (i := 163) (by decide +kernel)) rfl
theorem gL_7 : GoodIn wsA (wsV RL 7 RX0 yX0_put wsX0_put) := y_gV lkL_7 (y_inT (List.mem_of_getElem? (i := 164) (by decide +kernel)) rfl) (y_inT (List.mem_of_getElem? (i := 165) (by decide +kernel)) rfl) ini_ClauseYard kX0_put
theorem lkX0_27 : Cond.methodLink RX0 27 yX0_isLiteral ∈ wsA := y_inT (List.mem_of_getElem? (i := 167) (by decide +kernel)) rfl
theorem gX0_27 : GoodIn wsA (va_wsS RX0 27 yX0_isLiteral wsX0_isLiteral) := y_gS lkX0_27 (y_inT (List.mem_of_getElem? (i := 168) (by decide +kernel)) rfl) ini_ClauseYard kX0_isLiteral
theorem lkX0_31 : Cond.classLink RX0 31 "java/lang/IllegalArgumentException" ∈ wsA := y_inT (List.mem_of_getElem? (i := 170) (by decide +kernel)) rfl
theorem ist_IllegalArgumentException : Cond.instantiable "java/lang/IllegalArgumentException" 6 ∈ wsA := y_inT (List.mem_of_getElem? (i := 171) (by decide +kernel)) rfl
theorem ist_Throwable : Cond.instantiable "java/lang/Throwable" 6 ∈ wsA := y_inT (List.mem_of_getElem? (i := 209) (by decide +kernel)) rfl
theorem ac_byte : Cond.arrayClass .byte ∈ wsA := y_inT (List.mem_of_getElem? (i := 237) (by decide +kernel)) rfl
theorem lkX0_41 : Cond.classLink RX0 41 "java/lang/IllegalStateException" ∈ wsA := y_inT (List.mem_of_getElem? (i := 238) (by decide +kernel)) rfl
theorem ist_IllegalStateException : Cond.instantiable "java/lang/IllegalStateException" 6 ∈ wsA := y_inT (List.mem_of_getElem? (i := 239) (by decide +kernel)) rfl
theorem lkL_64 : Cond.methodLink RL 64 yL_add ∈ wsA := y_inT (List.mem_of_getElem? (i := 254) (by decide +kernel)) rfl
theorem gL_64 : GoodIn wsA (va_wsS RL 64 yL_add wsL_add) := y_gS lkL_64 (y_inT (List.mem_of_getElem? (i := 255) (by decide +kernel)) rfl) ini_ClauseYardLaw kL_add
theorem lkL_17 : Cond.methodLink RL 17 yX0_add ∈ wsA := y_inT (List.mem_of_getElem? (i := 257) (by decide +kernel)) rfl
theorem gL_17 : GoodIn wsA (wsV RL 17 RX0 yX0_add wsX0_add) := y_gV lkL_17 (y_inT (List.mem_of_getElem? (i := 258) (by decide +kernel)) rfl) (y_inT (List.mem_of_getElem? (i := 259) (by decide +kernel)) rfl) ini_ClauseYard kX0_add
theorem lkL_68 : Cond.methodLink RL 68 yL_open ∈ wsA := y_inT (List.mem_of_getElem? (i := 262) (by decide +kernel)) rfl
theorem gL_68 : GoodIn wsA (va_wsS RL 68 yL_open wsL_open) := y_gS lkL_68 (y_inT (List.mem_of_getElem? (i := 263) (by decide +kernel)) rfl) ini_ClauseYardLaw kL_open
theorem lkL_21 : Cond.methodLink RL 21 yX0_open ∈ wsA := y_inT (List.mem_of_getElem? (i := 265) (by decide +kernel)) rfl
theorem gL_21 : GoodIn wsA (wsV RL 21 RX0 yX0_open wsX0_open) := y_gV lkL_21 (y_inT (List.mem_of_getElem? (i := 266) (by decide +kernel)) rfl) (y_inT (List.mem_of_getElem? (i := 267) (by decide +kernel)) rfl) ini_ClauseYard kX0_open
theorem lkL_71 : Cond.methodLink RL 71 yL_close ∈ wsA := y_inT (List.mem_of_getElem? (i := 270) (by decide +kernel)) rfl
theorem gL_71 : GoodIn wsA (va_wsS RL 71 yL_close wsL_close) := y_gS lkL_71 (y_inT (List.mem_of_getElem? (i := 271) (by decide +kernel)) rfl) ini_ClauseYardLaw kL_close
theorem lkL_24 : Cond.methodLink RL 24 yX0_close ∈ wsA := y_inT (List.mem_of_getElem? (i := 273) (by decide +kernel)) rfl
theorem gL_24 : GoodIn wsA (wsV RL 24 RX0 yX0_close wsX0_close) := y_gV lkL_24 (y_inT (List.mem_of_getElem? (i := 274) (by decide +kernel)) rfl) (y_inT (List.mem_of_getElem? (i := 275) (by decide +kernel)) rfl) ini_ClauseYard kX0_close
theorem lkL_74 : Cond.methodLink RL 74 yL_assume ∈ wsA := y_inT (List.mem_of_getElem? (i := 278) (by decide +kernel)) rfl
theorem gL_74 : GoodIn wsA (va_wsS RL 74 yL_assume wsL_assume) := y_gS lkL_74 (y_inT (List.mem_of_getElem? (i := 279) (by decide +kernel)) rfl) ini_ClauseYardLaw kL_assume
theorem lkL_27 : Cond.methodLink RL 27 yX0_assume ∈ wsA := y_inT (List.mem_of_getElem? (i := 281) (by decide +kernel)) rfl
theorem gL_27 : GoodIn wsA (wsV RL 27 RX0 yX0_assume wsX0_assume) := y_gV lkL_27 (y_inT (List.mem_of_getElem? (i := 282) (by decide +kernel)) rfl) (y_inT (List.mem_of_getElem? (i := 283) (by decide +kernel)) rfl) ini_ClauseYard kX0_assume
theorem lkL_85 : Cond.methodLink RL 85 yL_next ∈ wsA := y_inT (List.mem_of_getElem? (i := 286) (by decide +kernel)) rfl
theorem gL_85 : GoodIn wsA (va_wsS RL 85 yL_next wsL_next) := y_gS lkL_85 (y_inT (List.mem_of_getElem? (i := 287) (by decide +kernel)) rfl) ini_ClauseYardLaw kL_next
theorem lkL_30 : Cond.methodLink RL 30 yX0_next ∈ wsA := y_inT (List.mem_of_getElem? (i := 289) (by decide +kernel)) rfl
theorem gL_30 : GoodIn wsA (wsV RL 30 RX0 yX0_next wsX0_next) := y_gV lkL_30 (y_inT (List.mem_of_getElem? (i := 290) (by decide +kernel)) rfl) (y_inT (List.mem_of_getElem? (i := 291) (by decide +kernel)) rfl) ini_ClauseYard kX0_next
theorem lkL_93 : Cond.methodLink RL 93 yL_forced ∈ wsA := y_inT (List.mem_of_getElem? (i := 294) (by decide +kernel)) rfl
theorem gL_93 : GoodIn wsA (va_wsS RL 93 yL_forced wsL_forced) := y_gS lkL_93 (y_inT (List.mem_of_getElem? (i := 295) (by decide +kernel)) rfl) ini_ClauseYardLaw kL_forced
theorem lkL_33 : Cond.methodLink RL 33 yX0_forced ∈ wsA := y_inT (List.mem_of_getElem? (i := 297) (by decide +kernel)) rfl
theorem gL_33 : GoodIn wsA (wsV RL 33 RX0 yX0_forced wsX0_forced) := y_gV lkL_33 (y_inT (List.mem_of_getElem? (i := 298) (by decide +kernel)) rfl) (y_inT (List.mem_of_getElem? (i := 299) (by decide +kernel)) rfl) ini_ClauseYard kX0_forced
theorem lkL_96 : Cond.methodLink RL 96 yL_blames ∈ wsA := y_inT (List.mem_of_getElem? (i := 301) (by decide +kernel)) rfl
theorem gL_96 : GoodIn wsA (va_wsS RL 96 yL_blames wsL_blames) := y_gS lkL_96 (y_inT (List.mem_of_getElem? (i := 302) (by decide +kernel)) rfl) ini_ClauseYardLaw kL_blames
theorem lkL_40 : Cond.classLink RL 40 "java/util/NoSuchElementException" ∈ wsA := y_inT (List.mem_of_getElem? (i := 304) (by decide +kernel)) rfl
theorem lkL_37 : Cond.methodLink RL 37 yX0_blames ∈ wsA := y_inT (List.mem_of_getElem? (i := 305) (by decide +kernel)) rfl
theorem gL_37 : GoodIn wsA (wsV RL 37 RX0 yX0_blames wsX0_blames) := y_gV lkL_37 (y_inT (List.mem_of_getElem? (i := 306) (by decide +kernel)) rfl) (y_inT (List.mem_of_getElem? (i := 307) (by decide +kernel)) rfl) ini_ClauseYard kX0_blames
theorem lkX0_92 : Cond.classLink RX0 92 "java/util/NoSuchElementException" ∈ wsA := y_inT (List.mem_of_getElem? (i := 309) (by decide +kernel)) rfl
theorem ist_NoSuchElementException : Cond.instantiable "java/util/NoSuchElementException" 6 ∈ wsA := y_inT (List.mem_of_getElem? (i := 310) (by decide +kernel)) rfl
theorem lkL_99 : Cond.methodLink RL 99 yL_count ∈ wsA := y_inT (List.mem_of_getElem? (i := 325) (by decide +kernel)) rfl
theorem gL_99 : GoodIn wsA (va_wsS RL 99 yL_count wsL_count) := y_gS lkL_99 (y_inT (List.mem_of_getElem? (i := 326) (by decide +kernel)) rfl) ini_ClauseYardLaw kL_count
theorem lkL_42 : Cond.methodLink RL 42 yX0_count ∈ wsA := y_inT (List.mem_of_getElem? (i := 328) (by decide +kernel)) rfl
theorem gL_42 : GoodIn wsA (wsV RL 42 RX0 yX0_count wsX0_count) := y_gV lkL_42 (y_inT (List.mem_of_getElem? (i := 329) (by decide +kernel)) rfl) (y_inT (List.mem_of_getElem? (i := 330) (by decide +kernel)) rfl) ini_ClauseYard kX0_count
theorem lkX0_99 : Cond.methodLink RX0 99 yX2_foundInBlock ∈ wsA := y_inT (List.mem_of_getElem? (i := 333) (by decide +kernel)) rfl
theorem gX0_99 : GoodIn wsA (wsV RX0 99 RX2 yX2_foundInBlock wsX2_foundInBlock) := y_gV lkX0_99 (y_inT (List.mem_of_getElem? (i := 334) (by decide +kernel)) rfl) (y_inT (List.mem_of_getElem? (i := 335) (by decide +kernel)) rfl) ini_ClauseYard_Search kX2_foundInBlock
theorem lkX2_69 : Cond.methodLink RX2 69 yJL_bitCount ∈ wsA := y_inT (List.mem_of_getElem? (i := 337) (by decide +kernel)) rfl
theorem gX2_69 : GoodIn wsA (va_wsS RX2 69 yJL_bitCount wsJL_bitCount) := y_gS lkX2_69 (y_inT (List.mem_of_getElem? (i := 338) (by decide +kernel)) rfl) ini_Long kJL_bitCount
theorem lkJL_314 : Cond.constantLong RJL 314 (6148914691236517205 : Int64) ∈ wsA := y_inT (List.mem_of_getElem? (i := 340) (by decide +kernel)) rfl
theorem lkJL_316 : Cond.constantLong RJL 316 (3689348814741910323 : Int64) ∈ wsA := y_inT (List.mem_of_getElem? (i := 341) (by decide +kernel)) rfl
theorem lkJL_318 : Cond.constantLong RJL 318 (1085102592571150095 : Int64) ∈ wsA := y_inT (List.mem_of_getElem? (i := 342) (by decide +kernel)) rfl
theorem lkX0_103 : Cond.methodLink RX0 103 yX2_nextBlock ∈ wsA := y_inT (List.mem_of_getElem? (i := 343) (by decide +kernel)) rfl
theorem gX0_103 : GoodIn wsA (va_wsS RX0 103 yX2_nextBlock wsX2_nextBlock) := y_gS lkX0_103 (y_inT (List.mem_of_getElem? (i := 344) (by decide +kernel)) rfl) ini_ClauseYard_Search kX2_nextBlock
theorem lkX0_106 : Cond.methodLink RX0 106 Lib.Math.min.name ∈ wsA := y_inT (List.mem_of_getElem? (i := 346) (by decide +kernel)) rfl
theorem st_min : Cond.static Lib.Math.min.name ∈ wsA := y_inT (List.mem_of_getElem? (i := 347) (by decide +kernel)) rfl
theorem co_min : Cond.code Lib.Math.min.name Lib.Math.min.code 2 (some .int) ∈ wsA := y_inT (List.mem_of_getElem? (i := 348) (by decide +kernel)) rfl
theorem lkL_102 : Cond.methodLink RL 102 yL_value ∈ wsA := y_inT (List.mem_of_getElem? (i := 349) (by decide +kernel)) rfl
theorem gL_102 : GoodIn wsA (va_wsS RL 102 yL_value wsL_value) := y_gS lkL_102 (y_inT (List.mem_of_getElem? (i := 350) (by decide +kernel)) rfl) ini_ClauseYardLaw kL_value
theorem lkL_45 : Cond.methodLink RL 45 yX0_value ∈ wsA := y_inT (List.mem_of_getElem? (i := 352) (by decide +kernel)) rfl
theorem gL_45 : GoodIn wsA (wsV RL 45 RX0 yX0_value wsX0_value) := y_gV lkL_45 (y_inT (List.mem_of_getElem? (i := 353) (by decide +kernel)) rfl) (y_inT (List.mem_of_getElem? (i := 354) (by decide +kernel)) rfl) ini_ClauseYard kX0_value
theorem lkL_105 : Cond.methodLink RL 105 yL_look ∈ wsA := y_inT (List.mem_of_getElem? (i := 357) (by decide +kernel)) rfl
theorem gL_105 : GoodIn wsA (va_wsS RL 105 yL_look wsL_look) := y_gS lkL_105 (y_inT (List.mem_of_getElem? (i := 358) (by decide +kernel)) rfl) ini_ClauseYardLaw kL_look
theorem lkL_48 : Cond.methodLink RL 48 yX0_look ∈ wsA := y_inT (List.mem_of_getElem? (i := 360) (by decide +kernel)) rfl
theorem gL_48 : GoodIn wsA (wsV RL 48 RX0 yX0_look wsX0_look) := y_gV lkL_48 (y_inT (List.mem_of_getElem? (i := 361) (by decide +kernel)) rfl) (y_inT (List.mem_of_getElem? (i := 362) (by decide +kernel)) rfl) ini_ClauseYard kX0_look
theorem lkL_52 : Cond.classLink RL 52 RX1 ∈ wsA := y_inT (List.mem_of_getElem? (i := 365) (by decide +kernel)) rfl
theorem ist_ClauseYardModel : Cond.instantiable RX1 13 ∈ wsA := y_inT (List.mem_of_getElem? (i := 366) (by decide +kernel)) rfl
theorem lkL_54 : Cond.methodLink RL 54 yX1_init ∈ wsA := y_inT (List.mem_of_getElem? (i := 367) (by decide +kernel)) rfl
theorem im_X1_init : Cond.instanceMethod yX1_init ∈ wsA := y_inT (List.mem_of_getElem? (i := 368) (by decide +kernel)) rfl
theorem gL_54 : GoodIn wsA wsX1_init := y_gA kX1_init
theorem lkX1_1 : Cond.methodLink RX1 1 objectInit ∈ wsA := y_inT (List.mem_of_getElem? (i := 370) (by decide +kernel)) rfl
theorem lkX1_33 : Cond.constantLong RX1 33 (-6148914691236517206 : Int64) ∈ wsA := y_inT (List.mem_of_getElem? (i := 371) (by decide +kernel)) rfl
theorem lkX1_35 : Cond.constantLong RX1 35 (-3689348814741910324 : Int64) ∈ wsA := y_inT (List.mem_of_getElem? (i := 372) (by decide +kernel)) rfl
theorem lkX1_37 : Cond.constantLong RX1 37 (-1085102592571150096 : Int64) ∈ wsA := y_inT (List.mem_of_getElem? (i := 373) (by decide +kernel)) rfl
theorem lkX1_39 : Cond.constantLong RX1 39 (-71777214294589696 : Int64) ∈ wsA := y_inT (List.mem_of_getElem? (i := 374) (by decide +kernel)) rfl
theorem lkX1_41 : Cond.constantLong RX1 41 (-281470681808896 : Int64) ∈ wsA := y_inT (List.mem_of_getElem? (i := 375) (by decide +kernel)) rfl
theorem lkX1_43 : Cond.constantLong RX1 43 (-4294967296 : Int64) ∈ wsA := y_inT (List.mem_of_getElem? (i := 376) (by decide +kernel)) rfl
theorem lkX1_48 : Cond.methodLink RX1 48 yX1_renew ∈ wsA := y_inT (List.mem_of_getElem? (i := 377) (by decide +kernel)) rfl
theorem gX1_48 : GoodIn wsA (wsV RX1 48 RX1 yX1_renew wsX1_renew) := y_gV lkX1_48 (y_inT (List.mem_of_getElem? (i := 379) (by decide +kernel)) rfl) (y_inA (by decide +kernel) rfl) ini_ClauseYardModel kX1_renew
theorem lkX1_54 : Cond.constantLong RX1 54 (-1 : Int64) ∈ wsA := y_inT (List.mem_of_getElem? (i := 381) (by decide +kernel)) rfl
theorem lkX1_63 : Cond.methodLink RX1 63 yX1_apply ∈ wsA := y_inT (List.mem_of_getElem? (i := 382) (by decide +kernel)) rfl
theorem gX1_63 : GoodIn wsA (wsV RX1 63 RX1 yX1_apply wsX1_apply) := y_gV lkX1_63 (y_inT (List.mem_of_getElem? (i := 384) (by decide +kernel)) rfl) (y_inA (by decide +kernel) rfl) ini_ClauseYardModel kX1_apply
theorem lkX1_56 : Cond.methodLink RX1 56 yX1_truth ∈ wsA := y_inT (List.mem_of_getElem? (i := 386) (by decide +kernel)) rfl
theorem gX1_56 : GoodIn wsA (wsV RX1 56 RX1 yX1_truth wsX1_truth) := y_gV lkX1_56 (y_inT (List.mem_of_getElem? (i := 388) (by decide +kernel)) rfl) (y_inA (by decide +kernel) rfl) ini_ClauseYardModel kX1_truth
theorem lkX1_51 : Cond.fieldLink RX1 51 "ClauseYardModel" "thrown" "I" ∈ wsA := y_inT (List.mem_of_getElem? (i := 390) (by decide +kernel)) rfl
theorem lkX1_7 : Cond.fieldLink RX1 7 "ClauseYardModel" "tape" "[I" ∈ wsA := y_inT (List.mem_of_getElem? (i := 391) (by decide +kernel)) rfl
theorem lkX1_77 : Cond.fieldLink RX1 77 "ClauseYardModel" "tapeSize" "I" ∈ wsA := y_inT (List.mem_of_getElem? (i := 392) (by decide +kernel)) rfl
theorem lkX1_60 : Cond.fieldLink RX1 60 "ClauseYardModel" "clauses" "I" ∈ wsA := y_inT (List.mem_of_getElem? (i := 393) (by decide +kernel)) rfl
theorem lkX1_13 : Cond.fieldLink RX1 13 "ClauseYardModel" "literals" "[I" ∈ wsA := y_inT (List.mem_of_getElem? (i := 394) (by decide +kernel)) rfl
theorem lkX1_16 : Cond.fieldLink RX1 16 "ClauseYardModel" "sizes" "[I" ∈ wsA := y_inT (List.mem_of_getElem? (i := 395) (by decide +kernel)) rfl
theorem lkX1_19 : Cond.fieldLink RX1 19 "ClauseYardModel" "levels" "[I" ∈ wsA := y_inT (List.mem_of_getElem? (i := 396) (by decide +kernel)) rfl
theorem lkX1_84 : Cond.fieldLink RX1 84 "ClauseYardModel" "level" "I" ∈ wsA := y_inT (List.mem_of_getElem? (i := 397) (by decide +kernel)) rfl
theorem lkX1_22 : Cond.fieldLink RX1 22 "ClauseYardModel" "assumed" "[I" ∈ wsA := y_inT (List.mem_of_getElem? (i := 398) (by decide +kernel)) rfl
theorem lkX1_67 : Cond.fieldLink RX1 67 "ClauseYardModel" "assumptions" "I" ∈ wsA := y_inT (List.mem_of_getElem? (i := 399) (by decide +kernel)) rfl
theorem lkX1_25 : Cond.fieldLink RX1 25 "ClauseYardModel" "model" "I" ∈ wsA := y_inT (List.mem_of_getElem? (i := 400) (by decide +kernel)) rfl
theorem lkX1_29 : Cond.fieldLink RX1 29 "ClauseYardModel" "good" "[J" ∈ wsA := y_inT (List.mem_of_getElem? (i := 401) (by decide +kernel)) rfl
theorem lkX1_45 : Cond.fieldLink RX1 45 "ClauseYardModel" "inWord" "[J" ∈ wsA := y_inT (List.mem_of_getElem? (i := 402) (by decide +kernel)) rfl
theorem lkL_61 : Cond.methodLink RL 61 yX1_thrown ∈ wsA := y_inT (List.mem_of_getElem? (i := 430) (by decide +kernel)) rfl
theorem gL_61 : GoodIn wsA (wsV RL 61 RX1 yX1_thrown wsX1_thrown) := y_gV lkL_61 (y_inT (List.mem_of_getElem? (i := 431) (by decide +kernel)) rfl) (y_inT (List.mem_of_getElem? (i := 432) (by decide +kernel)) rfl) ini_ClauseYardModel kX1_thrown
theorem lkL_60 : Cond.methodLink RL 60 yX1_put ∈ wsA := y_inT (List.mem_of_getElem? (i := 434) (by decide +kernel)) rfl
theorem gL_60 : GoodIn wsA (wsV RL 60 RX1 yX1_put wsX1_put) := y_gV lkL_60 (y_inT (List.mem_of_getElem? (i := 435) (by decide +kernel)) rfl) (y_inT (List.mem_of_getElem? (i := 436) (by decide +kernel)) rfl) ini_ClauseYardModel kX1_put
theorem lkX1_73 : Cond.methodLink RX1 73 yX1_isLiteral ∈ wsA := y_inT (List.mem_of_getElem? (i := 438) (by decide +kernel)) rfl
theorem gX1_73 : GoodIn wsA (va_wsS RX1 73 yX1_isLiteral wsX1_isLiteral) := y_gS lkX1_73 (y_inT (List.mem_of_getElem? (i := 439) (by decide +kernel)) rfl) ini_ClauseYardModel kX1_isLiteral
theorem lkX1_80 : Cond.methodLink RX1 80 yX1_throwing ∈ wsA := y_inT (List.mem_of_getElem? (i := 441) (by decide +kernel)) rfl
theorem gX1_80 : GoodIn wsA (wsV RX1 80 RX1 yX1_throwing wsX1_throwing) := y_gV lkX1_80 (y_inT (List.mem_of_getElem? (i := 443) (by decide +kernel)) rfl) (y_inA (by decide +kernel) rfl) ini_ClauseYardModel kX1_throwing
theorem lkL_67 : Cond.methodLink RL 67 yX1_add ∈ wsA := y_inT (List.mem_of_getElem? (i := 445) (by decide +kernel)) rfl
theorem gL_67 : GoodIn wsA (wsV RL 67 RX1 yX1_add wsX1_add) := y_gV lkL_67 (y_inT (List.mem_of_getElem? (i := 446) (by decide +kernel)) rfl) (y_inT (List.mem_of_getElem? (i := 447) (by decide +kernel)) rfl) ini_ClauseYardModel kX1_add
theorem lkL_70 : Cond.methodLink RL 70 yX1_open ∈ wsA := y_inT (List.mem_of_getElem? (i := 449) (by decide +kernel)) rfl
theorem gL_70 : GoodIn wsA (wsV RL 70 RX1 yX1_open wsX1_open) := y_gV lkL_70 (y_inT (List.mem_of_getElem? (i := 450) (by decide +kernel)) rfl) (y_inT (List.mem_of_getElem? (i := 451) (by decide +kernel)) rfl) ini_ClauseYardModel kX1_open
theorem lkL_73 : Cond.methodLink RL 73 yX1_close ∈ wsA := y_inT (List.mem_of_getElem? (i := 453) (by decide +kernel)) rfl
theorem gL_73 : GoodIn wsA (wsV RL 73 RX1 yX1_close wsX1_close) := y_gV lkL_73 (y_inT (List.mem_of_getElem? (i := 454) (by decide +kernel)) rfl) (y_inT (List.mem_of_getElem? (i := 455) (by decide +kernel)) rfl) ini_ClauseYardModel kX1_close
theorem lkL_76 : Cond.methodLink RL 76 yX1_assume ∈ wsA := y_inT (List.mem_of_getElem? (i := 457) (by decide +kernel)) rfl
theorem gL_76 : GoodIn wsA (wsV RL 76 RX1 yX1_assume wsX1_assume) := y_gV lkL_76 (y_inT (List.mem_of_getElem? (i := 458) (by decide +kernel)) rfl) (y_inT (List.mem_of_getElem? (i := 459) (by decide +kernel)) rfl) ini_ClauseYardModel kX1_assume
theorem lkL_80 : Cond.methodLink RL 80 yX1_free ∈ wsA := y_inT (List.mem_of_getElem? (i := 461) (by decide +kernel)) rfl
theorem gL_80 : GoodIn wsA (wsV RL 80 RX1 yX1_free wsX1_free) := y_gV lkL_80 (y_inT (List.mem_of_getElem? (i := 462) (by decide +kernel)) rfl) (y_inT (List.mem_of_getElem? (i := 463) (by decide +kernel)) rfl) ini_ClauseYardModel kX1_free
theorem lkL_84 : Cond.methodLink RL 84 yX1_least ∈ wsA := y_inT (List.mem_of_getElem? (i := 465) (by decide +kernel)) rfl
theorem gL_84 : GoodIn wsA (wsV RL 84 RX1 yX1_least wsX1_least) := y_gV lkL_84 (y_inT (List.mem_of_getElem? (i := 466) (by decide +kernel)) rfl) (y_inT (List.mem_of_getElem? (i := 467) (by decide +kernel)) rfl) ini_ClauseYardModel kX1_least
theorem lkX1_87 : Cond.methodLink RX1 87 yX1_from ∈ wsA := y_inT (List.mem_of_getElem? (i := 469) (by decide +kernel)) rfl
theorem gX1_87 : GoodIn wsA (wsV RX1 87 RX1 yX1_from wsX1_from) := y_gV lkX1_87 (y_inT (List.mem_of_getElem? (i := 471) (by decide +kernel)) rfl) (y_inA (by decide +kernel) rfl) ini_ClauseYardModel kX1_from
theorem lkX1_70 : Cond.methodLink RX1 70 yX1_word ∈ wsA := y_inT (List.mem_of_getElem? (i := 473) (by decide +kernel)) rfl
theorem gX1_70 : GoodIn wsA (wsV RX1 70 RX1 yX1_word wsX1_word) := y_gV lkX1_70 (y_inT (List.mem_of_getElem? (i := 475) (by decide +kernel)) rfl) (y_inA (by decide +kernel) rfl) ini_ClauseYardModel kX1_word
theorem lkL_87 : Cond.methodLink RL 87 yX1_next ∈ wsA := y_inT (List.mem_of_getElem? (i := 477) (by decide +kernel)) rfl
theorem gL_87 : GoodIn wsA (wsV RL 87 RX1 yX1_next wsX1_next) := y_gV lkL_87 (y_inT (List.mem_of_getElem? (i := 478) (by decide +kernel)) rfl) (y_inT (List.mem_of_getElem? (i := 479) (by decide +kernel)) rfl) ini_ClauseYardModel kX1_next
theorem lkL_92 : Cond.methodLink RL 92 yX1_can ∈ wsA := y_inT (List.mem_of_getElem? (i := 481) (by decide +kernel)) rfl
theorem gL_92 : GoodIn wsA (wsV RL 92 RX1 yX1_can wsX1_can) := y_gV lkL_92 (y_inT (List.mem_of_getElem? (i := 482) (by decide +kernel)) rfl) (y_inT (List.mem_of_getElem? (i := 483) (by decide +kernel)) rfl) ini_ClauseYardModel kX1_can
theorem lkX1_91 : Cond.methodLink RX1 91 yX1_some ∈ wsA := y_inT (List.mem_of_getElem? (i := 485) (by decide +kernel)) rfl
theorem gX1_91 : GoodIn wsA (wsV RX1 91 RX1 yX1_some wsX1_some) := y_gV lkX1_91 (y_inT (List.mem_of_getElem? (i := 487) (by decide +kernel)) rfl) (y_inA (by decide +kernel) rfl) ini_ClauseYardModel kX1_some
theorem lkL_95 : Cond.methodLink RL 95 yX1_forced ∈ wsA := y_inT (List.mem_of_getElem? (i := 489) (by decide +kernel)) rfl
theorem gL_95 : GoodIn wsA (wsV RL 95 RX1 yX1_forced wsX1_forced) := y_gV lkL_95 (y_inT (List.mem_of_getElem? (i := 490) (by decide +kernel)) rfl) (y_inT (List.mem_of_getElem? (i := 491) (by decide +kernel)) rfl) ini_ClauseYardModel kX1_forced
theorem lkL_98 : Cond.methodLink RL 98 yX1_blames ∈ wsA := y_inT (List.mem_of_getElem? (i := 493) (by decide +kernel)) rfl
theorem gL_98 : GoodIn wsA (wsV RL 98 RX1 yX1_blames wsX1_blames) := y_gV lkL_98 (y_inT (List.mem_of_getElem? (i := 494) (by decide +kernel)) rfl) (y_inT (List.mem_of_getElem? (i := 495) (by decide +kernel)) rfl) ini_ClauseYardModel kX1_blames
theorem lkL_101 : Cond.methodLink RL 101 yX1_count ∈ wsA := y_inT (List.mem_of_getElem? (i := 497) (by decide +kernel)) rfl
theorem gL_101 : GoodIn wsA (wsV RL 101 RX1 yX1_count wsX1_count) := y_gV lkL_101 (y_inT (List.mem_of_getElem? (i := 498) (by decide +kernel)) rfl) (y_inT (List.mem_of_getElem? (i := 499) (by decide +kernel)) rfl) ini_ClauseYardModel kX1_count
theorem lkL_104 : Cond.methodLink RL 104 yX1_value ∈ wsA := y_inT (List.mem_of_getElem? (i := 501) (by decide +kernel)) rfl
theorem gL_104 : GoodIn wsA (wsV RL 104 RX1 yX1_value wsX1_value) := y_gV lkL_104 (y_inT (List.mem_of_getElem? (i := 502) (by decide +kernel)) rfl) (y_inT (List.mem_of_getElem? (i := 503) (by decide +kernel)) rfl) ini_ClauseYardModel kX1_value
theorem lkL_107 : Cond.methodLink RL 107 yX1_look ∈ wsA := y_inT (List.mem_of_getElem? (i := 505) (by decide +kernel)) rfl
theorem gL_107 : GoodIn wsA (wsV RL 107 RX1 yX1_look wsX1_look) := y_gV lkL_107 (y_inT (List.mem_of_getElem? (i := 506) (by decide +kernel)) rfl) (y_inT (List.mem_of_getElem? (i := 507) (by decide +kernel)) rfl) ini_ClauseYardModel kX1_look
theorem im_obj : Cond.instanceMethod objectInit ∈ wsA := y_inT (List.mem_of_getElem? (i := 19) (by decide +kernel)) rfl
theorem co_obj : Cond.code objectInit ⟨#[0xb1]⟩ 1 none ∈ wsA := y_inT (List.mem_of_getElem? (i := 20) rfl) rfl
theorem at_IAE : ∀ w ∈ (vx_atS RX0 35 "java/lang/IllegalArgumentException" ["java/lang/RuntimeException", "java/lang/Exception"]).filter goodWord, w ∈ wsA := fun w h => y_inA ((by decide +kernel : ∀ w ∈ (vx_atS RX0 35 "java/lang/IllegalArgumentException" ["java/lang/RuntimeException", "java/lang/Exception"]).filter goodWord, w ∈ lw_tbl) w h) (List.mem_filter.mp h).2
theorem at_ISE : ∀ w ∈ (vx_atS RX0 45 "java/lang/IllegalStateException" ["java/lang/RuntimeException", "java/lang/Exception"]).filter goodWord, w ∈ wsA := fun w h => y_inA ((by decide +kernel : ∀ w ∈ (vx_atS RX0 45 "java/lang/IllegalStateException" ["java/lang/RuntimeException", "java/lang/Exception"]).filter goodWord, w ∈ lw_tbl) w h) (List.mem_filter.mp h).2
theorem im_X2_init : Cond.instanceMethod yX2_init ∈ wsA := y_inT (List.mem_of_getElem? (i := 24) (by decide +kernel)) rfl
theorem gN_init : GoodIn wsA wsX2_init := y_gA kX2_init
end
section
theorem dX0_init_0 : decode cX0_init 0 = .ok (.aload_n 0, 1) := by decide +kernel
theorem dX0_init_1 : decode cX0_init 1 = .ok (.invokespecial 3, 3) := by decide +kernel
theorem dX0_init_4 : decode cX0_init 4 = .ok (.aload_n 0, 1) := by decide +kernel
theorem dX0_init_5 : decode cX0_init 5 = .ok (.new 9, 3) := by decide +kernel
theorem dX0_init_8 : decode cX0_init 8 = .ok (.dup, 1) := by decide +kernel
theorem dX0_init_9 : decode cX0_init 9 = .ok (.invokespecial 11, 3) := by decide +kernel
theorem dX0_init_12 : decode cX0_init 12 = .ok (.putfield 12, 3) := by decide +kernel
theorem dX0_init_15 : decode cX0_init 15 = .ok (.aload_n 0, 1) := by decide +kernel
theorem dX0_init_16 : decode cX0_init 16 = .ok (.bipush 41, 2) := by decide +kernel
theorem dX0_init_18 : decode cX0_init 18 = .ok (.newarray .int, 2) := by decide +kernel
theorem dX0_init_20 : decode cX0_init 20 = .ok (.putfield 16, 3) := by decide +kernel
theorem dX0_init_23 : decode cX0_init 23 = .ok (.aload_n 0, 1) := by decide +kernel
theorem dX0_init_24 : decode cX0_init 24 = .ok (.bipush 18, 2) := by decide +kernel
theorem dX0_init_26 : decode cX0_init 26 = .ok (.newarray .int, 2) := by decide +kernel
theorem dX0_init_28 : decode cX0_init 28 = .ok (.putfield 20, 3) := by decide +kernel
theorem dX0_init_31 : decode cX0_init 31 = .ok (.aload_n 0, 1) := by decide +kernel
theorem dX0_init_32 : decode cX0_init 32 = .ok (.iconst (-1), 1) := by decide +kernel
theorem dX0_init_33 : decode cX0_init 33 = .ok (.putfield 23, 3) := by decide +kernel
theorem dX0_init_36 : decode cX0_init 36 = .ok (.return_, 1) := by decide +kernel
theorem dX0_put_0 : decode cX0_put 0 = .ok (.iload_n 1, 1) := by decide +kernel
theorem dX0_put_1 : decode cX0_put 1 = .ok (.invokestatic 27, 3) := by decide +kernel
theorem dX0_put_4 : decode cX0_put 4 = .ok (.ifCond .ne 13, 3) := by decide +kernel
theorem dX0_put_7 : decode cX0_put 7 = .ok (.new 31, 3) := by decide +kernel
theorem dX0_put_10 : decode cX0_put 10 = .ok (.dup, 1) := by decide +kernel
theorem dX0_put_11 : decode cX0_put 11 = .ok (.ldc 33, 2) := by decide +kernel
theorem dX0_put_13 : decode cX0_put 13 = .ok (.invokespecial 35, 3) := by decide +kernel
theorem dX0_put_16 : decode cX0_put 16 = .ok (.athrow, 1) := by decide +kernel
theorem dX0_put_17 : decode cX0_put 17 = .ok (.aload_n 0, 1) := by decide +kernel
theorem dX0_put_18 : decode cX0_put 18 = .ok (.getfield 38, 3) := by decide +kernel
theorem dX0_put_21 : decode cX0_put 21 = .ok (.bipush 18, 2) := by decide +kernel
theorem dX0_put_23 : decode cX0_put 23 = .ok (.if_icmp .lt 13, 3) := by decide +kernel
theorem dX0_put_26 : decode cX0_put 26 = .ok (.new 41, 3) := by decide +kernel
theorem dX0_put_29 : decode cX0_put 29 = .ok (.dup, 1) := by decide +kernel
theorem dX0_put_30 : decode cX0_put 30 = .ok (.ldc 43, 2) := by decide +kernel
theorem dX0_put_32 : decode cX0_put 32 = .ok (.invokespecial 45, 3) := by decide +kernel
theorem dX0_put_35 : decode cX0_put 35 = .ok (.athrow, 1) := by decide +kernel
theorem dX0_put_36 : decode cX0_put 36 = .ok (.aload_n 0, 1) := by decide +kernel
theorem dX0_put_37 : decode cX0_put 37 = .ok (.dup, 1) := by decide +kernel
theorem dX0_put_38 : decode cX0_put 38 = .ok (.getfield 46, 3) := by decide +kernel
theorem dX0_put_41 : decode cX0_put 41 = .ok (.iload_n 1, 1) := by decide +kernel
theorem dX0_put_42 : decode cX0_put 42 = .ok (.invokestatic 49, 3) := by decide +kernel
theorem dX0_put_45 : decode cX0_put 45 = .ok (.ior, 1) := by decide +kernel
theorem dX0_put_46 : decode cX0_put 46 = .ok (.putfield 46, 3) := by decide +kernel
theorem dX0_put_49 : decode cX0_put 49 = .ok (.aload_n 0, 1) := by decide +kernel
theorem dX0_put_50 : decode cX0_put 50 = .ok (.dup, 1) := by decide +kernel
theorem dX0_put_51 : decode cX0_put 51 = .ok (.getfield 53, 3) := by decide +kernel
theorem dX0_put_54 : decode cX0_put 54 = .ok (.iload_n 1, 1) := by decide +kernel
theorem dX0_put_55 : decode cX0_put 55 = .ok (.invokestatic 56, 3) := by decide +kernel
theorem dX0_put_58 : decode cX0_put 58 = .ok (.ior, 1) := by decide +kernel
theorem dX0_put_59 : decode cX0_put 59 = .ok (.putfield 53, 3) := by decide +kernel
theorem dX0_put_62 : decode cX0_put 62 = .ok (.aload_n 0, 1) := by decide +kernel
theorem dX0_put_63 : decode cX0_put 63 = .ok (.dup, 1) := by decide +kernel
theorem dX0_put_64 : decode cX0_put 64 = .ok (.getfield 38, 3) := by decide +kernel
theorem dX0_put_67 : decode cX0_put 67 = .ok (.iconst 1, 1) := by decide +kernel
theorem dX0_put_68 : decode cX0_put 68 = .ok (.iadd, 1) := by decide +kernel
theorem dX0_put_69 : decode cX0_put 69 = .ok (.putfield 38, 3) := by decide +kernel
theorem dX0_put_72 : decode cX0_put 72 = .ok (.aload_n 0, 1) := by decide +kernel
theorem dX0_put_73 : decode cX0_put 73 = .ok (.getfield 38, 3) := by decide +kernel
theorem dX0_put_76 : decode cX0_put 76 = .ok (.ireturn, 1) := by decide +kernel
theorem dX0_add_0 : decode cX0_add 0 = .ok (.aload_n 0, 1) := by decide +kernel
theorem dX0_add_1 : decode cX0_add 1 = .ok (.getfield 59, 3) := by decide +kernel
theorem dX0_add_4 : decode cX0_add 4 = .ok (.sipush 400, 3) := by decide +kernel
theorem dX0_add_7 : decode cX0_add 7 = .ok (.if_icmp .lt 13, 3) := by decide +kernel
theorem dX0_add_10 : decode cX0_add 10 = .ok (.new 41, 3) := by decide +kernel
theorem dX0_add_13 : decode cX0_add 13 = .ok (.dup, 1) := by decide +kernel
theorem dX0_add_14 : decode cX0_add 14 = .ok (.ldc 62, 2) := by decide +kernel
theorem dX0_add_16 : decode cX0_add 16 = .ok (.invokespecial 45, 3) := by decide +kernel
theorem dX0_add_19 : decode cX0_add 19 = .ok (.athrow, 1) := by decide +kernel
theorem dX0_add_20 : decode cX0_add 20 = .ok (.aload_n 0, 1) := by decide +kernel
theorem dX0_add_21 : decode cX0_add 21 = .ok (.getfield 12, 3) := by decide +kernel
theorem dX0_add_24 : decode cX0_add 24 = .ok (.aload_n 0, 1) := by decide +kernel
theorem dX0_add_25 : decode cX0_add 25 = .ok (.getfield 59, 3) := by decide +kernel
theorem dX0_add_28 : decode cX0_add 28 = .ok (.aload_n 0, 1) := by decide +kernel
theorem dX0_add_29 : decode cX0_add 29 = .ok (.getfield 46, 3) := by decide +kernel
theorem dX0_add_32 : decode cX0_add 32 = .ok (.aload_n 0, 1) := by decide +kernel
theorem dX0_add_33 : decode cX0_add 33 = .ok (.getfield 53, 3) := by decide +kernel
theorem dX0_add_36 : decode cX0_add 36 = .ok (.invokevirtual 64, 3) := by decide +kernel
theorem dX0_add_39 : decode cX0_add 39 = .ok (.aload_n 0, 1) := by decide +kernel
theorem dX0_add_40 : decode cX0_add 40 = .ok (.dup, 1) := by decide +kernel
theorem dX0_add_41 : decode cX0_add 41 = .ok (.getfield 59, 3) := by decide +kernel
theorem dX0_add_44 : decode cX0_add 44 = .ok (.iconst 1, 1) := by decide +kernel
theorem dX0_add_45 : decode cX0_add 45 = .ok (.iadd, 1) := by decide +kernel
theorem dX0_add_46 : decode cX0_add 46 = .ok (.putfield 59, 3) := by decide +kernel
theorem dX0_add_49 : decode cX0_add 49 = .ok (.aload_n 0, 1) := by decide +kernel
theorem dX0_add_50 : decode cX0_add 50 = .ok (.iconst 0, 1) := by decide +kernel
theorem dX0_add_51 : decode cX0_add 51 = .ok (.putfield 38, 3) := by decide +kernel
theorem dX0_add_54 : decode cX0_add 54 = .ok (.aload_n 0, 1) := by decide +kernel
theorem dX0_add_55 : decode cX0_add 55 = .ok (.iconst 0, 1) := by decide +kernel
theorem dX0_add_56 : decode cX0_add 56 = .ok (.putfield 46, 3) := by decide +kernel
theorem dX0_add_59 : decode cX0_add 59 = .ok (.aload_n 0, 1) := by decide +kernel
theorem dX0_add_60 : decode cX0_add 60 = .ok (.iconst 0, 1) := by decide +kernel
theorem dX0_add_61 : decode cX0_add 61 = .ok (.putfield 53, 3) := by decide +kernel
theorem dX0_add_64 : decode cX0_add 64 = .ok (.aload_n 0, 1) := by decide +kernel
theorem dX0_add_65 : decode cX0_add 65 = .ok (.iconst (-1), 1) := by decide +kernel
theorem dX0_add_66 : decode cX0_add 66 = .ok (.putfield 23, 3) := by decide +kernel
theorem dX0_add_69 : decode cX0_add 69 = .ok (.aload_n 0, 1) := by decide +kernel
theorem dX0_add_70 : decode cX0_add 70 = .ok (.getfield 59, 3) := by decide +kernel
theorem dX0_add_73 : decode cX0_add 73 = .ok (.ireturn, 1) := by decide +kernel
theorem dX0_open_0 : decode cX0_open 0 = .ok (.aload_n 0, 1) := by decide +kernel
theorem dX0_open_1 : decode cX0_open 1 = .ok (.getfield 68, 3) := by decide +kernel
theorem dX0_open_4 : decode cX0_open 4 = .ok (.bipush 40, 2) := by decide +kernel
theorem dX0_open_6 : decode cX0_open 6 = .ok (.if_icmp .lt 13, 3) := by decide +kernel
theorem dX0_open_9 : decode cX0_open 9 = .ok (.new 41, 3) := by decide +kernel
theorem dX0_open_12 : decode cX0_open 12 = .ok (.dup, 1) := by decide +kernel
theorem dX0_open_13 : decode cX0_open 13 = .ok (.ldc 71, 2) := by decide +kernel
theorem dX0_open_15 : decode cX0_open 15 = .ok (.invokespecial 45, 3) := by decide +kernel
theorem dX0_open_18 : decode cX0_open 18 = .ok (.athrow, 1) := by decide +kernel
theorem dX0_open_19 : decode cX0_open 19 = .ok (.aload_n 0, 1) := by decide +kernel
theorem dX0_open_20 : decode cX0_open 20 = .ok (.dup, 1) := by decide +kernel
theorem dX0_open_21 : decode cX0_open 21 = .ok (.getfield 68, 3) := by decide +kernel
theorem dX0_open_24 : decode cX0_open 24 = .ok (.iconst 1, 1) := by decide +kernel
theorem dX0_open_25 : decode cX0_open 25 = .ok (.iadd, 1) := by decide +kernel
theorem dX0_open_26 : decode cX0_open 26 = .ok (.putfield 68, 3) := by decide +kernel
theorem dX0_open_29 : decode cX0_open 29 = .ok (.aload_n 0, 1) := by decide +kernel
theorem dX0_open_30 : decode cX0_open 30 = .ok (.getfield 16, 3) := by decide +kernel
theorem dX0_open_33 : decode cX0_open 33 = .ok (.aload_n 0, 1) := by decide +kernel
theorem dX0_open_34 : decode cX0_open 34 = .ok (.getfield 68, 3) := by decide +kernel
theorem dX0_open_37 : decode cX0_open 37 = .ok (.aload_n 0, 1) := by decide +kernel
theorem dX0_open_38 : decode cX0_open 38 = .ok (.getfield 59, 3) := by decide +kernel
theorem dX0_open_41 : decode cX0_open 41 = .ok (.iastore, 1) := by decide +kernel
theorem dX0_open_42 : decode cX0_open 42 = .ok (.aload_n 0, 1) := by decide +kernel
theorem dX0_open_43 : decode cX0_open 43 = .ok (.iconst (-1), 1) := by decide +kernel
theorem dX0_open_44 : decode cX0_open 44 = .ok (.putfield 23, 3) := by decide +kernel
theorem dX0_open_47 : decode cX0_open 47 = .ok (.aload_n 0, 1) := by decide +kernel
theorem dX0_open_48 : decode cX0_open 48 = .ok (.getfield 68, 3) := by decide +kernel
theorem dX0_open_51 : decode cX0_open 51 = .ok (.ireturn, 1) := by decide +kernel
theorem dX0_close_0 : decode cX0_close 0 = .ok (.aload_n 0, 1) := by decide +kernel
theorem dX0_close_1 : decode cX0_close 1 = .ok (.getfield 68, 3) := by decide +kernel
theorem dX0_close_4 : decode cX0_close 4 = .ok (.ifCond .le 12, 3) := by decide +kernel
theorem dX0_close_7 : decode cX0_close 7 = .ok (.aload_n 0, 1) := by decide +kernel
theorem dX0_close_8 : decode cX0_close 8 = .ok (.getfield 68, 3) := by decide +kernel
theorem dX0_close_11 : decode cX0_close 11 = .ok (.bipush 40, 2) := by decide +kernel
theorem dX0_close_13 : decode cX0_close 13 = .ok (.if_icmp .le 13, 3) := by decide +kernel
theorem dX0_close_16 : decode cX0_close 16 = .ok (.new 41, 3) := by decide +kernel
theorem dX0_close_19 : decode cX0_close 19 = .ok (.dup, 1) := by decide +kernel
theorem dX0_close_20 : decode cX0_close 20 = .ok (.ldc 73, 2) := by decide +kernel
theorem dX0_close_22 : decode cX0_close 22 = .ok (.invokespecial 45, 3) := by decide +kernel
theorem dX0_close_25 : decode cX0_close 25 = .ok (.athrow, 1) := by decide +kernel
theorem dX0_close_26 : decode cX0_close 26 = .ok (.aload_n 0, 1) := by decide +kernel
theorem dX0_close_27 : decode cX0_close 27 = .ok (.getfield 59, 3) := by decide +kernel
theorem dX0_close_30 : decode cX0_close 30 = .ok (.aload_n 0, 1) := by decide +kernel
theorem dX0_close_31 : decode cX0_close 31 = .ok (.getfield 16, 3) := by decide +kernel
theorem dX0_close_34 : decode cX0_close 34 = .ok (.aload_n 0, 1) := by decide +kernel
theorem dX0_close_35 : decode cX0_close 35 = .ok (.getfield 68, 3) := by decide +kernel
theorem dX0_close_38 : decode cX0_close 38 = .ok (.iaload, 1) := by decide +kernel
theorem dX0_close_39 : decode cX0_close 39 = .ok (.isub, 1) := by decide +kernel
theorem dX0_close_40 : decode cX0_close 40 = .ok (.istore_n 1, 1) := by decide +kernel
theorem dX0_close_41 : decode cX0_close 41 = .ok (.aload_n 0, 1) := by decide +kernel
theorem dX0_close_42 : decode cX0_close 42 = .ok (.aload_n 0, 1) := by decide +kernel
theorem dX0_close_43 : decode cX0_close 43 = .ok (.getfield 16, 3) := by decide +kernel
theorem dX0_close_46 : decode cX0_close 46 = .ok (.aload_n 0, 1) := by decide +kernel
theorem dX0_close_47 : decode cX0_close 47 = .ok (.getfield 68, 3) := by decide +kernel
theorem dX0_close_50 : decode cX0_close 50 = .ok (.iaload, 1) := by decide +kernel
theorem dX0_close_51 : decode cX0_close 51 = .ok (.putfield 59, 3) := by decide +kernel
theorem dX0_close_54 : decode cX0_close 54 = .ok (.aload_n 0, 1) := by decide +kernel
theorem dX0_close_55 : decode cX0_close 55 = .ok (.dup, 1) := by decide +kernel
theorem dX0_close_56 : decode cX0_close 56 = .ok (.getfield 68, 3) := by decide +kernel
theorem dX0_close_59 : decode cX0_close 59 = .ok (.iconst 1, 1) := by decide +kernel
theorem dX0_close_60 : decode cX0_close 60 = .ok (.isub, 1) := by decide +kernel
theorem dX0_close_61 : decode cX0_close 61 = .ok (.putfield 68, 3) := by decide +kernel
theorem dX0_close_64 : decode cX0_close 64 = .ok (.aload_n 0, 1) := by decide +kernel
theorem dX0_close_65 : decode cX0_close 65 = .ok (.iconst (-1), 1) := by decide +kernel
theorem dX0_close_66 : decode cX0_close 66 = .ok (.putfield 23, 3) := by decide +kernel
theorem dX0_close_69 : decode cX0_close 69 = .ok (.iload_n 1, 1) := by decide +kernel
theorem dX0_close_70 : decode cX0_close 70 = .ok (.ireturn, 1) := by decide +kernel
theorem dX0_assume_0 : decode cX0_assume 0 = .ok (.iload_n 1, 1) := by decide +kernel
theorem dX0_assume_1 : decode cX0_assume 1 = .ok (.invokestatic 27, 3) := by decide +kernel
theorem dX0_assume_4 : decode cX0_assume 4 = .ok (.ifCond .ne 13, 3) := by decide +kernel
theorem dX0_assume_7 : decode cX0_assume 7 = .ok (.new 31, 3) := by decide +kernel
theorem dX0_assume_10 : decode cX0_assume 10 = .ok (.dup, 1) := by decide +kernel
theorem dX0_assume_11 : decode cX0_assume 11 = .ok (.ldc 33, 2) := by decide +kernel
theorem dX0_assume_13 : decode cX0_assume 13 = .ok (.invokespecial 35, 3) := by decide +kernel
theorem dX0_assume_16 : decode cX0_assume 16 = .ok (.athrow, 1) := by decide +kernel
theorem dX0_assume_17 : decode cX0_assume 17 = .ok (.aload_n 0, 1) := by decide +kernel
theorem dX0_assume_18 : decode cX0_assume 18 = .ok (.getfield 75, 3) := by decide +kernel
theorem dX0_assume_21 : decode cX0_assume 21 = .ok (.bipush 18, 2) := by decide +kernel
theorem dX0_assume_23 : decode cX0_assume 23 = .ok (.if_icmp .lt 13, 3) := by decide +kernel
theorem dX0_assume_26 : decode cX0_assume 26 = .ok (.new 41, 3) := by decide +kernel
theorem dX0_assume_29 : decode cX0_assume 29 = .ok (.dup, 1) := by decide +kernel
theorem dX0_assume_30 : decode cX0_assume 30 = .ok (.ldc 78, 2) := by decide +kernel
theorem dX0_assume_32 : decode cX0_assume 32 = .ok (.invokespecial 45, 3) := by decide +kernel
theorem dX0_assume_35 : decode cX0_assume 35 = .ok (.athrow, 1) := by decide +kernel
theorem dX0_assume_36 : decode cX0_assume 36 = .ok (.aload_n 0, 1) := by decide +kernel
theorem dX0_assume_37 : decode cX0_assume 37 = .ok (.getfield 20, 3) := by decide +kernel
theorem dX0_assume_40 : decode cX0_assume 40 = .ok (.aload_n 0, 1) := by decide +kernel
theorem dX0_assume_41 : decode cX0_assume 41 = .ok (.getfield 75, 3) := by decide +kernel
theorem dX0_assume_44 : decode cX0_assume 44 = .ok (.iload_n 1, 1) := by decide +kernel
theorem dX0_assume_45 : decode cX0_assume 45 = .ok (.iastore, 1) := by decide +kernel
theorem dX0_assume_46 : decode cX0_assume 46 = .ok (.aload_n 0, 1) := by decide +kernel
theorem dX0_assume_47 : decode cX0_assume 47 = .ok (.dup, 1) := by decide +kernel
theorem dX0_assume_48 : decode cX0_assume 48 = .ok (.getfield 75, 3) := by decide +kernel
theorem dX0_assume_51 : decode cX0_assume 51 = .ok (.iconst 1, 1) := by decide +kernel
theorem dX0_assume_52 : decode cX0_assume 52 = .ok (.iadd, 1) := by decide +kernel
theorem dX0_assume_53 : decode cX0_assume 53 = .ok (.putfield 75, 3) := by decide +kernel
theorem dX0_assume_56 : decode cX0_assume 56 = .ok (.aload_n 0, 1) := by decide +kernel
theorem dX0_assume_57 : decode cX0_assume 57 = .ok (.iconst (-1), 1) := by decide +kernel
theorem dX0_assume_58 : decode cX0_assume 58 = .ok (.putfield 23, 3) := by decide +kernel
theorem dX0_assume_61 : decode cX0_assume 61 = .ok (.aload_n 0, 1) := by decide +kernel
theorem dX0_assume_62 : decode cX0_assume 62 = .ok (.getfield 75, 3) := by decide +kernel
theorem dX0_assume_65 : decode cX0_assume 65 = .ok (.ireturn, 1) := by decide +kernel
theorem dX0_free_0 : decode cX0_free 0 = .ok (.aload_n 0, 1) := by decide +kernel
theorem dX0_free_1 : decode cX0_free 1 = .ok (.getfield 75, 3) := by decide +kernel
theorem dX0_free_4 : decode cX0_free 4 = .ok (.istore_n 1, 1) := by decide +kernel
theorem dX0_free_5 : decode cX0_free 5 = .ok (.aload_n 0, 1) := by decide +kernel
theorem dX0_free_6 : decode cX0_free 6 = .ok (.iconst 0, 1) := by decide +kernel
theorem dX0_free_7 : decode cX0_free 7 = .ok (.putfield 75, 3) := by decide +kernel
theorem dX0_free_10 : decode cX0_free 10 = .ok (.aload_n 0, 1) := by decide +kernel
theorem dX0_free_11 : decode cX0_free 11 = .ok (.iconst (-1), 1) := by decide +kernel
theorem dX0_free_12 : decode cX0_free 12 = .ok (.putfield 23, 3) := by decide +kernel
theorem dX0_free_15 : decode cX0_free 15 = .ok (.iload_n 1, 1) := by decide +kernel
theorem dX0_free_16 : decode cX0_free 16 = .ok (.ireturn, 1) := by decide +kernel
theorem dX0_least_0 : decode cX0_least 0 = .ok (.aload_n 0, 1) := by decide +kernel
theorem dX0_least_1 : decode cX0_least 1 = .ok (.aload_n 0, 1) := by decide +kernel
theorem dX0_least_2 : decode cX0_least 2 = .ok (.getfield 12, 3) := by decide +kernel
theorem dX0_least_5 : decode cX0_least 5 = .ok (.iconst 0, 1) := by decide +kernel
theorem dX0_least_6 : decode cX0_least 6 = .ok (.aload_n 0, 1) := by decide +kernel
theorem dX0_least_7 : decode cX0_least 7 = .ok (.iconst (-1), 1) := by decide +kernel
theorem dX0_least_8 : decode cX0_least 8 = .ok (.invokevirtual 80, 3) := by decide +kernel
theorem dX0_least_11 : decode cX0_least 11 = .ok (.invokevirtual 83, 3) := by decide +kernel
theorem dX0_least_14 : decode cX0_least 14 = .ok (.putfield 23, 3) := by decide +kernel
theorem dX0_least_17 : decode cX0_least 17 = .ok (.aload_n 0, 1) := by decide +kernel
theorem dX0_least_18 : decode cX0_least 18 = .ok (.getfield 23, 3) := by decide +kernel
theorem dX0_least_21 : decode cX0_least 21 = .ok (.ireturn, 1) := by decide +kernel
theorem dX0_next_0 : decode cX0_next 0 = .ok (.aload_n 0, 1) := by decide +kernel
theorem dX0_next_1 : decode cX0_next 1 = .ok (.getfield 23, 3) := by decide +kernel
theorem dX0_next_4 : decode cX0_next 4 = .ok (.iconst (-1), 1) := by decide +kernel
theorem dX0_next_5 : decode cX0_next 5 = .ok (.if_icmp .ne 13, 3) := by decide +kernel
theorem dX0_next_8 : decode cX0_next 8 = .ok (.new 41, 3) := by decide +kernel
theorem dX0_next_11 : decode cX0_next 11 = .ok (.dup, 1) := by decide +kernel
theorem dX0_next_12 : decode cX0_next 12 = .ok (.ldc 87, 2) := by decide +kernel
theorem dX0_next_14 : decode cX0_next 14 = .ok (.invokespecial 45, 3) := by decide +kernel
theorem dX0_next_17 : decode cX0_next 17 = .ok (.athrow, 1) := by decide +kernel
theorem dX0_next_18 : decode cX0_next 18 = .ok (.aload_n 0, 1) := by decide +kernel
theorem dX0_next_19 : decode cX0_next 19 = .ok (.aload_n 0, 1) := by decide +kernel
theorem dX0_next_20 : decode cX0_next 20 = .ok (.getfield 12, 3) := by decide +kernel
theorem dX0_next_23 : decode cX0_next 23 = .ok (.aload_n 0, 1) := by decide +kernel
theorem dX0_next_24 : decode cX0_next 24 = .ok (.getfield 23, 3) := by decide +kernel
theorem dX0_next_27 : decode cX0_next 27 = .ok (.iconst 1, 1) := by decide +kernel
theorem dX0_next_28 : decode cX0_next 28 = .ok (.iadd, 1) := by decide +kernel
theorem dX0_next_29 : decode cX0_next 29 = .ok (.aload_n 0, 1) := by decide +kernel
theorem dX0_next_30 : decode cX0_next 30 = .ok (.iconst (-1), 1) := by decide +kernel
theorem dX0_next_31 : decode cX0_next 31 = .ok (.invokevirtual 80, 3) := by decide +kernel
theorem dX0_next_34 : decode cX0_next 34 = .ok (.invokevirtual 83, 3) := by decide +kernel
theorem dX0_next_37 : decode cX0_next 37 = .ok (.putfield 23, 3) := by decide +kernel
theorem dX0_next_40 : decode cX0_next 40 = .ok (.aload_n 0, 1) := by decide +kernel
theorem dX0_next_41 : decode cX0_next 41 = .ok (.getfield 23, 3) := by decide +kernel
theorem dX0_next_44 : decode cX0_next 44 = .ok (.ireturn, 1) := by decide +kernel
theorem dX0_can_0 : decode cX0_can 0 = .ok (.aload_n 0, 1) := by decide +kernel
theorem dX0_can_1 : decode cX0_can 1 = .ok (.aload_n 0, 1) := by decide +kernel
theorem dX0_can_2 : decode cX0_can 2 = .ok (.iconst (-1), 1) := by decide +kernel
theorem dX0_can_3 : decode cX0_can 3 = .ok (.invokevirtual 80, 3) := by decide +kernel
theorem dX0_can_6 : decode cX0_can 6 = .ok (.invokevirtual 89, 3) := by decide +kernel
theorem dX0_can_9 : decode cX0_can 9 = .ok (.ireturn, 1) := by decide +kernel
theorem dX0_forced_0 : decode cX0_forced 0 = .ok (.iload_n 1, 1) := by decide +kernel
theorem dX0_forced_1 : decode cX0_forced 1 = .ok (.invokestatic 27, 3) := by decide +kernel
theorem dX0_forced_4 : decode cX0_forced 4 = .ok (.ifCond .ne 13, 3) := by decide +kernel
theorem dX0_forced_7 : decode cX0_forced 7 = .ok (.new 31, 3) := by decide +kernel
theorem dX0_forced_10 : decode cX0_forced 10 = .ok (.dup, 1) := by decide +kernel
theorem dX0_forced_11 : decode cX0_forced 11 = .ok (.ldc 33, 2) := by decide +kernel
theorem dX0_forced_13 : decode cX0_forced 13 = .ok (.invokespecial 35, 3) := by decide +kernel
theorem dX0_forced_16 : decode cX0_forced 16 = .ok (.athrow, 1) := by decide +kernel
theorem dX0_forced_17 : decode cX0_forced 17 = .ok (.aload_n 0, 1) := by decide +kernel
theorem dX0_forced_18 : decode cX0_forced 18 = .ok (.iconst (-1), 1) := by decide +kernel
theorem dX0_forced_19 : decode cX0_forced 19 = .ok (.invokevirtual 80, 3) := by decide +kernel
theorem dX0_forced_22 : decode cX0_forced 22 = .ok (.istore_n 2, 1) := by decide +kernel
theorem dX0_forced_23 : decode cX0_forced 23 = .ok (.aload_n 0, 1) := by decide +kernel
theorem dX0_forced_24 : decode cX0_forced 24 = .ok (.getfield 12, 3) := by decide +kernel
theorem dX0_forced_27 : decode cX0_forced 27 = .ok (.iload_n 2, 1) := by decide +kernel
theorem dX0_forced_28 : decode cX0_forced 28 = .ok (.iload_n 1, 1) := by decide +kernel
theorem dX0_forced_29 : decode cX0_forced 29 = .ok (.ineg, 1) := by decide +kernel
theorem dX0_forced_30 : decode cX0_forced 30 = .ok (.invokestatic 49, 3) := by decide +kernel
theorem dX0_forced_33 : decode cX0_forced 33 = .ok (.iload_n 1, 1) := by decide +kernel
theorem dX0_forced_34 : decode cX0_forced 34 = .ok (.ineg, 1) := by decide +kernel
theorem dX0_forced_35 : decode cX0_forced 35 = .ok (.invokestatic 56, 3) := by decide +kernel
theorem dX0_forced_38 : decode cX0_forced 38 = .ok (.invokevirtual 64, 3) := by decide +kernel
theorem dX0_forced_41 : decode cX0_forced 41 = .ok (.aload_n 0, 1) := by decide +kernel
theorem dX0_forced_42 : decode cX0_forced 42 = .ok (.iload_n 2, 1) := by decide +kernel
theorem dX0_forced_43 : decode cX0_forced 43 = .ok (.iconst 1, 1) := by decide +kernel
theorem dX0_forced_44 : decode cX0_forced 44 = .ok (.iadd, 1) := by decide +kernel
theorem dX0_forced_45 : decode cX0_forced 45 = .ok (.invokevirtual 89, 3) := by decide +kernel
theorem dX0_forced_48 : decode cX0_forced 48 = .ok (.ifCond .ne 7, 3) := by decide +kernel
theorem dX0_forced_51 : decode cX0_forced 51 = .ok (.iconst 1, 1) := by decide +kernel
theorem dX0_forced_52 : decode cX0_forced 52 = .ok (.goto 4, 3) := by decide +kernel
theorem dX0_forced_55 : decode cX0_forced 55 = .ok (.iconst 0, 1) := by decide +kernel
theorem dX0_forced_56 : decode cX0_forced 56 = .ok (.ireturn, 1) := by decide +kernel
theorem dX0_blames_0 : decode cX0_blames 0 = .ok (.iload_n 1, 1) := by decide +kernel
theorem dX0_blames_1 : decode cX0_blames 1 = .ok (.ifCond .lt 11, 3) := by decide +kernel
theorem dX0_blames_4 : decode cX0_blames 4 = .ok (.iload_n 1, 1) := by decide +kernel
theorem dX0_blames_5 : decode cX0_blames 5 = .ok (.aload_n 0, 1) := by decide +kernel
theorem dX0_blames_6 : decode cX0_blames 6 = .ok (.getfield 75, 3) := by decide +kernel
theorem dX0_blames_9 : decode cX0_blames 9 = .ok (.if_icmp .lt 13, 3) := by decide +kernel
theorem dX0_blames_12 : decode cX0_blames 12 = .ok (.new 92, 3) := by decide +kernel
theorem dX0_blames_15 : decode cX0_blames 15 = .ok (.dup, 1) := by decide +kernel
theorem dX0_blames_16 : decode cX0_blames 16 = .ok (.ldc 94, 2) := by decide +kernel
theorem dX0_blames_18 : decode cX0_blames 18 = .ok (.invokespecial 96, 3) := by decide +kernel
theorem dX0_blames_21 : decode cX0_blames 21 = .ok (.athrow, 1) := by decide +kernel
theorem dX0_blames_22 : decode cX0_blames 22 = .ok (.aload_n 0, 1) := by decide +kernel
theorem dX0_blames_23 : decode cX0_blames 23 = .ok (.aload_n 0, 1) := by decide +kernel
theorem dX0_blames_24 : decode cX0_blames 24 = .ok (.iconst (-1), 1) := by decide +kernel
theorem dX0_blames_25 : decode cX0_blames 25 = .ok (.invokevirtual 80, 3) := by decide +kernel
theorem dX0_blames_28 : decode cX0_blames 28 = .ok (.invokevirtual 89, 3) := by decide +kernel
theorem dX0_blames_31 : decode cX0_blames 31 = .ok (.ifCond .ne 19, 3) := by decide +kernel
theorem dX0_blames_34 : decode cX0_blames 34 = .ok (.aload_n 0, 1) := by decide +kernel
theorem dX0_blames_35 : decode cX0_blames 35 = .ok (.aload_n 0, 1) := by decide +kernel
theorem dX0_blames_36 : decode cX0_blames 36 = .ok (.iload_n 1, 1) := by decide +kernel
theorem dX0_blames_37 : decode cX0_blames 37 = .ok (.invokevirtual 80, 3) := by decide +kernel
theorem dX0_blames_40 : decode cX0_blames 40 = .ok (.invokevirtual 89, 3) := by decide +kernel
theorem dX0_blames_43 : decode cX0_blames 43 = .ok (.ifCond .eq 7, 3) := by decide +kernel
theorem dX0_blames_46 : decode cX0_blames 46 = .ok (.iconst 1, 1) := by decide +kernel
theorem dX0_blames_47 : decode cX0_blames 47 = .ok (.goto 4, 3) := by decide +kernel
theorem dX0_blames_50 : decode cX0_blames 50 = .ok (.iconst 0, 1) := by decide +kernel
theorem dX0_blames_51 : decode cX0_blames 51 = .ok (.ireturn, 1) := by decide +kernel
theorem dX0_count_0 : decode cX0_count 0 = .ok (.iload_n 1, 1) := by decide +kernel
theorem dX0_count_1 : decode cX0_count 1 = .ok (.iconst 1, 1) := by decide +kernel
theorem dX0_count_2 : decode cX0_count 2 = .ok (.if_icmp .lt 9, 3) := by decide +kernel
theorem dX0_count_5 : decode cX0_count 5 = .ok (.iload_n 1, 1) := by decide +kernel
theorem dX0_count_6 : decode cX0_count 6 = .ok (.bipush 64, 2) := by decide +kernel
theorem dX0_count_8 : decode cX0_count 8 = .ok (.if_icmp .le 13, 3) := by decide +kernel
theorem dX0_count_11 : decode cX0_count 11 = .ok (.new 31, 3) := by decide +kernel
theorem dX0_count_14 : decode cX0_count 14 = .ok (.dup, 1) := by decide +kernel
theorem dX0_count_15 : decode cX0_count 15 = .ok (.ldc 97, 2) := by decide +kernel
theorem dX0_count_17 : decode cX0_count 17 = .ok (.invokespecial 35, 3) := by decide +kernel
theorem dX0_count_20 : decode cX0_count 20 = .ok (.athrow, 1) := by decide +kernel
theorem dX0_count_21 : decode cX0_count 21 = .ok (.aload_n 0, 1) := by decide +kernel
theorem dX0_count_22 : decode cX0_count 22 = .ok (.iconst (-1), 1) := by decide +kernel
theorem dX0_count_23 : decode cX0_count 23 = .ok (.invokevirtual 80, 3) := by decide +kernel
theorem dX0_count_26 : decode cX0_count 26 = .ok (.istore_n 2, 1) := by decide +kernel
theorem dX0_count_27 : decode cX0_count 27 = .ok (.iconst 0, 1) := by decide +kernel
theorem dX0_count_28 : decode cX0_count 28 = .ok (.istore_n 3, 1) := by decide +kernel
theorem dX0_count_29 : decode cX0_count 29 = .ok (.iconst 0, 1) := by decide +kernel
theorem dX0_count_30 : decode cX0_count 30 = .ok (.istore 4, 2) := by decide +kernel
theorem dX0_count_32 : decode cX0_count 32 = .ok (.iconst 0, 1) := by decide +kernel
theorem dX0_count_33 : decode cX0_count 33 = .ok (.istore 5, 2) := by decide +kernel
theorem dX0_count_35 : decode cX0_count 35 = .ok (.iload 5, 2) := by decide +kernel
theorem dX0_count_37 : decode cX0_count 37 = .ok (.iload_n 1, 1) := by decide +kernel
theorem dX0_count_38 : decode cX0_count 38 = .ok (.if_icmp .ge 51, 3) := by decide +kernel
theorem dX0_count_41 : decode cX0_count 41 = .ok (.iload_n 3, 1) := by decide +kernel
theorem dX0_count_42 : decode cX0_count 42 = .ok (.iload_n 1, 1) := by decide +kernel
theorem dX0_count_43 : decode cX0_count 43 = .ok (.if_icmp .ge 46, 3) := by decide +kernel
theorem dX0_count_46 : decode cX0_count 46 = .ok (.aload_n 0, 1) := by decide +kernel
theorem dX0_count_47 : decode cX0_count 47 = .ok (.getfield 12, 3) := by decide +kernel
theorem dX0_count_50 : decode cX0_count 50 = .ok (.iload 4, 2) := by decide +kernel
theorem dX0_count_52 : decode cX0_count 52 = .ok (.iload_n 2, 1) := by decide +kernel
theorem dX0_count_53 : decode cX0_count 53 = .ok (.invokevirtual 83, 3) := by decide +kernel
theorem dX0_count_56 : decode cX0_count 56 = .ok (.istore 6, 2) := by decide +kernel
theorem dX0_count_58 : decode cX0_count 58 = .ok (.iload 6, 2) := by decide +kernel
theorem dX0_count_60 : decode cX0_count 60 = .ok (.iconst (-1), 1) := by decide +kernel
theorem dX0_count_61 : decode cX0_count 61 = .ok (.if_icmp .ne 5, 3) := by decide +kernel
theorem dX0_count_64 : decode cX0_count 64 = .ok (.iload_n 3, 1) := by decide +kernel
theorem dX0_count_65 : decode cX0_count 65 = .ok (.ireturn, 1) := by decide +kernel
theorem dX0_count_66 : decode cX0_count 66 = .ok (.iload_n 3, 1) := by decide +kernel
theorem dX0_count_67 : decode cX0_count 67 = .ok (.aload_n 0, 1) := by decide +kernel
theorem dX0_count_68 : decode cX0_count 68 = .ok (.getfield 12, 3) := by decide +kernel
theorem dX0_count_71 : decode cX0_count 71 = .ok (.invokevirtual 99, 3) := by decide +kernel
theorem dX0_count_74 : decode cX0_count 74 = .ok (.iadd, 1) := by decide +kernel
theorem dX0_count_75 : decode cX0_count 75 = .ok (.istore_n 3, 1) := by decide +kernel
theorem dX0_count_76 : decode cX0_count 76 = .ok (.iload 6, 2) := by decide +kernel
theorem dX0_count_78 : decode cX0_count 78 = .ok (.invokestatic 103, 3) := by decide +kernel
theorem dX0_count_81 : decode cX0_count 81 = .ok (.istore 4, 2) := by decide +kernel
theorem dX0_count_83 : decode cX0_count 83 = .ok (.iinc 5 1, 3) := by decide +kernel
theorem dX0_count_86 : decode cX0_count 86 = .ok (.goto (-51), 3) := by decide +kernel
theorem dX0_count_89 : decode cX0_count 89 = .ok (.iload_n 3, 1) := by decide +kernel
theorem dX0_count_90 : decode cX0_count 90 = .ok (.iload_n 1, 1) := by decide +kernel
theorem dX0_count_91 : decode cX0_count 91 = .ok (.invokestatic 106, 3) := by decide +kernel
theorem dX0_count_94 : decode cX0_count 94 = .ok (.ireturn, 1) := by decide +kernel
theorem dX0_value_0 : decode cX0_value 0 = .ok (.iload_n 1, 1) := by decide +kernel
theorem dX0_value_1 : decode cX0_value 1 = .ok (.iconst 1, 1) := by decide +kernel
theorem dX0_value_2 : decode cX0_value 2 = .ok (.if_icmp .lt 9, 3) := by decide +kernel
theorem dX0_value_5 : decode cX0_value 5 = .ok (.iload_n 1, 1) := by decide +kernel
theorem dX0_value_6 : decode cX0_value 6 = .ok (.bipush 18, 2) := by decide +kernel
theorem dX0_value_8 : decode cX0_value 8 = .ok (.if_icmp .le 13, 3) := by decide +kernel
theorem dX0_value_11 : decode cX0_value 11 = .ok (.new 31, 3) := by decide +kernel
theorem dX0_value_14 : decode cX0_value 14 = .ok (.dup, 1) := by decide +kernel
theorem dX0_value_15 : decode cX0_value 15 = .ok (.ldc 111, 2) := by decide +kernel
theorem dX0_value_17 : decode cX0_value 17 = .ok (.invokespecial 35, 3) := by decide +kernel
theorem dX0_value_20 : decode cX0_value 20 = .ok (.athrow, 1) := by decide +kernel
theorem dX0_value_21 : decode cX0_value 21 = .ok (.aload_n 0, 1) := by decide +kernel
theorem dX0_value_22 : decode cX0_value 22 = .ok (.getfield 23, 3) := by decide +kernel
theorem dX0_value_25 : decode cX0_value 25 = .ok (.iconst (-1), 1) := by decide +kernel
theorem dX0_value_26 : decode cX0_value 26 = .ok (.if_icmp .ne 13, 3) := by decide +kernel
theorem dX0_value_29 : decode cX0_value 29 = .ok (.new 41, 3) := by decide +kernel
theorem dX0_value_32 : decode cX0_value 32 = .ok (.dup, 1) := by decide +kernel
theorem dX0_value_33 : decode cX0_value 33 = .ok (.ldc 87, 2) := by decide +kernel
theorem dX0_value_35 : decode cX0_value 35 = .ok (.invokespecial 45, 3) := by decide +kernel
theorem dX0_value_38 : decode cX0_value 38 = .ok (.athrow, 1) := by decide +kernel
theorem dX0_value_39 : decode cX0_value 39 = .ok (.aload_n 0, 1) := by decide +kernel
theorem dX0_value_40 : decode cX0_value 40 = .ok (.getfield 23, 3) := by decide +kernel
theorem dX0_value_43 : decode cX0_value 43 = .ok (.iload_n 1, 1) := by decide +kernel
theorem dX0_value_44 : decode cX0_value 44 = .ok (.iconst 1, 1) := by decide +kernel
theorem dX0_value_45 : decode cX0_value 45 = .ok (.isub, 1) := by decide +kernel
theorem dX0_value_46 : decode cX0_value 46 = .ok (.ishr, 1) := by decide +kernel
theorem dX0_value_47 : decode cX0_value 47 = .ok (.iconst 1, 1) := by decide +kernel
theorem dX0_value_48 : decode cX0_value 48 = .ok (.iand, 1) := by decide +kernel
theorem dX0_value_49 : decode cX0_value 49 = .ok (.ireturn, 1) := by decide +kernel
theorem dX0_look_0 : decode cX0_look 0 = .ok (.iload_n 1, 1) := by decide +kernel
theorem dX0_look_1 : decode cX0_look 1 = .ok (.tableswitch 69 0 4 #[35, 40, 45, 50, 55], 35) := by decide +kernel
theorem dX0_look_36 : decode cX0_look 36 = .ok (.aload_n 0, 1) := by decide +kernel
theorem dX0_look_37 : decode cX0_look 37 = .ok (.getfield 59, 3) := by decide +kernel
theorem dX0_look_40 : decode cX0_look 40 = .ok (.ireturn, 1) := by decide +kernel
theorem dX0_look_41 : decode cX0_look 41 = .ok (.aload_n 0, 1) := by decide +kernel
theorem dX0_look_42 : decode cX0_look 42 = .ok (.getfield 68, 3) := by decide +kernel
theorem dX0_look_45 : decode cX0_look 45 = .ok (.ireturn, 1) := by decide +kernel
theorem dX0_look_46 : decode cX0_look 46 = .ok (.aload_n 0, 1) := by decide +kernel
theorem dX0_look_47 : decode cX0_look 47 = .ok (.getfield 75, 3) := by decide +kernel
theorem dX0_look_50 : decode cX0_look 50 = .ok (.ireturn, 1) := by decide +kernel
theorem dX0_look_51 : decode cX0_look 51 = .ok (.aload_n 0, 1) := by decide +kernel
theorem dX0_look_52 : decode cX0_look 52 = .ok (.getfield 38, 3) := by decide +kernel
theorem dX0_look_55 : decode cX0_look 55 = .ok (.ireturn, 1) := by decide +kernel
theorem dX0_look_56 : decode cX0_look 56 = .ok (.aload_n 0, 1) := by decide +kernel
theorem dX0_look_57 : decode cX0_look 57 = .ok (.getfield 23, 3) := by decide +kernel
theorem dX0_look_60 : decode cX0_look 60 = .ok (.iconst (-1), 1) := by decide +kernel
theorem dX0_look_61 : decode cX0_look 61 = .ok (.if_icmp .ne 7, 3) := by decide +kernel
theorem dX0_look_64 : decode cX0_look 64 = .ok (.iconst 0, 1) := by decide +kernel
theorem dX0_look_65 : decode cX0_look 65 = .ok (.goto 4, 3) := by decide +kernel
theorem dX0_look_68 : decode cX0_look 68 = .ok (.iconst 1, 1) := by decide +kernel
theorem dX0_look_69 : decode cX0_look 69 = .ok (.ireturn, 1) := by decide +kernel
theorem dX0_look_70 : decode cX0_look 70 = .ok (.new 31, 3) := by decide +kernel
theorem dX0_look_73 : decode cX0_look 73 = .ok (.dup, 1) := by decide +kernel
theorem dX0_look_74 : decode cX0_look 74 = .ok (.ldc 113, 2) := by decide +kernel
theorem dX0_look_76 : decode cX0_look 76 = .ok (.invokespecial 35, 3) := by decide +kernel
theorem dX0_look_79 : decode cX0_look 79 = .ok (.athrow, 1) := by decide +kernel
theorem dX0_isLiteral_0 : decode cX0_isLiteral 0 = .ok (.iload_n 0, 1) := by decide +kernel
theorem dX0_isLiteral_1 : decode cX0_isLiteral 1 = .ok (.ifCond .eq 19, 3) := by decide +kernel
theorem dX0_isLiteral_4 : decode cX0_isLiteral 4 = .ok (.iload_n 0, 1) := by decide +kernel
theorem dX0_isLiteral_5 : decode cX0_isLiteral 5 = .ok (.bipush (-18), 2) := by decide +kernel
theorem dX0_isLiteral_7 : decode cX0_isLiteral 7 = .ok (.if_icmp .lt 13, 3) := by decide +kernel
theorem dX0_isLiteral_10 : decode cX0_isLiteral 10 = .ok (.iload_n 0, 1) := by decide +kernel
theorem dX0_isLiteral_11 : decode cX0_isLiteral 11 = .ok (.bipush 18, 2) := by decide +kernel
theorem dX0_isLiteral_13 : decode cX0_isLiteral 13 = .ok (.if_icmp .gt 7, 3) := by decide +kernel
theorem dX0_isLiteral_16 : decode cX0_isLiteral 16 = .ok (.iconst 1, 1) := by decide +kernel
theorem dX0_isLiteral_17 : decode cX0_isLiteral 17 = .ok (.goto 4, 3) := by decide +kernel
theorem dX0_isLiteral_20 : decode cX0_isLiteral 20 = .ok (.iconst 0, 1) := by decide +kernel
theorem dX0_isLiteral_21 : decode cX0_isLiteral 21 = .ok (.ireturn, 1) := by decide +kernel
theorem dX0_yesMask_0 : decode cX0_yesMask 0 = .ok (.iload_n 0, 1) := by decide +kernel
theorem dX0_yesMask_1 : decode cX0_yesMask 1 = .ok (.ifCond .le 11, 3) := by decide +kernel
theorem dX0_yesMask_4 : decode cX0_yesMask 4 = .ok (.iconst 1, 1) := by decide +kernel
theorem dX0_yesMask_5 : decode cX0_yesMask 5 = .ok (.iload_n 0, 1) := by decide +kernel
theorem dX0_yesMask_6 : decode cX0_yesMask 6 = .ok (.iconst 1, 1) := by decide +kernel
theorem dX0_yesMask_7 : decode cX0_yesMask 7 = .ok (.isub, 1) := by decide +kernel
theorem dX0_yesMask_8 : decode cX0_yesMask 8 = .ok (.ishl, 1) := by decide +kernel
theorem dX0_yesMask_9 : decode cX0_yesMask 9 = .ok (.goto 4, 3) := by decide +kernel
theorem dX0_yesMask_12 : decode cX0_yesMask 12 = .ok (.iconst 0, 1) := by decide +kernel
theorem dX0_yesMask_13 : decode cX0_yesMask 13 = .ok (.ireturn, 1) := by decide +kernel
theorem dX0_noMask_0 : decode cX0_noMask 0 = .ok (.iload_n 0, 1) := by decide +kernel
theorem dX0_noMask_1 : decode cX0_noMask 1 = .ok (.ifCond .ge 12, 3) := by decide +kernel
theorem dX0_noMask_4 : decode cX0_noMask 4 = .ok (.iconst 1, 1) := by decide +kernel
theorem dX0_noMask_5 : decode cX0_noMask 5 = .ok (.iload_n 0, 1) := by decide +kernel
theorem dX0_noMask_6 : decode cX0_noMask 6 = .ok (.ineg, 1) := by decide +kernel
theorem dX0_noMask_7 : decode cX0_noMask 7 = .ok (.iconst 1, 1) := by decide +kernel
theorem dX0_noMask_8 : decode cX0_noMask 8 = .ok (.isub, 1) := by decide +kernel
theorem dX0_noMask_9 : decode cX0_noMask 9 = .ok (.ishl, 1) := by decide +kernel
theorem dX0_noMask_10 : decode cX0_noMask 10 = .ok (.goto 4, 3) := by decide +kernel
theorem dX0_noMask_13 : decode cX0_noMask 13 = .ok (.iconst 0, 1) := by decide +kernel
theorem dX0_noMask_14 : decode cX0_noMask 14 = .ok (.ireturn, 1) := by decide +kernel
theorem dX0_writeAssumptions_0 : decode cX0_writeAssumptions 0 = .ok (.aload_n 0, 1) := by decide +kernel
theorem dX0_writeAssumptions_1 : decode cX0_writeAssumptions 1 = .ok (.getfield 59, 3) := by decide +kernel
theorem dX0_writeAssumptions_4 : decode cX0_writeAssumptions 4 = .ok (.istore_n 2, 1) := by decide +kernel
theorem dX0_writeAssumptions_5 : decode cX0_writeAssumptions 5 = .ok (.iconst 0, 1) := by decide +kernel
theorem dX0_writeAssumptions_6 : decode cX0_writeAssumptions 6 = .ok (.istore_n 3, 1) := by decide +kernel
theorem dX0_writeAssumptions_7 : decode cX0_writeAssumptions 7 = .ok (.iload_n 3, 1) := by decide +kernel
theorem dX0_writeAssumptions_8 : decode cX0_writeAssumptions 8 = .ok (.aload_n 0, 1) := by decide +kernel
theorem dX0_writeAssumptions_9 : decode cX0_writeAssumptions 9 = .ok (.getfield 75, 3) := by decide +kernel
theorem dX0_writeAssumptions_12 : decode cX0_writeAssumptions 12 = .ok (.if_icmp .ge 49, 3) := by decide +kernel
theorem dX0_writeAssumptions_15 : decode cX0_writeAssumptions 15 = .ok (.iload_n 3, 1) := by decide +kernel
theorem dX0_writeAssumptions_16 : decode cX0_writeAssumptions 16 = .ok (.bipush 18, 2) := by decide +kernel
theorem dX0_writeAssumptions_18 : decode cX0_writeAssumptions 18 = .ok (.if_icmp .ge 43, 3) := by decide +kernel
theorem dX0_writeAssumptions_21 : decode cX0_writeAssumptions 21 = .ok (.iload_n 3, 1) := by decide +kernel
theorem dX0_writeAssumptions_22 : decode cX0_writeAssumptions 22 = .ok (.iload_n 1, 1) := by decide +kernel
theorem dX0_writeAssumptions_23 : decode cX0_writeAssumptions 23 = .ok (.if_icmp .eq 32, 3) := by decide +kernel
theorem dX0_writeAssumptions_26 : decode cX0_writeAssumptions 26 = .ok (.aload_n 0, 1) := by decide +kernel
theorem dX0_writeAssumptions_27 : decode cX0_writeAssumptions 27 = .ok (.getfield 12, 3) := by decide +kernel
theorem dX0_writeAssumptions_30 : decode cX0_writeAssumptions 30 = .ok (.iload_n 2, 1) := by decide +kernel
theorem dX0_writeAssumptions_31 : decode cX0_writeAssumptions 31 = .ok (.aload_n 0, 1) := by decide +kernel
theorem dX0_writeAssumptions_32 : decode cX0_writeAssumptions 32 = .ok (.getfield 20, 3) := by decide +kernel
theorem dX0_writeAssumptions_35 : decode cX0_writeAssumptions 35 = .ok (.iload_n 3, 1) := by decide +kernel
theorem dX0_writeAssumptions_36 : decode cX0_writeAssumptions 36 = .ok (.iaload, 1) := by decide +kernel
theorem dX0_writeAssumptions_37 : decode cX0_writeAssumptions 37 = .ok (.invokestatic 49, 3) := by decide +kernel
theorem dX0_writeAssumptions_40 : decode cX0_writeAssumptions 40 = .ok (.aload_n 0, 1) := by decide +kernel
theorem dX0_writeAssumptions_41 : decode cX0_writeAssumptions 41 = .ok (.getfield 20, 3) := by decide +kernel
theorem dX0_writeAssumptions_44 : decode cX0_writeAssumptions 44 = .ok (.iload_n 3, 1) := by decide +kernel
theorem dX0_writeAssumptions_45 : decode cX0_writeAssumptions 45 = .ok (.iaload, 1) := by decide +kernel
theorem dX0_writeAssumptions_46 : decode cX0_writeAssumptions 46 = .ok (.invokestatic 56, 3) := by decide +kernel
theorem dX0_writeAssumptions_49 : decode cX0_writeAssumptions 49 = .ok (.invokevirtual 64, 3) := by decide +kernel
theorem dX0_writeAssumptions_52 : decode cX0_writeAssumptions 52 = .ok (.iinc 2 1, 3) := by decide +kernel
theorem dX0_writeAssumptions_55 : decode cX0_writeAssumptions 55 = .ok (.iinc 3 1, 3) := by decide +kernel
theorem dX0_writeAssumptions_58 : decode cX0_writeAssumptions 58 = .ok (.goto (-51), 3) := by decide +kernel
theorem dX0_writeAssumptions_61 : decode cX0_writeAssumptions 61 = .ok (.iload_n 2, 1) := by decide +kernel
theorem dX0_writeAssumptions_62 : decode cX0_writeAssumptions 62 = .ok (.ireturn, 1) := by decide +kernel
theorem dX0_isSatisfied_0 : decode cX0_isSatisfied 0 = .ok (.aload_n 0, 1) := by decide +kernel
theorem dX0_isSatisfied_1 : decode cX0_isSatisfied 1 = .ok (.getfield 12, 3) := by decide +kernel
theorem dX0_isSatisfied_4 : decode cX0_isSatisfied 4 = .ok (.iconst 0, 1) := by decide +kernel
theorem dX0_isSatisfied_5 : decode cX0_isSatisfied 5 = .ok (.iload_n 1, 1) := by decide +kernel
theorem dX0_isSatisfied_6 : decode cX0_isSatisfied 6 = .ok (.invokevirtual 83, 3) := by decide +kernel
theorem dX0_isSatisfied_9 : decode cX0_isSatisfied 9 = .ok (.iconst (-1), 1) := by decide +kernel
theorem dX0_isSatisfied_10 : decode cX0_isSatisfied 10 = .ok (.if_icmp .eq 7, 3) := by decide +kernel
theorem dX0_isSatisfied_13 : decode cX0_isSatisfied 13 = .ok (.iconst 1, 1) := by decide +kernel
theorem dX0_isSatisfied_14 : decode cX0_isSatisfied 14 = .ok (.goto 4, 3) := by decide +kernel
theorem dX0_isSatisfied_17 : decode cX0_isSatisfied 17 = .ok (.iconst 0, 1) := by decide +kernel
theorem dX0_isSatisfied_18 : decode cX0_isSatisfied 18 = .ok (.ireturn, 1) := by decide +kernel
end
section
theorem dX1_init_0 : decode cX1_init 0 = .ok (.aload_n 0, 1) := by decide +kernel
theorem dX1_init_1 : decode cX1_init 1 = .ok (.invokespecial 1, 3) := by decide +kernel
theorem dX1_init_4 : decode cX1_init 4 = .ok (.aload_n 0, 1) := by decide +kernel
theorem dX1_init_5 : decode cX1_init 5 = .ok (.bipush 18, 2) := by decide +kernel
theorem dX1_init_7 : decode cX1_init 7 = .ok (.newarray .int, 2) := by decide +kernel
theorem dX1_init_9 : decode cX1_init 9 = .ok (.putfield 7, 3) := by decide +kernel
theorem dX1_init_12 : decode cX1_init 12 = .ok (.aload_n 0, 1) := by decide +kernel
theorem dX1_init_13 : decode cX1_init 13 = .ok (.sipush 7200, 3) := by decide +kernel
theorem dX1_init_16 : decode cX1_init 16 = .ok (.newarray .int, 2) := by decide +kernel
theorem dX1_init_18 : decode cX1_init 18 = .ok (.putfield 13, 3) := by decide +kernel
theorem dX1_init_21 : decode cX1_init 21 = .ok (.aload_n 0, 1) := by decide +kernel
theorem dX1_init_22 : decode cX1_init 22 = .ok (.sipush 400, 3) := by decide +kernel
theorem dX1_init_25 : decode cX1_init 25 = .ok (.newarray .int, 2) := by decide +kernel
theorem dX1_init_27 : decode cX1_init 27 = .ok (.putfield 16, 3) := by decide +kernel
theorem dX1_init_30 : decode cX1_init 30 = .ok (.aload_n 0, 1) := by decide +kernel
theorem dX1_init_31 : decode cX1_init 31 = .ok (.sipush 400, 3) := by decide +kernel
theorem dX1_init_34 : decode cX1_init 34 = .ok (.newarray .int, 2) := by decide +kernel
theorem dX1_init_36 : decode cX1_init 36 = .ok (.putfield 19, 3) := by decide +kernel
theorem dX1_init_39 : decode cX1_init 39 = .ok (.aload_n 0, 1) := by decide +kernel
theorem dX1_init_40 : decode cX1_init 40 = .ok (.bipush 18, 2) := by decide +kernel
theorem dX1_init_42 : decode cX1_init 42 = .ok (.newarray .int, 2) := by decide +kernel
theorem dX1_init_44 : decode cX1_init 44 = .ok (.putfield 22, 3) := by decide +kernel
theorem dX1_init_47 : decode cX1_init 47 = .ok (.aload_n 0, 1) := by decide +kernel
theorem dX1_init_48 : decode cX1_init 48 = .ok (.iconst (-1), 1) := by decide +kernel
theorem dX1_init_49 : decode cX1_init 49 = .ok (.putfield 25, 3) := by decide +kernel
theorem dX1_init_52 : decode cX1_init 52 = .ok (.aload_n 0, 1) := by decide +kernel
theorem dX1_init_53 : decode cX1_init 53 = .ok (.sipush 4096, 3) := by decide +kernel
theorem dX1_init_56 : decode cX1_init 56 = .ok (.newarray .long, 2) := by decide +kernel
theorem dX1_init_58 : decode cX1_init 58 = .ok (.putfield 29, 3) := by decide +kernel
theorem dX1_init_61 : decode cX1_init 61 = .ok (.aload_n 0, 1) := by decide +kernel
theorem dX1_init_62 : decode cX1_init 62 = .ok (.bipush 6, 2) := by decide +kernel
theorem dX1_init_64 : decode cX1_init 64 = .ok (.newarray .long, 2) := by decide +kernel
theorem dX1_init_66 : decode cX1_init 66 = .ok (.dup, 1) := by decide +kernel
theorem dX1_init_67 : decode cX1_init 67 = .ok (.iconst 0, 1) := by decide +kernel
theorem dX1_init_68 : decode cX1_init 68 = .ok (.ldc2_w 33, 3) := by decide +kernel
theorem dX1_init_71 : decode cX1_init 71 = .ok (.lastore, 1) := by decide +kernel
theorem dX1_init_72 : decode cX1_init 72 = .ok (.dup, 1) := by decide +kernel
theorem dX1_init_73 : decode cX1_init 73 = .ok (.iconst 1, 1) := by decide +kernel
theorem dX1_init_74 : decode cX1_init 74 = .ok (.ldc2_w 35, 3) := by decide +kernel
theorem dX1_init_77 : decode cX1_init 77 = .ok (.lastore, 1) := by decide +kernel
theorem dX1_init_78 : decode cX1_init 78 = .ok (.dup, 1) := by decide +kernel
theorem dX1_init_79 : decode cX1_init 79 = .ok (.iconst 2, 1) := by decide +kernel
theorem dX1_init_80 : decode cX1_init 80 = .ok (.ldc2_w 37, 3) := by decide +kernel
theorem dX1_init_83 : decode cX1_init 83 = .ok (.lastore, 1) := by decide +kernel
theorem dX1_init_84 : decode cX1_init 84 = .ok (.dup, 1) := by decide +kernel
theorem dX1_init_85 : decode cX1_init 85 = .ok (.iconst 3, 1) := by decide +kernel
theorem dX1_init_86 : decode cX1_init 86 = .ok (.ldc2_w 39, 3) := by decide +kernel
theorem dX1_init_89 : decode cX1_init 89 = .ok (.lastore, 1) := by decide +kernel
theorem dX1_init_90 : decode cX1_init 90 = .ok (.dup, 1) := by decide +kernel
theorem dX1_init_91 : decode cX1_init 91 = .ok (.iconst 4, 1) := by decide +kernel
theorem dX1_init_92 : decode cX1_init 92 = .ok (.ldc2_w 41, 3) := by decide +kernel
theorem dX1_init_95 : decode cX1_init 95 = .ok (.lastore, 1) := by decide +kernel
theorem dX1_init_96 : decode cX1_init 96 = .ok (.dup, 1) := by decide +kernel
theorem dX1_init_97 : decode cX1_init 97 = .ok (.iconst 5, 1) := by decide +kernel
theorem dX1_init_98 : decode cX1_init 98 = .ok (.ldc2_w 43, 3) := by decide +kernel
theorem dX1_init_101 : decode cX1_init 101 = .ok (.lastore, 1) := by decide +kernel
theorem dX1_init_102 : decode cX1_init 102 = .ok (.putfield 45, 3) := by decide +kernel
theorem dX1_init_105 : decode cX1_init 105 = .ok (.aload_n 0, 1) := by decide +kernel
theorem dX1_init_106 : decode cX1_init 106 = .ok (.invokevirtual 48, 3) := by decide +kernel
theorem dX1_init_109 : decode cX1_init 109 = .ok (.return_, 1) := by decide +kernel
theorem dX1_thrown_0 : decode cX1_thrown 0 = .ok (.aload_n 0, 1) := by decide +kernel
theorem dX1_thrown_1 : decode cX1_thrown 1 = .ok (.getfield 51, 3) := by decide +kernel
theorem dX1_thrown_4 : decode cX1_thrown 4 = .ok (.ireturn, 1) := by decide +kernel
theorem dX1_throwing_0 : decode cX1_throwing 0 = .ok (.aload_n 0, 1) := by decide +kernel
theorem dX1_throwing_1 : decode cX1_throwing 1 = .ok (.iload_n 1, 1) := by decide +kernel
theorem dX1_throwing_2 : decode cX1_throwing 2 = .ok (.ifCond .eq 7, 3) := by decide +kernel
theorem dX1_throwing_5 : decode cX1_throwing 5 = .ok (.iconst 1, 1) := by decide +kernel
theorem dX1_throwing_6 : decode cX1_throwing 6 = .ok (.goto 12, 3) := by decide +kernel
theorem dX1_throwing_9 : decode cX1_throwing 9 = .ok (.iload_n 2, 1) := by decide +kernel
theorem dX1_throwing_10 : decode cX1_throwing 10 = .ok (.ifCond .eq 7, 3) := by decide +kernel
theorem dX1_throwing_13 : decode cX1_throwing 13 = .ok (.iconst 2, 1) := by decide +kernel
theorem dX1_throwing_14 : decode cX1_throwing 14 = .ok (.goto 4, 3) := by decide +kernel
theorem dX1_throwing_17 : decode cX1_throwing 17 = .ok (.iconst 0, 1) := by decide +kernel
theorem dX1_throwing_18 : decode cX1_throwing 18 = .ok (.putfield 51, 3) := by decide +kernel
theorem dX1_throwing_21 : decode cX1_throwing 21 = .ok (.aload_n 0, 1) := by decide +kernel
theorem dX1_throwing_22 : decode cX1_throwing 22 = .ok (.getfield 51, 3) := by decide +kernel
theorem dX1_throwing_25 : decode cX1_throwing 25 = .ok (.ifCond .le 7, 3) := by decide +kernel
theorem dX1_throwing_28 : decode cX1_throwing 28 = .ok (.iconst 1, 1) := by decide +kernel
theorem dX1_throwing_29 : decode cX1_throwing 29 = .ok (.goto 4, 3) := by decide +kernel
theorem dX1_throwing_32 : decode cX1_throwing 32 = .ok (.iconst 0, 1) := by decide +kernel
theorem dX1_throwing_33 : decode cX1_throwing 33 = .ok (.ireturn, 1) := by decide +kernel
theorem dX1_isLiteral_0 : decode cX1_isLiteral 0 = .ok (.iload_n 0, 1) := by decide +kernel
theorem dX1_isLiteral_1 : decode cX1_isLiteral 1 = .ok (.ifCond .eq 19, 3) := by decide +kernel
theorem dX1_isLiteral_4 : decode cX1_isLiteral 4 = .ok (.iload_n 0, 1) := by decide +kernel
theorem dX1_isLiteral_5 : decode cX1_isLiteral 5 = .ok (.bipush (-18), 2) := by decide +kernel
theorem dX1_isLiteral_7 : decode cX1_isLiteral 7 = .ok (.if_icmp .lt 13, 3) := by decide +kernel
theorem dX1_isLiteral_10 : decode cX1_isLiteral 10 = .ok (.iload_n 0, 1) := by decide +kernel
theorem dX1_isLiteral_11 : decode cX1_isLiteral 11 = .ok (.bipush 18, 2) := by decide +kernel
theorem dX1_isLiteral_13 : decode cX1_isLiteral 13 = .ok (.if_icmp .gt 7, 3) := by decide +kernel
theorem dX1_isLiteral_16 : decode cX1_isLiteral 16 = .ok (.iconst 1, 1) := by decide +kernel
theorem dX1_isLiteral_17 : decode cX1_isLiteral 17 = .ok (.goto 4, 3) := by decide +kernel
theorem dX1_isLiteral_20 : decode cX1_isLiteral 20 = .ok (.iconst 0, 1) := by decide +kernel
theorem dX1_isLiteral_21 : decode cX1_isLiteral 21 = .ok (.ireturn, 1) := by decide +kernel
theorem dX1_truth_0 : decode cX1_truth 0 = .ok (.iload_n 1, 1) := by decide +kernel
theorem dX1_truth_1 : decode cX1_truth 1 = .ok (.ifCond .ge 8, 3) := by decide +kernel
theorem dX1_truth_4 : decode cX1_truth 4 = .ok (.iload_n 1, 1) := by decide +kernel
theorem dX1_truth_5 : decode cX1_truth 5 = .ok (.ineg, 1) := by decide +kernel
theorem dX1_truth_6 : decode cX1_truth 6 = .ok (.goto 4, 3) := by decide +kernel
theorem dX1_truth_9 : decode cX1_truth 9 = .ok (.iload_n 1, 1) := by decide +kernel
theorem dX1_truth_10 : decode cX1_truth 10 = .ok (.istore_n 3, 1) := by decide +kernel
theorem dX1_truth_11 : decode cX1_truth 11 = .ok (.iload_n 3, 1) := by decide +kernel
theorem dX1_truth_12 : decode cX1_truth 12 = .ok (.bipush 7, 2) := by decide +kernel
theorem dX1_truth_14 : decode cX1_truth 14 = .ok (.if_icmp .ge 14, 3) := by decide +kernel
theorem dX1_truth_17 : decode cX1_truth 17 = .ok (.aload_n 0, 1) := by decide +kernel
theorem dX1_truth_18 : decode cX1_truth 18 = .ok (.getfield 45, 3) := by decide +kernel
theorem dX1_truth_21 : decode cX1_truth 21 = .ok (.iload_n 3, 1) := by decide +kernel
theorem dX1_truth_22 : decode cX1_truth 22 = .ok (.iconst 1, 1) := by decide +kernel
theorem dX1_truth_23 : decode cX1_truth 23 = .ok (.isub, 1) := by decide +kernel
theorem dX1_truth_24 : decode cX1_truth 24 = .ok (.laload, 1) := by decide +kernel
theorem dX1_truth_25 : decode cX1_truth 25 = .ok (.goto 22, 3) := by decide +kernel
theorem dX1_truth_28 : decode cX1_truth 28 = .ok (.iload_n 2, 1) := by decide +kernel
theorem dX1_truth_29 : decode cX1_truth 29 = .ok (.iload_n 3, 1) := by decide +kernel
theorem dX1_truth_30 : decode cX1_truth 30 = .ok (.bipush 7, 2) := by decide +kernel
theorem dX1_truth_32 : decode cX1_truth 32 = .ok (.isub, 1) := by decide +kernel
theorem dX1_truth_33 : decode cX1_truth 33 = .ok (.ishr, 1) := by decide +kernel
theorem dX1_truth_34 : decode cX1_truth 34 = .ok (.iconst 1, 1) := by decide +kernel
theorem dX1_truth_35 : decode cX1_truth 35 = .ok (.iand, 1) := by decide +kernel
theorem dX1_truth_36 : decode cX1_truth 36 = .ok (.iconst 1, 1) := by decide +kernel
theorem dX1_truth_37 : decode cX1_truth 37 = .ok (.if_icmp .ne 9, 3) := by decide +kernel
theorem dX1_truth_40 : decode cX1_truth 40 = .ok (.ldc2_w 54, 3) := by decide +kernel
theorem dX1_truth_43 : decode cX1_truth 43 = .ok (.goto 4, 3) := by decide +kernel
theorem dX1_truth_46 : decode cX1_truth 46 = .ok (.lconst 0, 1) := by decide +kernel
theorem dX1_truth_47 : decode cX1_truth 47 = .ok (.lstore 4, 2) := by decide +kernel
theorem dX1_truth_49 : decode cX1_truth 49 = .ok (.iload_n 1, 1) := by decide +kernel
theorem dX1_truth_50 : decode cX1_truth 50 = .ok (.ifCond .ge 12, 3) := by decide +kernel
theorem dX1_truth_53 : decode cX1_truth 53 = .ok (.lload 4, 2) := by decide +kernel
theorem dX1_truth_55 : decode cX1_truth 55 = .ok (.ldc2_w 54, 3) := by decide +kernel
theorem dX1_truth_58 : decode cX1_truth 58 = .ok (.lxor, 1) := by decide +kernel
theorem dX1_truth_59 : decode cX1_truth 59 = .ok (.goto 5, 3) := by decide +kernel
theorem dX1_truth_62 : decode cX1_truth 62 = .ok (.lload 4, 2) := by decide +kernel
theorem dX1_truth_64 : decode cX1_truth 64 = .ok (.lreturn, 1) := by decide +kernel
theorem dX1_apply_0 : decode cX1_apply 0 = .ok (.iconst 0, 1) := by decide +kernel
theorem dX1_apply_1 : decode cX1_apply 1 = .ok (.istore_n 2, 1) := by decide +kernel
theorem dX1_apply_2 : decode cX1_apply 2 = .ok (.iload_n 2, 1) := by decide +kernel
theorem dX1_apply_3 : decode cX1_apply 3 = .ok (.sipush 4096, 3) := by decide +kernel
theorem dX1_apply_6 : decode cX1_apply 6 = .ok (.if_icmp .ge 61, 3) := by decide +kernel
theorem dX1_apply_9 : decode cX1_apply 9 = .ok (.lconst 0, 1) := by decide +kernel
theorem dX1_apply_10 : decode cX1_apply 10 = .ok (.lstore_n 3, 1) := by decide +kernel
theorem dX1_apply_11 : decode cX1_apply 11 = .ok (.iconst 0, 1) := by decide +kernel
theorem dX1_apply_12 : decode cX1_apply 12 = .ok (.istore 5, 2) := by decide +kernel
theorem dX1_apply_14 : decode cX1_apply 14 = .ok (.iload 5, 2) := by decide +kernel
theorem dX1_apply_16 : decode cX1_apply 16 = .ok (.aload_n 0, 1) := by decide +kernel
theorem dX1_apply_17 : decode cX1_apply 17 = .ok (.getfield 16, 3) := by decide +kernel
theorem dX1_apply_20 : decode cX1_apply 20 = .ok (.iload_n 1, 1) := by decide +kernel
theorem dX1_apply_21 : decode cX1_apply 21 = .ok (.iaload, 1) := by decide +kernel
theorem dX1_apply_22 : decode cX1_apply 22 = .ok (.if_icmp .ge 29, 3) := by decide +kernel
theorem dX1_apply_25 : decode cX1_apply 25 = .ok (.lload_n 3, 1) := by decide +kernel
theorem dX1_apply_26 : decode cX1_apply 26 = .ok (.aload_n 0, 1) := by decide +kernel
theorem dX1_apply_27 : decode cX1_apply 27 = .ok (.aload_n 0, 1) := by decide +kernel
theorem dX1_apply_28 : decode cX1_apply 28 = .ok (.getfield 13, 3) := by decide +kernel
theorem dX1_apply_31 : decode cX1_apply 31 = .ok (.bipush 18, 2) := by decide +kernel
theorem dX1_apply_33 : decode cX1_apply 33 = .ok (.iload_n 1, 1) := by decide +kernel
theorem dX1_apply_34 : decode cX1_apply 34 = .ok (.imul, 1) := by decide +kernel
theorem dX1_apply_35 : decode cX1_apply 35 = .ok (.iload 5, 2) := by decide +kernel
theorem dX1_apply_37 : decode cX1_apply 37 = .ok (.iadd, 1) := by decide +kernel
theorem dX1_apply_38 : decode cX1_apply 38 = .ok (.iaload, 1) := by decide +kernel
theorem dX1_apply_39 : decode cX1_apply 39 = .ok (.iload_n 2, 1) := by decide +kernel
theorem dX1_apply_40 : decode cX1_apply 40 = .ok (.invokevirtual 56, 3) := by decide +kernel
theorem dX1_apply_43 : decode cX1_apply 43 = .ok (.lor, 1) := by decide +kernel
theorem dX1_apply_44 : decode cX1_apply 44 = .ok (.lstore_n 3, 1) := by decide +kernel
theorem dX1_apply_45 : decode cX1_apply 45 = .ok (.iinc 5 1, 3) := by decide +kernel
theorem dX1_apply_48 : decode cX1_apply 48 = .ok (.goto (-34), 3) := by decide +kernel
theorem dX1_apply_51 : decode cX1_apply 51 = .ok (.aload_n 0, 1) := by decide +kernel
theorem dX1_apply_52 : decode cX1_apply 52 = .ok (.getfield 29, 3) := by decide +kernel
theorem dX1_apply_55 : decode cX1_apply 55 = .ok (.iload_n 2, 1) := by decide +kernel
theorem dX1_apply_56 : decode cX1_apply 56 = .ok (.dup2, 1) := by decide +kernel
theorem dX1_apply_57 : decode cX1_apply 57 = .ok (.laload, 1) := by decide +kernel
theorem dX1_apply_58 : decode cX1_apply 58 = .ok (.lload_n 3, 1) := by decide +kernel
theorem dX1_apply_59 : decode cX1_apply 59 = .ok (.land, 1) := by decide +kernel
theorem dX1_apply_60 : decode cX1_apply 60 = .ok (.lastore, 1) := by decide +kernel
theorem dX1_apply_61 : decode cX1_apply 61 = .ok (.iinc 2 1, 3) := by decide +kernel
theorem dX1_apply_64 : decode cX1_apply 64 = .ok (.goto (-62), 3) := by decide +kernel
theorem dX1_apply_67 : decode cX1_apply 67 = .ok (.return_, 1) := by decide +kernel
theorem dX1_renew_0 : decode cX1_renew 0 = .ok (.iconst 0, 1) := by decide +kernel
theorem dX1_renew_1 : decode cX1_renew 1 = .ok (.istore_n 1, 1) := by decide +kernel
theorem dX1_renew_2 : decode cX1_renew 2 = .ok (.iload_n 1, 1) := by decide +kernel
theorem dX1_renew_3 : decode cX1_renew 3 = .ok (.sipush 4096, 3) := by decide +kernel
theorem dX1_renew_6 : decode cX1_renew 6 = .ok (.if_icmp .ge 18, 3) := by decide +kernel
theorem dX1_renew_9 : decode cX1_renew 9 = .ok (.aload_n 0, 1) := by decide +kernel
theorem dX1_renew_10 : decode cX1_renew 10 = .ok (.getfield 29, 3) := by decide +kernel
theorem dX1_renew_13 : decode cX1_renew 13 = .ok (.iload_n 1, 1) := by decide +kernel
theorem dX1_renew_14 : decode cX1_renew 14 = .ok (.ldc2_w 54, 3) := by decide +kernel
theorem dX1_renew_17 : decode cX1_renew 17 = .ok (.lastore, 1) := by decide +kernel
theorem dX1_renew_18 : decode cX1_renew 18 = .ok (.iinc 1 1, 3) := by decide +kernel
theorem dX1_renew_21 : decode cX1_renew 21 = .ok (.goto (-19), 3) := by decide +kernel
theorem dX1_renew_24 : decode cX1_renew 24 = .ok (.iconst 0, 1) := by decide +kernel
theorem dX1_renew_25 : decode cX1_renew 25 = .ok (.istore_n 1, 1) := by decide +kernel
theorem dX1_renew_26 : decode cX1_renew 26 = .ok (.iload_n 1, 1) := by decide +kernel
theorem dX1_renew_27 : decode cX1_renew 27 = .ok (.aload_n 0, 1) := by decide +kernel
theorem dX1_renew_28 : decode cX1_renew 28 = .ok (.getfield 60, 3) := by decide +kernel
theorem dX1_renew_31 : decode cX1_renew 31 = .ok (.if_icmp .ge 14, 3) := by decide +kernel
theorem dX1_renew_34 : decode cX1_renew 34 = .ok (.aload_n 0, 1) := by decide +kernel
theorem dX1_renew_35 : decode cX1_renew 35 = .ok (.iload_n 1, 1) := by decide +kernel
theorem dX1_renew_36 : decode cX1_renew 36 = .ok (.invokevirtual 63, 3) := by decide +kernel
theorem dX1_renew_39 : decode cX1_renew 39 = .ok (.iinc 1 1, 3) := by decide +kernel
theorem dX1_renew_42 : decode cX1_renew 42 = .ok (.goto (-16), 3) := by decide +kernel
theorem dX1_renew_45 : decode cX1_renew 45 = .ok (.return_, 1) := by decide +kernel
theorem dX1_word_0 : decode cX1_word 0 = .ok (.aload_n 0, 1) := by decide +kernel
theorem dX1_word_1 : decode cX1_word 1 = .ok (.getfield 29, 3) := by decide +kernel
theorem dX1_word_4 : decode cX1_word 4 = .ok (.iload_n 1, 1) := by decide +kernel
theorem dX1_word_5 : decode cX1_word 5 = .ok (.laload, 1) := by decide +kernel
theorem dX1_word_6 : decode cX1_word 6 = .ok (.lstore_n 3, 1) := by decide +kernel
theorem dX1_word_7 : decode cX1_word 7 = .ok (.iconst 0, 1) := by decide +kernel
theorem dX1_word_8 : decode cX1_word 8 = .ok (.istore 5, 2) := by decide +kernel
theorem dX1_word_10 : decode cX1_word 10 = .ok (.iload 5, 2) := by decide +kernel
theorem dX1_word_12 : decode cX1_word 12 = .ok (.aload_n 0, 1) := by decide +kernel
theorem dX1_word_13 : decode cX1_word 13 = .ok (.getfield 67, 3) := by decide +kernel
theorem dX1_word_16 : decode cX1_word 16 = .ok (.if_icmp .ge 36, 3) := by decide +kernel
theorem dX1_word_19 : decode cX1_word 19 = .ok (.lload_n 3, 1) := by decide +kernel
theorem dX1_word_20 : decode cX1_word 20 = .ok (.iload 5, 2) := by decide +kernel
theorem dX1_word_22 : decode cX1_word 22 = .ok (.iload_n 2, 1) := by decide +kernel
theorem dX1_word_23 : decode cX1_word 23 = .ok (.if_icmp .ne 9, 3) := by decide +kernel
theorem dX1_word_26 : decode cX1_word 26 = .ok (.ldc2_w 54, 3) := by decide +kernel
theorem dX1_word_29 : decode cX1_word 29 = .ok (.goto 15, 3) := by decide +kernel
theorem dX1_word_32 : decode cX1_word 32 = .ok (.aload_n 0, 1) := by decide +kernel
theorem dX1_word_33 : decode cX1_word 33 = .ok (.aload_n 0, 1) := by decide +kernel
theorem dX1_word_34 : decode cX1_word 34 = .ok (.getfield 22, 3) := by decide +kernel
theorem dX1_word_37 : decode cX1_word 37 = .ok (.iload 5, 2) := by decide +kernel
theorem dX1_word_39 : decode cX1_word 39 = .ok (.iaload, 1) := by decide +kernel
theorem dX1_word_40 : decode cX1_word 40 = .ok (.iload_n 1, 1) := by decide +kernel
theorem dX1_word_41 : decode cX1_word 41 = .ok (.invokevirtual 56, 3) := by decide +kernel
theorem dX1_word_44 : decode cX1_word 44 = .ok (.land, 1) := by decide +kernel
theorem dX1_word_45 : decode cX1_word 45 = .ok (.lstore_n 3, 1) := by decide +kernel
theorem dX1_word_46 : decode cX1_word 46 = .ok (.iinc 5 1, 3) := by decide +kernel
theorem dX1_word_49 : decode cX1_word 49 = .ok (.goto (-39), 3) := by decide +kernel
theorem dX1_word_52 : decode cX1_word 52 = .ok (.lload_n 3, 1) := by decide +kernel
theorem dX1_word_53 : decode cX1_word 53 = .ok (.lreturn, 1) := by decide +kernel
theorem dX1_some_0 : decode cX1_some 0 = .ok (.iconst 0, 1) := by decide +kernel
theorem dX1_some_1 : decode cX1_some 1 = .ok (.istore_n 2, 1) := by decide +kernel
theorem dX1_some_2 : decode cX1_some 2 = .ok (.iconst 0, 1) := by decide +kernel
theorem dX1_some_3 : decode cX1_some 3 = .ok (.istore_n 3, 1) := by decide +kernel
theorem dX1_some_4 : decode cX1_some 4 = .ok (.iload_n 3, 1) := by decide +kernel
theorem dX1_some_5 : decode cX1_some 5 = .ok (.sipush 4096, 3) := by decide +kernel
theorem dX1_some_8 : decode cX1_some 8 = .ok (.if_icmp .ge 30, 3) := by decide +kernel
theorem dX1_some_11 : decode cX1_some 11 = .ok (.iload_n 2, 1) := by decide +kernel
theorem dX1_some_12 : decode cX1_some 12 = .ok (.ifCond .ne 26, 3) := by decide +kernel
theorem dX1_some_15 : decode cX1_some 15 = .ok (.aload_n 0, 1) := by decide +kernel
theorem dX1_some_16 : decode cX1_some 16 = .ok (.iload_n 3, 1) := by decide +kernel
theorem dX1_some_17 : decode cX1_some 17 = .ok (.iload_n 1, 1) := by decide +kernel
theorem dX1_some_18 : decode cX1_some 18 = .ok (.invokevirtual 70, 3) := by decide +kernel
theorem dX1_some_21 : decode cX1_some 21 = .ok (.lconst 0, 1) := by decide +kernel
theorem dX1_some_22 : decode cX1_some 22 = .ok (.lcmp, 1) := by decide +kernel
theorem dX1_some_23 : decode cX1_some 23 = .ok (.ifCond .eq 7, 3) := by decide +kernel
theorem dX1_some_26 : decode cX1_some 26 = .ok (.iconst 1, 1) := by decide +kernel
theorem dX1_some_27 : decode cX1_some 27 = .ok (.goto 4, 3) := by decide +kernel
theorem dX1_some_30 : decode cX1_some 30 = .ok (.iconst 0, 1) := by decide +kernel
theorem dX1_some_31 : decode cX1_some 31 = .ok (.istore_n 2, 1) := by decide +kernel
theorem dX1_some_32 : decode cX1_some 32 = .ok (.iinc 3 1, 3) := by decide +kernel
theorem dX1_some_35 : decode cX1_some 35 = .ok (.goto (-31), 3) := by decide +kernel
theorem dX1_some_38 : decode cX1_some 38 = .ok (.iload_n 2, 1) := by decide +kernel
theorem dX1_some_39 : decode cX1_some 39 = .ok (.ireturn, 1) := by decide +kernel
theorem dX1_from_0 : decode cX1_from 0 = .ok (.iload_n 1, 1) := by decide +kernel
theorem dX1_from_1 : decode cX1_from 1 = .ok (.bipush 6, 2) := by decide +kernel
theorem dX1_from_3 : decode cX1_from 3 = .ok (.ishr, 1) := by decide +kernel
theorem dX1_from_4 : decode cX1_from 4 = .ok (.istore_n 2, 1) := by decide +kernel
theorem dX1_from_5 : decode cX1_from 5 = .ok (.iload_n 2, 1) := by decide +kernel
theorem dX1_from_6 : decode cX1_from 6 = .ok (.sipush 4096, 3) := by decide +kernel
theorem dX1_from_9 : decode cX1_from 9 = .ok (.if_icmp .ge 68, 3) := by decide +kernel
theorem dX1_from_12 : decode cX1_from 12 = .ok (.aload_n 0, 1) := by decide +kernel
theorem dX1_from_13 : decode cX1_from 13 = .ok (.iload_n 2, 1) := by decide +kernel
theorem dX1_from_14 : decode cX1_from 14 = .ok (.iconst (-1), 1) := by decide +kernel
theorem dX1_from_15 : decode cX1_from 15 = .ok (.invokevirtual 70, 3) := by decide +kernel
theorem dX1_from_18 : decode cX1_from 18 = .ok (.lstore_n 3, 1) := by decide +kernel
theorem dX1_from_19 : decode cX1_from 19 = .ok (.iconst 0, 1) := by decide +kernel
theorem dX1_from_20 : decode cX1_from 20 = .ok (.istore 5, 2) := by decide +kernel
theorem dX1_from_22 : decode cX1_from 22 = .ok (.iload 5, 2) := by decide +kernel
theorem dX1_from_24 : decode cX1_from 24 = .ok (.bipush 64, 2) := by decide +kernel
theorem dX1_from_26 : decode cX1_from 26 = .ok (.if_icmp .ge 45, 3) := by decide +kernel
theorem dX1_from_29 : decode cX1_from 29 = .ok (.lload_n 3, 1) := by decide +kernel
theorem dX1_from_30 : decode cX1_from 30 = .ok (.lconst 0, 1) := by decide +kernel
theorem dX1_from_31 : decode cX1_from 31 = .ok (.lcmp, 1) := by decide +kernel
theorem dX1_from_32 : decode cX1_from 32 = .ok (.ifCond .eq 39, 3) := by decide +kernel
theorem dX1_from_35 : decode cX1_from 35 = .ok (.lload_n 3, 1) := by decide +kernel
theorem dX1_from_36 : decode cX1_from 36 = .ok (.iload 5, 2) := by decide +kernel
theorem dX1_from_38 : decode cX1_from 38 = .ok (.lushr, 1) := by decide +kernel
theorem dX1_from_39 : decode cX1_from 39 = .ok (.lconst 1, 1) := by decide +kernel
theorem dX1_from_40 : decode cX1_from 40 = .ok (.land, 1) := by decide +kernel
theorem dX1_from_41 : decode cX1_from 41 = .ok (.lconst 1, 1) := by decide +kernel
theorem dX1_from_42 : decode cX1_from 42 = .ok (.lcmp, 1) := by decide +kernel
theorem dX1_from_43 : decode cX1_from 43 = .ok (.ifCond .ne 22, 3) := by decide +kernel
theorem dX1_from_46 : decode cX1_from 46 = .ok (.bipush 64, 2) := by decide +kernel
theorem dX1_from_48 : decode cX1_from 48 = .ok (.iload_n 2, 1) := by decide +kernel
theorem dX1_from_49 : decode cX1_from 49 = .ok (.imul, 1) := by decide +kernel
theorem dX1_from_50 : decode cX1_from 50 = .ok (.iload 5, 2) := by decide +kernel
theorem dX1_from_52 : decode cX1_from 52 = .ok (.iadd, 1) := by decide +kernel
theorem dX1_from_53 : decode cX1_from 53 = .ok (.iload_n 1, 1) := by decide +kernel
theorem dX1_from_54 : decode cX1_from 54 = .ok (.if_icmp .lt 11, 3) := by decide +kernel
theorem dX1_from_57 : decode cX1_from 57 = .ok (.bipush 64, 2) := by decide +kernel
theorem dX1_from_59 : decode cX1_from 59 = .ok (.iload_n 2, 1) := by decide +kernel
theorem dX1_from_60 : decode cX1_from 60 = .ok (.imul, 1) := by decide +kernel
theorem dX1_from_61 : decode cX1_from 61 = .ok (.iload 5, 2) := by decide +kernel
theorem dX1_from_63 : decode cX1_from 63 = .ok (.iadd, 1) := by decide +kernel
theorem dX1_from_64 : decode cX1_from 64 = .ok (.ireturn, 1) := by decide +kernel
theorem dX1_from_65 : decode cX1_from 65 = .ok (.iinc 5 1, 3) := by decide +kernel
theorem dX1_from_68 : decode cX1_from 68 = .ok (.goto (-46), 3) := by decide +kernel
theorem dX1_from_71 : decode cX1_from 71 = .ok (.iinc 2 1, 3) := by decide +kernel
theorem dX1_from_74 : decode cX1_from 74 = .ok (.goto (-69), 3) := by decide +kernel
theorem dX1_from_77 : decode cX1_from 77 = .ok (.iconst (-1), 1) := by decide +kernel
theorem dX1_from_78 : decode cX1_from 78 = .ok (.ireturn, 1) := by decide +kernel
theorem dX1_put_0 : decode cX1_put 0 = .ok (.aload_n 0, 1) := by decide +kernel
theorem dX1_put_1 : decode cX1_put 1 = .ok (.iload_n 1, 1) := by decide +kernel
theorem dX1_put_2 : decode cX1_put 2 = .ok (.invokestatic 73, 3) := by decide +kernel
theorem dX1_put_5 : decode cX1_put 5 = .ok (.ifCond .ne 7, 3) := by decide +kernel
theorem dX1_put_8 : decode cX1_put 8 = .ok (.iconst 1, 1) := by decide +kernel
theorem dX1_put_9 : decode cX1_put 9 = .ok (.goto 4, 3) := by decide +kernel
theorem dX1_put_12 : decode cX1_put 12 = .ok (.iconst 0, 1) := by decide +kernel
theorem dX1_put_13 : decode cX1_put 13 = .ok (.aload_n 0, 1) := by decide +kernel
theorem dX1_put_14 : decode cX1_put 14 = .ok (.getfield 77, 3) := by decide +kernel
theorem dX1_put_17 : decode cX1_put 17 = .ok (.bipush 18, 2) := by decide +kernel
theorem dX1_put_19 : decode cX1_put 19 = .ok (.if_icmp .ne 7, 3) := by decide +kernel
theorem dX1_put_22 : decode cX1_put 22 = .ok (.iconst 1, 1) := by decide +kernel
theorem dX1_put_23 : decode cX1_put 23 = .ok (.goto 4, 3) := by decide +kernel
theorem dX1_put_26 : decode cX1_put 26 = .ok (.iconst 0, 1) := by decide +kernel
theorem dX1_put_27 : decode cX1_put 27 = .ok (.invokevirtual 80, 3) := by decide +kernel
theorem dX1_put_30 : decode cX1_put 30 = .ok (.ifCond .eq 5, 3) := by decide +kernel
theorem dX1_put_33 : decode cX1_put 33 = .ok (.iconst 0, 1) := by decide +kernel
theorem dX1_put_34 : decode cX1_put 34 = .ok (.ireturn, 1) := by decide +kernel
theorem dX1_put_35 : decode cX1_put 35 = .ok (.aload_n 0, 1) := by decide +kernel
theorem dX1_put_36 : decode cX1_put 36 = .ok (.getfield 7, 3) := by decide +kernel
theorem dX1_put_39 : decode cX1_put 39 = .ok (.aload_n 0, 1) := by decide +kernel
theorem dX1_put_40 : decode cX1_put 40 = .ok (.getfield 77, 3) := by decide +kernel
theorem dX1_put_43 : decode cX1_put 43 = .ok (.iload_n 1, 1) := by decide +kernel
theorem dX1_put_44 : decode cX1_put 44 = .ok (.iastore, 1) := by decide +kernel
theorem dX1_put_45 : decode cX1_put 45 = .ok (.aload_n 0, 1) := by decide +kernel
theorem dX1_put_46 : decode cX1_put 46 = .ok (.dup, 1) := by decide +kernel
theorem dX1_put_47 : decode cX1_put 47 = .ok (.getfield 77, 3) := by decide +kernel
theorem dX1_put_50 : decode cX1_put 50 = .ok (.iconst 1, 1) := by decide +kernel
theorem dX1_put_51 : decode cX1_put 51 = .ok (.iadd, 1) := by decide +kernel
theorem dX1_put_52 : decode cX1_put 52 = .ok (.putfield 77, 3) := by decide +kernel
theorem dX1_put_55 : decode cX1_put 55 = .ok (.aload_n 0, 1) := by decide +kernel
theorem dX1_put_56 : decode cX1_put 56 = .ok (.getfield 77, 3) := by decide +kernel
theorem dX1_put_59 : decode cX1_put 59 = .ok (.ireturn, 1) := by decide +kernel
theorem dX1_add_0 : decode cX1_add 0 = .ok (.aload_n 0, 1) := by decide +kernel
theorem dX1_add_1 : decode cX1_add 1 = .ok (.aload_n 0, 1) := by decide +kernel
theorem dX1_add_2 : decode cX1_add 2 = .ok (.getfield 60, 3) := by decide +kernel
theorem dX1_add_5 : decode cX1_add 5 = .ok (.sipush 400, 3) := by decide +kernel
theorem dX1_add_8 : decode cX1_add 8 = .ok (.if_icmp .ne 7, 3) := by decide +kernel
theorem dX1_add_11 : decode cX1_add 11 = .ok (.iconst 1, 1) := by decide +kernel
theorem dX1_add_12 : decode cX1_add 12 = .ok (.goto 4, 3) := by decide +kernel
theorem dX1_add_15 : decode cX1_add 15 = .ok (.iconst 0, 1) := by decide +kernel
theorem dX1_add_16 : decode cX1_add 16 = .ok (.iconst 0, 1) := by decide +kernel
theorem dX1_add_17 : decode cX1_add 17 = .ok (.invokevirtual 80, 3) := by decide +kernel
theorem dX1_add_20 : decode cX1_add 20 = .ok (.ifCond .eq 5, 3) := by decide +kernel
theorem dX1_add_23 : decode cX1_add 23 = .ok (.iconst 0, 1) := by decide +kernel
theorem dX1_add_24 : decode cX1_add 24 = .ok (.ireturn, 1) := by decide +kernel
theorem dX1_add_25 : decode cX1_add 25 = .ok (.iconst 0, 1) := by decide +kernel
theorem dX1_add_26 : decode cX1_add 26 = .ok (.istore_n 1, 1) := by decide +kernel
theorem dX1_add_27 : decode cX1_add 27 = .ok (.iload_n 1, 1) := by decide +kernel
theorem dX1_add_28 : decode cX1_add 28 = .ok (.aload_n 0, 1) := by decide +kernel
theorem dX1_add_29 : decode cX1_add 29 = .ok (.getfield 77, 3) := by decide +kernel
theorem dX1_add_32 : decode cX1_add 32 = .ok (.if_icmp .ge 29, 3) := by decide +kernel
theorem dX1_add_35 : decode cX1_add 35 = .ok (.aload_n 0, 1) := by decide +kernel
theorem dX1_add_36 : decode cX1_add 36 = .ok (.getfield 13, 3) := by decide +kernel
theorem dX1_add_39 : decode cX1_add 39 = .ok (.bipush 18, 2) := by decide +kernel
theorem dX1_add_41 : decode cX1_add 41 = .ok (.aload_n 0, 1) := by decide +kernel
theorem dX1_add_42 : decode cX1_add 42 = .ok (.getfield 60, 3) := by decide +kernel
theorem dX1_add_45 : decode cX1_add 45 = .ok (.imul, 1) := by decide +kernel
theorem dX1_add_46 : decode cX1_add 46 = .ok (.iload_n 1, 1) := by decide +kernel
theorem dX1_add_47 : decode cX1_add 47 = .ok (.iadd, 1) := by decide +kernel
theorem dX1_add_48 : decode cX1_add 48 = .ok (.aload_n 0, 1) := by decide +kernel
theorem dX1_add_49 : decode cX1_add 49 = .ok (.getfield 7, 3) := by decide +kernel
theorem dX1_add_52 : decode cX1_add 52 = .ok (.iload_n 1, 1) := by decide +kernel
theorem dX1_add_53 : decode cX1_add 53 = .ok (.iaload, 1) := by decide +kernel
theorem dX1_add_54 : decode cX1_add 54 = .ok (.iastore, 1) := by decide +kernel
theorem dX1_add_55 : decode cX1_add 55 = .ok (.iinc 1 1, 3) := by decide +kernel
theorem dX1_add_58 : decode cX1_add 58 = .ok (.goto (-31), 3) := by decide +kernel
theorem dX1_add_61 : decode cX1_add 61 = .ok (.aload_n 0, 1) := by decide +kernel
theorem dX1_add_62 : decode cX1_add 62 = .ok (.getfield 16, 3) := by decide +kernel
theorem dX1_add_65 : decode cX1_add 65 = .ok (.aload_n 0, 1) := by decide +kernel
theorem dX1_add_66 : decode cX1_add 66 = .ok (.getfield 60, 3) := by decide +kernel
theorem dX1_add_69 : decode cX1_add 69 = .ok (.aload_n 0, 1) := by decide +kernel
theorem dX1_add_70 : decode cX1_add 70 = .ok (.getfield 77, 3) := by decide +kernel
theorem dX1_add_73 : decode cX1_add 73 = .ok (.iastore, 1) := by decide +kernel
theorem dX1_add_74 : decode cX1_add 74 = .ok (.aload_n 0, 1) := by decide +kernel
theorem dX1_add_75 : decode cX1_add 75 = .ok (.getfield 19, 3) := by decide +kernel
theorem dX1_add_78 : decode cX1_add 78 = .ok (.aload_n 0, 1) := by decide +kernel
theorem dX1_add_79 : decode cX1_add 79 = .ok (.getfield 60, 3) := by decide +kernel
theorem dX1_add_82 : decode cX1_add 82 = .ok (.aload_n 0, 1) := by decide +kernel
theorem dX1_add_83 : decode cX1_add 83 = .ok (.getfield 84, 3) := by decide +kernel
theorem dX1_add_86 : decode cX1_add 86 = .ok (.iastore, 1) := by decide +kernel
theorem dX1_add_87 : decode cX1_add 87 = .ok (.aload_n 0, 1) := by decide +kernel
theorem dX1_add_88 : decode cX1_add 88 = .ok (.iconst 0, 1) := by decide +kernel
theorem dX1_add_89 : decode cX1_add 89 = .ok (.putfield 77, 3) := by decide +kernel
theorem dX1_add_92 : decode cX1_add 92 = .ok (.aload_n 0, 1) := by decide +kernel
theorem dX1_add_93 : decode cX1_add 93 = .ok (.aload_n 0, 1) := by decide +kernel
theorem dX1_add_94 : decode cX1_add 94 = .ok (.getfield 60, 3) := by decide +kernel
theorem dX1_add_97 : decode cX1_add 97 = .ok (.invokevirtual 63, 3) := by decide +kernel
theorem dX1_add_100 : decode cX1_add 100 = .ok (.aload_n 0, 1) := by decide +kernel
theorem dX1_add_101 : decode cX1_add 101 = .ok (.dup, 1) := by decide +kernel
theorem dX1_add_102 : decode cX1_add 102 = .ok (.getfield 60, 3) := by decide +kernel
theorem dX1_add_105 : decode cX1_add 105 = .ok (.iconst 1, 1) := by decide +kernel
theorem dX1_add_106 : decode cX1_add 106 = .ok (.iadd, 1) := by decide +kernel
theorem dX1_add_107 : decode cX1_add 107 = .ok (.putfield 60, 3) := by decide +kernel
theorem dX1_add_110 : decode cX1_add 110 = .ok (.aload_n 0, 1) := by decide +kernel
theorem dX1_add_111 : decode cX1_add 111 = .ok (.iconst (-1), 1) := by decide +kernel
theorem dX1_add_112 : decode cX1_add 112 = .ok (.putfield 25, 3) := by decide +kernel
theorem dX1_add_115 : decode cX1_add 115 = .ok (.aload_n 0, 1) := by decide +kernel
theorem dX1_add_116 : decode cX1_add 116 = .ok (.getfield 60, 3) := by decide +kernel
theorem dX1_add_119 : decode cX1_add 119 = .ok (.ireturn, 1) := by decide +kernel
theorem dX1_open_0 : decode cX1_open 0 = .ok (.aload_n 0, 1) := by decide +kernel
theorem dX1_open_1 : decode cX1_open 1 = .ok (.aload_n 0, 1) := by decide +kernel
theorem dX1_open_2 : decode cX1_open 2 = .ok (.getfield 84, 3) := by decide +kernel
theorem dX1_open_5 : decode cX1_open 5 = .ok (.bipush 40, 2) := by decide +kernel
theorem dX1_open_7 : decode cX1_open 7 = .ok (.if_icmp .ne 7, 3) := by decide +kernel
theorem dX1_open_10 : decode cX1_open 10 = .ok (.iconst 1, 1) := by decide +kernel
theorem dX1_open_11 : decode cX1_open 11 = .ok (.goto 4, 3) := by decide +kernel
theorem dX1_open_14 : decode cX1_open 14 = .ok (.iconst 0, 1) := by decide +kernel
theorem dX1_open_15 : decode cX1_open 15 = .ok (.iconst 0, 1) := by decide +kernel
theorem dX1_open_16 : decode cX1_open 16 = .ok (.invokevirtual 80, 3) := by decide +kernel
theorem dX1_open_19 : decode cX1_open 19 = .ok (.ifCond .eq 5, 3) := by decide +kernel
theorem dX1_open_22 : decode cX1_open 22 = .ok (.iconst 0, 1) := by decide +kernel
theorem dX1_open_23 : decode cX1_open 23 = .ok (.ireturn, 1) := by decide +kernel
theorem dX1_open_24 : decode cX1_open 24 = .ok (.aload_n 0, 1) := by decide +kernel
theorem dX1_open_25 : decode cX1_open 25 = .ok (.dup, 1) := by decide +kernel
theorem dX1_open_26 : decode cX1_open 26 = .ok (.getfield 84, 3) := by decide +kernel
theorem dX1_open_29 : decode cX1_open 29 = .ok (.iconst 1, 1) := by decide +kernel
theorem dX1_open_30 : decode cX1_open 30 = .ok (.iadd, 1) := by decide +kernel
theorem dX1_open_31 : decode cX1_open 31 = .ok (.putfield 84, 3) := by decide +kernel
theorem dX1_open_34 : decode cX1_open 34 = .ok (.aload_n 0, 1) := by decide +kernel
theorem dX1_open_35 : decode cX1_open 35 = .ok (.iconst (-1), 1) := by decide +kernel
theorem dX1_open_36 : decode cX1_open 36 = .ok (.putfield 25, 3) := by decide +kernel
theorem dX1_open_39 : decode cX1_open 39 = .ok (.aload_n 0, 1) := by decide +kernel
theorem dX1_open_40 : decode cX1_open 40 = .ok (.getfield 84, 3) := by decide +kernel
theorem dX1_open_43 : decode cX1_open 43 = .ok (.ireturn, 1) := by decide +kernel
theorem dX1_close_0 : decode cX1_close 0 = .ok (.aload_n 0, 1) := by decide +kernel
theorem dX1_close_1 : decode cX1_close 1 = .ok (.aload_n 0, 1) := by decide +kernel
theorem dX1_close_2 : decode cX1_close 2 = .ok (.getfield 84, 3) := by decide +kernel
theorem dX1_close_5 : decode cX1_close 5 = .ok (.ifCond .ne 7, 3) := by decide +kernel
theorem dX1_close_8 : decode cX1_close 8 = .ok (.iconst 1, 1) := by decide +kernel
theorem dX1_close_9 : decode cX1_close 9 = .ok (.goto 4, 3) := by decide +kernel
theorem dX1_close_12 : decode cX1_close 12 = .ok (.iconst 0, 1) := by decide +kernel
theorem dX1_close_13 : decode cX1_close 13 = .ok (.iconst 0, 1) := by decide +kernel
theorem dX1_close_14 : decode cX1_close 14 = .ok (.invokevirtual 80, 3) := by decide +kernel
theorem dX1_close_17 : decode cX1_close 17 = .ok (.ifCond .eq 5, 3) := by decide +kernel
theorem dX1_close_20 : decode cX1_close 20 = .ok (.iconst 0, 1) := by decide +kernel
theorem dX1_close_21 : decode cX1_close 21 = .ok (.ireturn, 1) := by decide +kernel
theorem dX1_close_22 : decode cX1_close 22 = .ok (.aload_n 0, 1) := by decide +kernel
theorem dX1_close_23 : decode cX1_close 23 = .ok (.getfield 60, 3) := by decide +kernel
theorem dX1_close_26 : decode cX1_close 26 = .ok (.istore_n 1, 1) := by decide +kernel
theorem dX1_close_27 : decode cX1_close 27 = .ok (.aload_n 0, 1) := by decide +kernel
theorem dX1_close_28 : decode cX1_close 28 = .ok (.getfield 60, 3) := by decide +kernel
theorem dX1_close_31 : decode cX1_close 31 = .ok (.ifCond .le 34, 3) := by decide +kernel
theorem dX1_close_34 : decode cX1_close 34 = .ok (.aload_n 0, 1) := by decide +kernel
theorem dX1_close_35 : decode cX1_close 35 = .ok (.getfield 19, 3) := by decide +kernel
theorem dX1_close_38 : decode cX1_close 38 = .ok (.aload_n 0, 1) := by decide +kernel
theorem dX1_close_39 : decode cX1_close 39 = .ok (.getfield 60, 3) := by decide +kernel
theorem dX1_close_42 : decode cX1_close 42 = .ok (.iconst 1, 1) := by decide +kernel
theorem dX1_close_43 : decode cX1_close 43 = .ok (.isub, 1) := by decide +kernel
theorem dX1_close_44 : decode cX1_close 44 = .ok (.iaload, 1) := by decide +kernel
theorem dX1_close_45 : decode cX1_close 45 = .ok (.aload_n 0, 1) := by decide +kernel
theorem dX1_close_46 : decode cX1_close 46 = .ok (.getfield 84, 3) := by decide +kernel
theorem dX1_close_49 : decode cX1_close 49 = .ok (.if_icmp .ne 16, 3) := by decide +kernel
theorem dX1_close_52 : decode cX1_close 52 = .ok (.aload_n 0, 1) := by decide +kernel
theorem dX1_close_53 : decode cX1_close 53 = .ok (.dup, 1) := by decide +kernel
theorem dX1_close_54 : decode cX1_close 54 = .ok (.getfield 60, 3) := by decide +kernel
theorem dX1_close_57 : decode cX1_close 57 = .ok (.iconst 1, 1) := by decide +kernel
theorem dX1_close_58 : decode cX1_close 58 = .ok (.isub, 1) := by decide +kernel
theorem dX1_close_59 : decode cX1_close 59 = .ok (.putfield 60, 3) := by decide +kernel
theorem dX1_close_62 : decode cX1_close 62 = .ok (.goto (-35), 3) := by decide +kernel
theorem dX1_close_65 : decode cX1_close 65 = .ok (.aload_n 0, 1) := by decide +kernel
theorem dX1_close_66 : decode cX1_close 66 = .ok (.dup, 1) := by decide +kernel
theorem dX1_close_67 : decode cX1_close 67 = .ok (.getfield 84, 3) := by decide +kernel
theorem dX1_close_70 : decode cX1_close 70 = .ok (.iconst 1, 1) := by decide +kernel
theorem dX1_close_71 : decode cX1_close 71 = .ok (.isub, 1) := by decide +kernel
theorem dX1_close_72 : decode cX1_close 72 = .ok (.putfield 84, 3) := by decide +kernel
theorem dX1_close_75 : decode cX1_close 75 = .ok (.aload_n 0, 1) := by decide +kernel
theorem dX1_close_76 : decode cX1_close 76 = .ok (.iconst (-1), 1) := by decide +kernel
theorem dX1_close_77 : decode cX1_close 77 = .ok (.putfield 25, 3) := by decide +kernel
theorem dX1_close_80 : decode cX1_close 80 = .ok (.aload_n 0, 1) := by decide +kernel
theorem dX1_close_81 : decode cX1_close 81 = .ok (.getfield 60, 3) := by decide +kernel
theorem dX1_close_84 : decode cX1_close 84 = .ok (.iload_n 1, 1) := by decide +kernel
theorem dX1_close_85 : decode cX1_close 85 = .ok (.if_icmp .ge 7, 3) := by decide +kernel
theorem dX1_close_88 : decode cX1_close 88 = .ok (.aload_n 0, 1) := by decide +kernel
theorem dX1_close_89 : decode cX1_close 89 = .ok (.invokevirtual 48, 3) := by decide +kernel
theorem dX1_close_92 : decode cX1_close 92 = .ok (.iload_n 1, 1) := by decide +kernel
theorem dX1_close_93 : decode cX1_close 93 = .ok (.aload_n 0, 1) := by decide +kernel
theorem dX1_close_94 : decode cX1_close 94 = .ok (.getfield 60, 3) := by decide +kernel
theorem dX1_close_97 : decode cX1_close 97 = .ok (.isub, 1) := by decide +kernel
theorem dX1_close_98 : decode cX1_close 98 = .ok (.ireturn, 1) := by decide +kernel
theorem dX1_assume_0 : decode cX1_assume 0 = .ok (.aload_n 0, 1) := by decide +kernel
theorem dX1_assume_1 : decode cX1_assume 1 = .ok (.iload_n 1, 1) := by decide +kernel
theorem dX1_assume_2 : decode cX1_assume 2 = .ok (.invokestatic 73, 3) := by decide +kernel
theorem dX1_assume_5 : decode cX1_assume 5 = .ok (.ifCond .ne 7, 3) := by decide +kernel
theorem dX1_assume_8 : decode cX1_assume 8 = .ok (.iconst 1, 1) := by decide +kernel
theorem dX1_assume_9 : decode cX1_assume 9 = .ok (.goto 4, 3) := by decide +kernel
theorem dX1_assume_12 : decode cX1_assume 12 = .ok (.iconst 0, 1) := by decide +kernel
theorem dX1_assume_13 : decode cX1_assume 13 = .ok (.aload_n 0, 1) := by decide +kernel
theorem dX1_assume_14 : decode cX1_assume 14 = .ok (.getfield 67, 3) := by decide +kernel
theorem dX1_assume_17 : decode cX1_assume 17 = .ok (.bipush 18, 2) := by decide +kernel
theorem dX1_assume_19 : decode cX1_assume 19 = .ok (.if_icmp .ne 7, 3) := by decide +kernel
theorem dX1_assume_22 : decode cX1_assume 22 = .ok (.iconst 1, 1) := by decide +kernel
theorem dX1_assume_23 : decode cX1_assume 23 = .ok (.goto 4, 3) := by decide +kernel
theorem dX1_assume_26 : decode cX1_assume 26 = .ok (.iconst 0, 1) := by decide +kernel
theorem dX1_assume_27 : decode cX1_assume 27 = .ok (.invokevirtual 80, 3) := by decide +kernel
theorem dX1_assume_30 : decode cX1_assume 30 = .ok (.ifCond .eq 5, 3) := by decide +kernel
theorem dX1_assume_33 : decode cX1_assume 33 = .ok (.iconst 0, 1) := by decide +kernel
theorem dX1_assume_34 : decode cX1_assume 34 = .ok (.ireturn, 1) := by decide +kernel
theorem dX1_assume_35 : decode cX1_assume 35 = .ok (.aload_n 0, 1) := by decide +kernel
theorem dX1_assume_36 : decode cX1_assume 36 = .ok (.getfield 22, 3) := by decide +kernel
theorem dX1_assume_39 : decode cX1_assume 39 = .ok (.aload_n 0, 1) := by decide +kernel
theorem dX1_assume_40 : decode cX1_assume 40 = .ok (.getfield 67, 3) := by decide +kernel
theorem dX1_assume_43 : decode cX1_assume 43 = .ok (.iload_n 1, 1) := by decide +kernel
theorem dX1_assume_44 : decode cX1_assume 44 = .ok (.iastore, 1) := by decide +kernel
theorem dX1_assume_45 : decode cX1_assume 45 = .ok (.aload_n 0, 1) := by decide +kernel
theorem dX1_assume_46 : decode cX1_assume 46 = .ok (.dup, 1) := by decide +kernel
theorem dX1_assume_47 : decode cX1_assume 47 = .ok (.getfield 67, 3) := by decide +kernel
theorem dX1_assume_50 : decode cX1_assume 50 = .ok (.iconst 1, 1) := by decide +kernel
theorem dX1_assume_51 : decode cX1_assume 51 = .ok (.iadd, 1) := by decide +kernel
theorem dX1_assume_52 : decode cX1_assume 52 = .ok (.putfield 67, 3) := by decide +kernel
theorem dX1_assume_55 : decode cX1_assume 55 = .ok (.aload_n 0, 1) := by decide +kernel
theorem dX1_assume_56 : decode cX1_assume 56 = .ok (.iconst (-1), 1) := by decide +kernel
theorem dX1_assume_57 : decode cX1_assume 57 = .ok (.putfield 25, 3) := by decide +kernel
theorem dX1_assume_60 : decode cX1_assume 60 = .ok (.aload_n 0, 1) := by decide +kernel
theorem dX1_assume_61 : decode cX1_assume 61 = .ok (.getfield 67, 3) := by decide +kernel
theorem dX1_assume_64 : decode cX1_assume 64 = .ok (.ireturn, 1) := by decide +kernel
theorem dX1_free_0 : decode cX1_free 0 = .ok (.aload_n 0, 1) := by decide +kernel
theorem dX1_free_1 : decode cX1_free 1 = .ok (.iconst 0, 1) := by decide +kernel
theorem dX1_free_2 : decode cX1_free 2 = .ok (.putfield 51, 3) := by decide +kernel
theorem dX1_free_5 : decode cX1_free 5 = .ok (.aload_n 0, 1) := by decide +kernel
theorem dX1_free_6 : decode cX1_free 6 = .ok (.getfield 67, 3) := by decide +kernel
theorem dX1_free_9 : decode cX1_free 9 = .ok (.istore_n 1, 1) := by decide +kernel
theorem dX1_free_10 : decode cX1_free 10 = .ok (.aload_n 0, 1) := by decide +kernel
theorem dX1_free_11 : decode cX1_free 11 = .ok (.iconst 0, 1) := by decide +kernel
theorem dX1_free_12 : decode cX1_free 12 = .ok (.putfield 67, 3) := by decide +kernel
theorem dX1_free_15 : decode cX1_free 15 = .ok (.aload_n 0, 1) := by decide +kernel
theorem dX1_free_16 : decode cX1_free 16 = .ok (.iconst (-1), 1) := by decide +kernel
theorem dX1_free_17 : decode cX1_free 17 = .ok (.putfield 25, 3) := by decide +kernel
theorem dX1_free_20 : decode cX1_free 20 = .ok (.iload_n 1, 1) := by decide +kernel
theorem dX1_free_21 : decode cX1_free 21 = .ok (.ireturn, 1) := by decide +kernel
theorem dX1_least_0 : decode cX1_least 0 = .ok (.aload_n 0, 1) := by decide +kernel
theorem dX1_least_1 : decode cX1_least 1 = .ok (.iconst 0, 1) := by decide +kernel
theorem dX1_least_2 : decode cX1_least 2 = .ok (.putfield 51, 3) := by decide +kernel
theorem dX1_least_5 : decode cX1_least 5 = .ok (.aload_n 0, 1) := by decide +kernel
theorem dX1_least_6 : decode cX1_least 6 = .ok (.aload_n 0, 1) := by decide +kernel
theorem dX1_least_7 : decode cX1_least 7 = .ok (.iconst 0, 1) := by decide +kernel
theorem dX1_least_8 : decode cX1_least 8 = .ok (.invokevirtual 87, 3) := by decide +kernel
theorem dX1_least_11 : decode cX1_least 11 = .ok (.putfield 25, 3) := by decide +kernel
theorem dX1_least_14 : decode cX1_least 14 = .ok (.aload_n 0, 1) := by decide +kernel
theorem dX1_least_15 : decode cX1_least 15 = .ok (.getfield 25, 3) := by decide +kernel
theorem dX1_least_18 : decode cX1_least 18 = .ok (.ireturn, 1) := by decide +kernel
theorem dX1_next_0 : decode cX1_next 0 = .ok (.aload_n 0, 1) := by decide +kernel
theorem dX1_next_1 : decode cX1_next 1 = .ok (.aload_n 0, 1) := by decide +kernel
theorem dX1_next_2 : decode cX1_next 2 = .ok (.getfield 25, 3) := by decide +kernel
theorem dX1_next_5 : decode cX1_next 5 = .ok (.ifCond .ge 7, 3) := by decide +kernel
theorem dX1_next_8 : decode cX1_next 8 = .ok (.iconst 1, 1) := by decide +kernel
theorem dX1_next_9 : decode cX1_next 9 = .ok (.goto 4, 3) := by decide +kernel
theorem dX1_next_12 : decode cX1_next 12 = .ok (.iconst 0, 1) := by decide +kernel
theorem dX1_next_13 : decode cX1_next 13 = .ok (.iconst 0, 1) := by decide +kernel
theorem dX1_next_14 : decode cX1_next 14 = .ok (.invokevirtual 80, 3) := by decide +kernel
theorem dX1_next_17 : decode cX1_next 17 = .ok (.ifCond .eq 5, 3) := by decide +kernel
theorem dX1_next_20 : decode cX1_next 20 = .ok (.iconst 0, 1) := by decide +kernel
theorem dX1_next_21 : decode cX1_next 21 = .ok (.ireturn, 1) := by decide +kernel
theorem dX1_next_22 : decode cX1_next 22 = .ok (.aload_n 0, 1) := by decide +kernel
theorem dX1_next_23 : decode cX1_next 23 = .ok (.aload_n 0, 1) := by decide +kernel
theorem dX1_next_24 : decode cX1_next 24 = .ok (.aload_n 0, 1) := by decide +kernel
theorem dX1_next_25 : decode cX1_next 25 = .ok (.getfield 25, 3) := by decide +kernel
theorem dX1_next_28 : decode cX1_next 28 = .ok (.iconst 1, 1) := by decide +kernel
theorem dX1_next_29 : decode cX1_next 29 = .ok (.iadd, 1) := by decide +kernel
theorem dX1_next_30 : decode cX1_next 30 = .ok (.invokevirtual 87, 3) := by decide +kernel
theorem dX1_next_33 : decode cX1_next 33 = .ok (.putfield 25, 3) := by decide +kernel
theorem dX1_next_36 : decode cX1_next 36 = .ok (.aload_n 0, 1) := by decide +kernel
theorem dX1_next_37 : decode cX1_next 37 = .ok (.getfield 25, 3) := by decide +kernel
theorem dX1_next_40 : decode cX1_next 40 = .ok (.ireturn, 1) := by decide +kernel
theorem dX1_can_0 : decode cX1_can 0 = .ok (.aload_n 0, 1) := by decide +kernel
theorem dX1_can_1 : decode cX1_can 1 = .ok (.iconst 0, 1) := by decide +kernel
theorem dX1_can_2 : decode cX1_can 2 = .ok (.putfield 51, 3) := by decide +kernel
theorem dX1_can_5 : decode cX1_can 5 = .ok (.aload_n 0, 1) := by decide +kernel
theorem dX1_can_6 : decode cX1_can 6 = .ok (.iconst (-1), 1) := by decide +kernel
theorem dX1_can_7 : decode cX1_can 7 = .ok (.invokevirtual 91, 3) := by decide +kernel
theorem dX1_can_10 : decode cX1_can 10 = .ok (.ireturn, 1) := by decide +kernel
theorem dX1_forced_0 : decode cX1_forced 0 = .ok (.aload_n 0, 1) := by decide +kernel
theorem dX1_forced_1 : decode cX1_forced 1 = .ok (.iload_n 1, 1) := by decide +kernel
theorem dX1_forced_2 : decode cX1_forced 2 = .ok (.invokestatic 73, 3) := by decide +kernel
theorem dX1_forced_5 : decode cX1_forced 5 = .ok (.ifCond .ne 7, 3) := by decide +kernel
theorem dX1_forced_8 : decode cX1_forced 8 = .ok (.iconst 1, 1) := by decide +kernel
theorem dX1_forced_9 : decode cX1_forced 9 = .ok (.goto 4, 3) := by decide +kernel
theorem dX1_forced_12 : decode cX1_forced 12 = .ok (.iconst 0, 1) := by decide +kernel
theorem dX1_forced_13 : decode cX1_forced 13 = .ok (.iconst 0, 1) := by decide +kernel
theorem dX1_forced_14 : decode cX1_forced 14 = .ok (.invokevirtual 80, 3) := by decide +kernel
theorem dX1_forced_17 : decode cX1_forced 17 = .ok (.ifCond .eq 5, 3) := by decide +kernel
theorem dX1_forced_20 : decode cX1_forced 20 = .ok (.iconst 0, 1) := by decide +kernel
theorem dX1_forced_21 : decode cX1_forced 21 = .ok (.ireturn, 1) := by decide +kernel
theorem dX1_forced_22 : decode cX1_forced 22 = .ok (.iconst 1, 1) := by decide +kernel
theorem dX1_forced_23 : decode cX1_forced 23 = .ok (.istore_n 2, 1) := by decide +kernel
theorem dX1_forced_24 : decode cX1_forced 24 = .ok (.iconst 0, 1) := by decide +kernel
theorem dX1_forced_25 : decode cX1_forced 25 = .ok (.istore_n 3, 1) := by decide +kernel
theorem dX1_forced_26 : decode cX1_forced 26 = .ok (.iload_n 3, 1) := by decide +kernel
theorem dX1_forced_27 : decode cX1_forced 27 = .ok (.sipush 4096, 3) := by decide +kernel
theorem dX1_forced_30 : decode cX1_forced 30 = .ok (.if_icmp .ge 41, 3) := by decide +kernel
theorem dX1_forced_33 : decode cX1_forced 33 = .ok (.iload_n 2, 1) := by decide +kernel
theorem dX1_forced_34 : decode cX1_forced 34 = .ok (.ifCond .eq 37, 3) := by decide +kernel
theorem dX1_forced_37 : decode cX1_forced 37 = .ok (.aload_n 0, 1) := by decide +kernel
theorem dX1_forced_38 : decode cX1_forced 38 = .ok (.iload_n 3, 1) := by decide +kernel
theorem dX1_forced_39 : decode cX1_forced 39 = .ok (.iconst (-1), 1) := by decide +kernel
theorem dX1_forced_40 : decode cX1_forced 40 = .ok (.invokevirtual 70, 3) := by decide +kernel
theorem dX1_forced_43 : decode cX1_forced 43 = .ok (.aload_n 0, 1) := by decide +kernel
theorem dX1_forced_44 : decode cX1_forced 44 = .ok (.iload_n 1, 1) := by decide +kernel
theorem dX1_forced_45 : decode cX1_forced 45 = .ok (.iload_n 3, 1) := by decide +kernel
theorem dX1_forced_46 : decode cX1_forced 46 = .ok (.invokevirtual 56, 3) := by decide +kernel
theorem dX1_forced_49 : decode cX1_forced 49 = .ok (.ldc2_w 54, 3) := by decide +kernel
theorem dX1_forced_52 : decode cX1_forced 52 = .ok (.lxor, 1) := by decide +kernel
theorem dX1_forced_53 : decode cX1_forced 53 = .ok (.land, 1) := by decide +kernel
theorem dX1_forced_54 : decode cX1_forced 54 = .ok (.lconst 0, 1) := by decide +kernel
theorem dX1_forced_55 : decode cX1_forced 55 = .ok (.lcmp, 1) := by decide +kernel
theorem dX1_forced_56 : decode cX1_forced 56 = .ok (.ifCond .ne 7, 3) := by decide +kernel
theorem dX1_forced_59 : decode cX1_forced 59 = .ok (.iconst 1, 1) := by decide +kernel
theorem dX1_forced_60 : decode cX1_forced 60 = .ok (.goto 4, 3) := by decide +kernel
theorem dX1_forced_63 : decode cX1_forced 63 = .ok (.iconst 0, 1) := by decide +kernel
theorem dX1_forced_64 : decode cX1_forced 64 = .ok (.istore_n 2, 1) := by decide +kernel
theorem dX1_forced_65 : decode cX1_forced 65 = .ok (.iinc 3 1, 3) := by decide +kernel
theorem dX1_forced_68 : decode cX1_forced 68 = .ok (.goto (-42), 3) := by decide +kernel
theorem dX1_forced_71 : decode cX1_forced 71 = .ok (.iload_n 2, 1) := by decide +kernel
theorem dX1_forced_72 : decode cX1_forced 72 = .ok (.ireturn, 1) := by decide +kernel
theorem dX1_blames_0 : decode cX1_blames 0 = .ok (.aload_n 0, 1) := by decide +kernel
theorem dX1_blames_1 : decode cX1_blames 1 = .ok (.iload_n 1, 1) := by decide +kernel
theorem dX1_blames_2 : decode cX1_blames 2 = .ok (.ifCond .lt 11, 3) := by decide +kernel
theorem dX1_blames_5 : decode cX1_blames 5 = .ok (.iload_n 1, 1) := by decide +kernel
theorem dX1_blames_6 : decode cX1_blames 6 = .ok (.aload_n 0, 1) := by decide +kernel
theorem dX1_blames_7 : decode cX1_blames 7 = .ok (.getfield 67, 3) := by decide +kernel
theorem dX1_blames_10 : decode cX1_blames 10 = .ok (.if_icmp .lt 7, 3) := by decide +kernel
theorem dX1_blames_13 : decode cX1_blames 13 = .ok (.iconst 1, 1) := by decide +kernel
theorem dX1_blames_14 : decode cX1_blames 14 = .ok (.goto 4, 3) := by decide +kernel
theorem dX1_blames_17 : decode cX1_blames 17 = .ok (.iconst 0, 1) := by decide +kernel
theorem dX1_blames_18 : decode cX1_blames 18 = .ok (.iconst 0, 1) := by decide +kernel
theorem dX1_blames_19 : decode cX1_blames 19 = .ok (.invokevirtual 80, 3) := by decide +kernel
theorem dX1_blames_22 : decode cX1_blames 22 = .ok (.ifCond .eq 5, 3) := by decide +kernel
theorem dX1_blames_25 : decode cX1_blames 25 = .ok (.iconst 0, 1) := by decide +kernel
theorem dX1_blames_26 : decode cX1_blames 26 = .ok (.ireturn, 1) := by decide +kernel
theorem dX1_blames_27 : decode cX1_blames 27 = .ok (.aload_n 0, 1) := by decide +kernel
theorem dX1_blames_28 : decode cX1_blames 28 = .ok (.iconst (-1), 1) := by decide +kernel
theorem dX1_blames_29 : decode cX1_blames 29 = .ok (.invokevirtual 91, 3) := by decide +kernel
theorem dX1_blames_32 : decode cX1_blames 32 = .ok (.ifCond .ne 15, 3) := by decide +kernel
theorem dX1_blames_35 : decode cX1_blames 35 = .ok (.aload_n 0, 1) := by decide +kernel
theorem dX1_blames_36 : decode cX1_blames 36 = .ok (.iload_n 1, 1) := by decide +kernel
theorem dX1_blames_37 : decode cX1_blames 37 = .ok (.invokevirtual 91, 3) := by decide +kernel
theorem dX1_blames_40 : decode cX1_blames 40 = .ok (.ifCond .eq 7, 3) := by decide +kernel
theorem dX1_blames_43 : decode cX1_blames 43 = .ok (.iconst 1, 1) := by decide +kernel
theorem dX1_blames_44 : decode cX1_blames 44 = .ok (.goto 4, 3) := by decide +kernel
theorem dX1_blames_47 : decode cX1_blames 47 = .ok (.iconst 0, 1) := by decide +kernel
theorem dX1_blames_48 : decode cX1_blames 48 = .ok (.ireturn, 1) := by decide +kernel
theorem dX1_count_0 : decode cX1_count 0 = .ok (.aload_n 0, 1) := by decide +kernel
theorem dX1_count_1 : decode cX1_count 1 = .ok (.iload_n 1, 1) := by decide +kernel
theorem dX1_count_2 : decode cX1_count 2 = .ok (.iconst 1, 1) := by decide +kernel
theorem dX1_count_3 : decode cX1_count 3 = .ok (.if_icmp .lt 9, 3) := by decide +kernel
theorem dX1_count_6 : decode cX1_count 6 = .ok (.iload_n 1, 1) := by decide +kernel
theorem dX1_count_7 : decode cX1_count 7 = .ok (.bipush 64, 2) := by decide +kernel
theorem dX1_count_9 : decode cX1_count 9 = .ok (.if_icmp .le 7, 3) := by decide +kernel
theorem dX1_count_12 : decode cX1_count 12 = .ok (.iconst 1, 1) := by decide +kernel
theorem dX1_count_13 : decode cX1_count 13 = .ok (.goto 4, 3) := by decide +kernel
theorem dX1_count_16 : decode cX1_count 16 = .ok (.iconst 0, 1) := by decide +kernel
theorem dX1_count_17 : decode cX1_count 17 = .ok (.iconst 0, 1) := by decide +kernel
theorem dX1_count_18 : decode cX1_count 18 = .ok (.invokevirtual 80, 3) := by decide +kernel
theorem dX1_count_21 : decode cX1_count 21 = .ok (.ifCond .eq 5, 3) := by decide +kernel
theorem dX1_count_24 : decode cX1_count 24 = .ok (.iconst 0, 1) := by decide +kernel
theorem dX1_count_25 : decode cX1_count 25 = .ok (.ireturn, 1) := by decide +kernel
theorem dX1_count_26 : decode cX1_count 26 = .ok (.iconst 0, 1) := by decide +kernel
theorem dX1_count_27 : decode cX1_count 27 = .ok (.istore_n 2, 1) := by decide +kernel
theorem dX1_count_28 : decode cX1_count 28 = .ok (.iconst 0, 1) := by decide +kernel
theorem dX1_count_29 : decode cX1_count 29 = .ok (.istore_n 3, 1) := by decide +kernel
theorem dX1_count_30 : decode cX1_count 30 = .ok (.iload_n 3, 1) := by decide +kernel
theorem dX1_count_31 : decode cX1_count 31 = .ok (.sipush 4096, 3) := by decide +kernel
theorem dX1_count_34 : decode cX1_count 34 = .ok (.if_icmp .ge 49, 3) := by decide +kernel
theorem dX1_count_37 : decode cX1_count 37 = .ok (.iload_n 2, 1) := by decide +kernel
theorem dX1_count_38 : decode cX1_count 38 = .ok (.iload_n 1, 1) := by decide +kernel
theorem dX1_count_39 : decode cX1_count 39 = .ok (.if_icmp .ge 44, 3) := by decide +kernel
theorem dX1_count_42 : decode cX1_count 42 = .ok (.aload_n 0, 1) := by decide +kernel
theorem dX1_count_43 : decode cX1_count 43 = .ok (.iload_n 3, 1) := by decide +kernel
theorem dX1_count_44 : decode cX1_count 44 = .ok (.iconst (-1), 1) := by decide +kernel
theorem dX1_count_45 : decode cX1_count 45 = .ok (.invokevirtual 70, 3) := by decide +kernel
theorem dX1_count_48 : decode cX1_count 48 = .ok (.lstore 4, 2) := by decide +kernel
theorem dX1_count_50 : decode cX1_count 50 = .ok (.iconst 0, 1) := by decide +kernel
theorem dX1_count_51 : decode cX1_count 51 = .ok (.istore 6, 2) := by decide +kernel
theorem dX1_count_53 : decode cX1_count 53 = .ok (.iload 6, 2) := by decide +kernel
theorem dX1_count_55 : decode cX1_count 55 = .ok (.bipush 64, 2) := by decide +kernel
theorem dX1_count_57 : decode cX1_count 57 = .ok (.if_icmp .ge 20, 3) := by decide +kernel
theorem dX1_count_60 : decode cX1_count 60 = .ok (.iload_n 2, 1) := by decide +kernel
theorem dX1_count_61 : decode cX1_count 61 = .ok (.lload 4, 2) := by decide +kernel
theorem dX1_count_63 : decode cX1_count 63 = .ok (.iload 6, 2) := by decide +kernel
theorem dX1_count_65 : decode cX1_count 65 = .ok (.lushr, 1) := by decide +kernel
theorem dX1_count_66 : decode cX1_count 66 = .ok (.lconst 1, 1) := by decide +kernel
theorem dX1_count_67 : decode cX1_count 67 = .ok (.land, 1) := by decide +kernel
theorem dX1_count_68 : decode cX1_count 68 = .ok (.l2i, 1) := by decide +kernel
theorem dX1_count_69 : decode cX1_count 69 = .ok (.iadd, 1) := by decide +kernel
theorem dX1_count_70 : decode cX1_count 70 = .ok (.istore_n 2, 1) := by decide +kernel
theorem dX1_count_71 : decode cX1_count 71 = .ok (.iinc 6 1, 3) := by decide +kernel
theorem dX1_count_74 : decode cX1_count 74 = .ok (.goto (-21), 3) := by decide +kernel
theorem dX1_count_77 : decode cX1_count 77 = .ok (.iinc 3 1, 3) := by decide +kernel
theorem dX1_count_80 : decode cX1_count 80 = .ok (.goto (-50), 3) := by decide +kernel
theorem dX1_count_83 : decode cX1_count 83 = .ok (.iload_n 2, 1) := by decide +kernel
theorem dX1_count_84 : decode cX1_count 84 = .ok (.iload_n 1, 1) := by decide +kernel
theorem dX1_count_85 : decode cX1_count 85 = .ok (.if_icmp .ge 7, 3) := by decide +kernel
theorem dX1_count_88 : decode cX1_count 88 = .ok (.iload_n 2, 1) := by decide +kernel
theorem dX1_count_89 : decode cX1_count 89 = .ok (.goto 4, 3) := by decide +kernel
theorem dX1_count_92 : decode cX1_count 92 = .ok (.iload_n 1, 1) := by decide +kernel
theorem dX1_count_93 : decode cX1_count 93 = .ok (.ireturn, 1) := by decide +kernel
theorem dX1_value_0 : decode cX1_value 0 = .ok (.aload_n 0, 1) := by decide +kernel
theorem dX1_value_1 : decode cX1_value 1 = .ok (.iload_n 1, 1) := by decide +kernel
theorem dX1_value_2 : decode cX1_value 2 = .ok (.iconst 1, 1) := by decide +kernel
theorem dX1_value_3 : decode cX1_value 3 = .ok (.if_icmp .lt 9, 3) := by decide +kernel
theorem dX1_value_6 : decode cX1_value 6 = .ok (.iload_n 1, 1) := by decide +kernel
theorem dX1_value_7 : decode cX1_value 7 = .ok (.bipush 18, 2) := by decide +kernel
theorem dX1_value_9 : decode cX1_value 9 = .ok (.if_icmp .le 7, 3) := by decide +kernel
theorem dX1_value_12 : decode cX1_value 12 = .ok (.iconst 1, 1) := by decide +kernel
theorem dX1_value_13 : decode cX1_value 13 = .ok (.goto 4, 3) := by decide +kernel
theorem dX1_value_16 : decode cX1_value 16 = .ok (.iconst 0, 1) := by decide +kernel
theorem dX1_value_17 : decode cX1_value 17 = .ok (.aload_n 0, 1) := by decide +kernel
theorem dX1_value_18 : decode cX1_value 18 = .ok (.getfield 25, 3) := by decide +kernel
theorem dX1_value_21 : decode cX1_value 21 = .ok (.ifCond .ge 7, 3) := by decide +kernel
theorem dX1_value_24 : decode cX1_value 24 = .ok (.iconst 1, 1) := by decide +kernel
theorem dX1_value_25 : decode cX1_value 25 = .ok (.goto 4, 3) := by decide +kernel
theorem dX1_value_28 : decode cX1_value 28 = .ok (.iconst 0, 1) := by decide +kernel
theorem dX1_value_29 : decode cX1_value 29 = .ok (.invokevirtual 80, 3) := by decide +kernel
theorem dX1_value_32 : decode cX1_value 32 = .ok (.ifCond .eq 5, 3) := by decide +kernel
theorem dX1_value_35 : decode cX1_value 35 = .ok (.iconst 0, 1) := by decide +kernel
theorem dX1_value_36 : decode cX1_value 36 = .ok (.ireturn, 1) := by decide +kernel
theorem dX1_value_37 : decode cX1_value 37 = .ok (.aload_n 0, 1) := by decide +kernel
theorem dX1_value_38 : decode cX1_value 38 = .ok (.getfield 25, 3) := by decide +kernel
theorem dX1_value_41 : decode cX1_value 41 = .ok (.iload_n 1, 1) := by decide +kernel
theorem dX1_value_42 : decode cX1_value 42 = .ok (.iconst 1, 1) := by decide +kernel
theorem dX1_value_43 : decode cX1_value 43 = .ok (.isub, 1) := by decide +kernel
theorem dX1_value_44 : decode cX1_value 44 = .ok (.ishr, 1) := by decide +kernel
theorem dX1_value_45 : decode cX1_value 45 = .ok (.iconst 1, 1) := by decide +kernel
theorem dX1_value_46 : decode cX1_value 46 = .ok (.iand, 1) := by decide +kernel
theorem dX1_value_47 : decode cX1_value 47 = .ok (.ireturn, 1) := by decide +kernel
theorem dX1_look_0 : decode cX1_look 0 = .ok (.aload_n 0, 1) := by decide +kernel
theorem dX1_look_1 : decode cX1_look 1 = .ok (.iload_n 1, 1) := by decide +kernel
theorem dX1_look_2 : decode cX1_look 2 = .ok (.ifCond .lt 8, 3) := by decide +kernel
theorem dX1_look_5 : decode cX1_look 5 = .ok (.iload_n 1, 1) := by decide +kernel
theorem dX1_look_6 : decode cX1_look 6 = .ok (.iconst 4, 1) := by decide +kernel
theorem dX1_look_7 : decode cX1_look 7 = .ok (.if_icmp .le 7, 3) := by decide +kernel
theorem dX1_look_10 : decode cX1_look 10 = .ok (.iconst 1, 1) := by decide +kernel
theorem dX1_look_11 : decode cX1_look 11 = .ok (.goto 4, 3) := by decide +kernel
theorem dX1_look_14 : decode cX1_look 14 = .ok (.iconst 0, 1) := by decide +kernel
theorem dX1_look_15 : decode cX1_look 15 = .ok (.iconst 0, 1) := by decide +kernel
theorem dX1_look_16 : decode cX1_look 16 = .ok (.invokevirtual 80, 3) := by decide +kernel
theorem dX1_look_19 : decode cX1_look 19 = .ok (.ifCond .eq 5, 3) := by decide +kernel
theorem dX1_look_22 : decode cX1_look 22 = .ok (.iconst 0, 1) := by decide +kernel
theorem dX1_look_23 : decode cX1_look 23 = .ok (.ireturn, 1) := by decide +kernel
theorem dX1_look_24 : decode cX1_look 24 = .ok (.iload_n 1, 1) := by decide +kernel
theorem dX1_look_25 : decode cX1_look 25 = .ok (.ifCond .ne 10, 3) := by decide +kernel
theorem dX1_look_28 : decode cX1_look 28 = .ok (.aload_n 0, 1) := by decide +kernel
theorem dX1_look_29 : decode cX1_look 29 = .ok (.getfield 60, 3) := by decide +kernel
theorem dX1_look_32 : decode cX1_look 32 = .ok (.goto 51, 3) := by decide +kernel
theorem dX1_look_35 : decode cX1_look 35 = .ok (.iload_n 1, 1) := by decide +kernel
theorem dX1_look_36 : decode cX1_look 36 = .ok (.iconst 1, 1) := by decide +kernel
theorem dX1_look_37 : decode cX1_look 37 = .ok (.if_icmp .ne 10, 3) := by decide +kernel
theorem dX1_look_40 : decode cX1_look 40 = .ok (.aload_n 0, 1) := by decide +kernel
theorem dX1_look_41 : decode cX1_look 41 = .ok (.getfield 84, 3) := by decide +kernel
theorem dX1_look_44 : decode cX1_look 44 = .ok (.goto 39, 3) := by decide +kernel
theorem dX1_look_47 : decode cX1_look 47 = .ok (.iload_n 1, 1) := by decide +kernel
theorem dX1_look_48 : decode cX1_look 48 = .ok (.iconst 2, 1) := by decide +kernel
theorem dX1_look_49 : decode cX1_look 49 = .ok (.if_icmp .ne 10, 3) := by decide +kernel
theorem dX1_look_52 : decode cX1_look 52 = .ok (.aload_n 0, 1) := by decide +kernel
theorem dX1_look_53 : decode cX1_look 53 = .ok (.getfield 67, 3) := by decide +kernel
theorem dX1_look_56 : decode cX1_look 56 = .ok (.goto 27, 3) := by decide +kernel
theorem dX1_look_59 : decode cX1_look 59 = .ok (.iload_n 1, 1) := by decide +kernel
theorem dX1_look_60 : decode cX1_look 60 = .ok (.iconst 3, 1) := by decide +kernel
theorem dX1_look_61 : decode cX1_look 61 = .ok (.if_icmp .ne 10, 3) := by decide +kernel
theorem dX1_look_64 : decode cX1_look 64 = .ok (.aload_n 0, 1) := by decide +kernel
theorem dX1_look_65 : decode cX1_look 65 = .ok (.getfield 77, 3) := by decide +kernel
theorem dX1_look_68 : decode cX1_look 68 = .ok (.goto 15, 3) := by decide +kernel
theorem dX1_look_71 : decode cX1_look 71 = .ok (.aload_n 0, 1) := by decide +kernel
theorem dX1_look_72 : decode cX1_look 72 = .ok (.getfield 25, 3) := by decide +kernel
theorem dX1_look_75 : decode cX1_look 75 = .ok (.ifCond .ge 7, 3) := by decide +kernel
theorem dX1_look_78 : decode cX1_look 78 = .ok (.iconst 0, 1) := by decide +kernel
theorem dX1_look_79 : decode cX1_look 79 = .ok (.goto 4, 3) := by decide +kernel
theorem dX1_look_82 : decode cX1_look 82 = .ok (.iconst 1, 1) := by decide +kernel
theorem dX1_look_83 : decode cX1_look 83 = .ok (.ireturn, 1) := by decide +kernel
end
section
theorem dL_put_0 : decode cL_put 0 = .ok (.aload_n 2, 1) := by decide +kernel
theorem dL_put_1 : decode cL_put 1 = .ok (.iconst 0, 1) := by decide +kernel
theorem dL_put_2 : decode cL_put 2 = .ok (.aload_n 0, 1) := by decide +kernel
theorem dL_put_3 : decode cL_put 3 = .ok (.iload_n 1, 1) := by decide +kernel
theorem dL_put_4 : decode cL_put 4 = .ok (.invokevirtual 7, 3) := by decide +kernel
theorem dL_put_7 : decode cL_put 7 = .ok (.i2l, 1) := by decide +kernel
theorem dL_put_8 : decode cL_put 8 = .ok (.lastore, 1) := by decide +kernel
theorem dL_put_9 : decode cL_put 9 = .ok (.goto 9, 3) := by decide +kernel
theorem dL_put_12 : decode cL_put 12 = .ok (.astore_n 3, 1) := by decide +kernel
theorem dL_put_13 : decode cL_put 13 = .ok (.iconst 1, 1) := by decide +kernel
theorem dL_put_14 : decode cL_put 14 = .ok (.ireturn, 1) := by decide +kernel
theorem dL_put_15 : decode cL_put 15 = .ok (.astore_n 3, 1) := by decide +kernel
theorem dL_put_16 : decode cL_put 16 = .ok (.iconst 2, 1) := by decide +kernel
theorem dL_put_17 : decode cL_put 17 = .ok (.ireturn, 1) := by decide +kernel
theorem dL_put_18 : decode cL_put 18 = .ok (.iconst 0, 1) := by decide +kernel
theorem dL_put_19 : decode cL_put 19 = .ok (.ireturn, 1) := by decide +kernel
theorem dL_add_0 : decode cL_add 0 = .ok (.aload_n 1, 1) := by decide +kernel
theorem dL_add_1 : decode cL_add 1 = .ok (.iconst 0, 1) := by decide +kernel
theorem dL_add_2 : decode cL_add 2 = .ok (.aload_n 0, 1) := by decide +kernel
theorem dL_add_3 : decode cL_add 3 = .ok (.invokevirtual 17, 3) := by decide +kernel
theorem dL_add_6 : decode cL_add 6 = .ok (.i2l, 1) := by decide +kernel
theorem dL_add_7 : decode cL_add 7 = .ok (.lastore, 1) := by decide +kernel
theorem dL_add_8 : decode cL_add 8 = .ok (.goto 6, 3) := by decide +kernel
theorem dL_add_11 : decode cL_add 11 = .ok (.astore_n 2, 1) := by decide +kernel
theorem dL_add_12 : decode cL_add 12 = .ok (.iconst 1, 1) := by decide +kernel
theorem dL_add_13 : decode cL_add 13 = .ok (.ireturn, 1) := by decide +kernel
theorem dL_add_14 : decode cL_add 14 = .ok (.iconst 0, 1) := by decide +kernel
theorem dL_add_15 : decode cL_add 15 = .ok (.ireturn, 1) := by decide +kernel
theorem dL_open_0 : decode cL_open 0 = .ok (.aload_n 1, 1) := by decide +kernel
theorem dL_open_1 : decode cL_open 1 = .ok (.iconst 0, 1) := by decide +kernel
theorem dL_open_2 : decode cL_open 2 = .ok (.aload_n 0, 1) := by decide +kernel
theorem dL_open_3 : decode cL_open 3 = .ok (.invokevirtual 21, 3) := by decide +kernel
theorem dL_open_6 : decode cL_open 6 = .ok (.i2l, 1) := by decide +kernel
theorem dL_open_7 : decode cL_open 7 = .ok (.lastore, 1) := by decide +kernel
theorem dL_open_8 : decode cL_open 8 = .ok (.goto 6, 3) := by decide +kernel
theorem dL_open_11 : decode cL_open 11 = .ok (.astore_n 2, 1) := by decide +kernel
theorem dL_open_12 : decode cL_open 12 = .ok (.iconst 1, 1) := by decide +kernel
theorem dL_open_13 : decode cL_open 13 = .ok (.ireturn, 1) := by decide +kernel
theorem dL_open_14 : decode cL_open 14 = .ok (.iconst 0, 1) := by decide +kernel
theorem dL_open_15 : decode cL_open 15 = .ok (.ireturn, 1) := by decide +kernel
theorem dL_close_0 : decode cL_close 0 = .ok (.aload_n 1, 1) := by decide +kernel
theorem dL_close_1 : decode cL_close 1 = .ok (.iconst 0, 1) := by decide +kernel
theorem dL_close_2 : decode cL_close 2 = .ok (.aload_n 0, 1) := by decide +kernel
theorem dL_close_3 : decode cL_close 3 = .ok (.invokevirtual 24, 3) := by decide +kernel
theorem dL_close_6 : decode cL_close 6 = .ok (.i2l, 1) := by decide +kernel
theorem dL_close_7 : decode cL_close 7 = .ok (.lastore, 1) := by decide +kernel
theorem dL_close_8 : decode cL_close 8 = .ok (.goto 6, 3) := by decide +kernel
theorem dL_close_11 : decode cL_close 11 = .ok (.astore_n 2, 1) := by decide +kernel
theorem dL_close_12 : decode cL_close 12 = .ok (.iconst 1, 1) := by decide +kernel
theorem dL_close_13 : decode cL_close 13 = .ok (.ireturn, 1) := by decide +kernel
theorem dL_close_14 : decode cL_close 14 = .ok (.iconst 0, 1) := by decide +kernel
theorem dL_close_15 : decode cL_close 15 = .ok (.ireturn, 1) := by decide +kernel
theorem dL_assume_0 : decode cL_assume 0 = .ok (.aload_n 2, 1) := by decide +kernel
theorem dL_assume_1 : decode cL_assume 1 = .ok (.iconst 0, 1) := by decide +kernel
theorem dL_assume_2 : decode cL_assume 2 = .ok (.aload_n 0, 1) := by decide +kernel
theorem dL_assume_3 : decode cL_assume 3 = .ok (.iload_n 1, 1) := by decide +kernel
theorem dL_assume_4 : decode cL_assume 4 = .ok (.invokevirtual 27, 3) := by decide +kernel
theorem dL_assume_7 : decode cL_assume 7 = .ok (.i2l, 1) := by decide +kernel
theorem dL_assume_8 : decode cL_assume 8 = .ok (.lastore, 1) := by decide +kernel
theorem dL_assume_9 : decode cL_assume 9 = .ok (.goto 9, 3) := by decide +kernel
theorem dL_assume_12 : decode cL_assume 12 = .ok (.astore_n 3, 1) := by decide +kernel
theorem dL_assume_13 : decode cL_assume 13 = .ok (.iconst 1, 1) := by decide +kernel
theorem dL_assume_14 : decode cL_assume 14 = .ok (.ireturn, 1) := by decide +kernel
theorem dL_assume_15 : decode cL_assume 15 = .ok (.astore_n 3, 1) := by decide +kernel
theorem dL_assume_16 : decode cL_assume 16 = .ok (.iconst 2, 1) := by decide +kernel
theorem dL_assume_17 : decode cL_assume 17 = .ok (.ireturn, 1) := by decide +kernel
theorem dL_assume_18 : decode cL_assume 18 = .ok (.iconst 0, 1) := by decide +kernel
theorem dL_assume_19 : decode cL_assume 19 = .ok (.ireturn, 1) := by decide +kernel
theorem dL_next_0 : decode cL_next 0 = .ok (.aload_n 1, 1) := by decide +kernel
theorem dL_next_1 : decode cL_next 1 = .ok (.iconst 0, 1) := by decide +kernel
theorem dL_next_2 : decode cL_next 2 = .ok (.aload_n 0, 1) := by decide +kernel
theorem dL_next_3 : decode cL_next 3 = .ok (.invokevirtual 30, 3) := by decide +kernel
theorem dL_next_6 : decode cL_next 6 = .ok (.i2l, 1) := by decide +kernel
theorem dL_next_7 : decode cL_next 7 = .ok (.lastore, 1) := by decide +kernel
theorem dL_next_8 : decode cL_next 8 = .ok (.goto 6, 3) := by decide +kernel
theorem dL_next_11 : decode cL_next 11 = .ok (.astore_n 2, 1) := by decide +kernel
theorem dL_next_12 : decode cL_next 12 = .ok (.iconst 1, 1) := by decide +kernel
theorem dL_next_13 : decode cL_next 13 = .ok (.ireturn, 1) := by decide +kernel
theorem dL_next_14 : decode cL_next 14 = .ok (.iconst 0, 1) := by decide +kernel
theorem dL_next_15 : decode cL_next 15 = .ok (.ireturn, 1) := by decide +kernel
theorem dL_forced_0 : decode cL_forced 0 = .ok (.aload_n 2, 1) := by decide +kernel
theorem dL_forced_1 : decode cL_forced 1 = .ok (.iconst 0, 1) := by decide +kernel
theorem dL_forced_2 : decode cL_forced 2 = .ok (.aload_n 0, 1) := by decide +kernel
theorem dL_forced_3 : decode cL_forced 3 = .ok (.iload_n 1, 1) := by decide +kernel
theorem dL_forced_4 : decode cL_forced 4 = .ok (.invokevirtual 33, 3) := by decide +kernel
theorem dL_forced_7 : decode cL_forced 7 = .ok (.ifCond .eq 7, 3) := by decide +kernel
theorem dL_forced_10 : decode cL_forced 10 = .ok (.lconst 1, 1) := by decide +kernel
theorem dL_forced_11 : decode cL_forced 11 = .ok (.goto 4, 3) := by decide +kernel
theorem dL_forced_14 : decode cL_forced 14 = .ok (.lconst 0, 1) := by decide +kernel
theorem dL_forced_15 : decode cL_forced 15 = .ok (.lastore, 1) := by decide +kernel
theorem dL_forced_16 : decode cL_forced 16 = .ok (.goto 6, 3) := by decide +kernel
theorem dL_forced_19 : decode cL_forced 19 = .ok (.astore_n 3, 1) := by decide +kernel
theorem dL_forced_20 : decode cL_forced 20 = .ok (.iconst 1, 1) := by decide +kernel
theorem dL_forced_21 : decode cL_forced 21 = .ok (.ireturn, 1) := by decide +kernel
theorem dL_forced_22 : decode cL_forced 22 = .ok (.iconst 0, 1) := by decide +kernel
theorem dL_forced_23 : decode cL_forced 23 = .ok (.ireturn, 1) := by decide +kernel
theorem dL_blames_0 : decode cL_blames 0 = .ok (.aload_n 2, 1) := by decide +kernel
theorem dL_blames_1 : decode cL_blames 1 = .ok (.iconst 0, 1) := by decide +kernel
theorem dL_blames_2 : decode cL_blames 2 = .ok (.aload_n 0, 1) := by decide +kernel
theorem dL_blames_3 : decode cL_blames 3 = .ok (.iload_n 1, 1) := by decide +kernel
theorem dL_blames_4 : decode cL_blames 4 = .ok (.invokevirtual 37, 3) := by decide +kernel
theorem dL_blames_7 : decode cL_blames 7 = .ok (.ifCond .eq 7, 3) := by decide +kernel
theorem dL_blames_10 : decode cL_blames 10 = .ok (.lconst 1, 1) := by decide +kernel
theorem dL_blames_11 : decode cL_blames 11 = .ok (.goto 4, 3) := by decide +kernel
theorem dL_blames_14 : decode cL_blames 14 = .ok (.lconst 0, 1) := by decide +kernel
theorem dL_blames_15 : decode cL_blames 15 = .ok (.lastore, 1) := by decide +kernel
theorem dL_blames_16 : decode cL_blames 16 = .ok (.goto 6, 3) := by decide +kernel
theorem dL_blames_19 : decode cL_blames 19 = .ok (.astore_n 3, 1) := by decide +kernel
theorem dL_blames_20 : decode cL_blames 20 = .ok (.iconst 1, 1) := by decide +kernel
theorem dL_blames_21 : decode cL_blames 21 = .ok (.ireturn, 1) := by decide +kernel
theorem dL_blames_22 : decode cL_blames 22 = .ok (.iconst 0, 1) := by decide +kernel
theorem dL_blames_23 : decode cL_blames 23 = .ok (.ireturn, 1) := by decide +kernel
theorem dL_count_0 : decode cL_count 0 = .ok (.aload_n 2, 1) := by decide +kernel
theorem dL_count_1 : decode cL_count 1 = .ok (.iconst 0, 1) := by decide +kernel
theorem dL_count_2 : decode cL_count 2 = .ok (.aload_n 0, 1) := by decide +kernel
theorem dL_count_3 : decode cL_count 3 = .ok (.iload_n 1, 1) := by decide +kernel
theorem dL_count_4 : decode cL_count 4 = .ok (.invokevirtual 42, 3) := by decide +kernel
theorem dL_count_7 : decode cL_count 7 = .ok (.i2l, 1) := by decide +kernel
theorem dL_count_8 : decode cL_count 8 = .ok (.lastore, 1) := by decide +kernel
theorem dL_count_9 : decode cL_count 9 = .ok (.goto 6, 3) := by decide +kernel
theorem dL_count_12 : decode cL_count 12 = .ok (.astore_n 3, 1) := by decide +kernel
theorem dL_count_13 : decode cL_count 13 = .ok (.iconst 1, 1) := by decide +kernel
theorem dL_count_14 : decode cL_count 14 = .ok (.ireturn, 1) := by decide +kernel
theorem dL_count_15 : decode cL_count 15 = .ok (.iconst 0, 1) := by decide +kernel
theorem dL_count_16 : decode cL_count 16 = .ok (.ireturn, 1) := by decide +kernel
theorem dL_value_0 : decode cL_value 0 = .ok (.aload_n 2, 1) := by decide +kernel
theorem dL_value_1 : decode cL_value 1 = .ok (.iconst 0, 1) := by decide +kernel
theorem dL_value_2 : decode cL_value 2 = .ok (.aload_n 0, 1) := by decide +kernel
theorem dL_value_3 : decode cL_value 3 = .ok (.iload_n 1, 1) := by decide +kernel
theorem dL_value_4 : decode cL_value 4 = .ok (.invokevirtual 45, 3) := by decide +kernel
theorem dL_value_7 : decode cL_value 7 = .ok (.i2l, 1) := by decide +kernel
theorem dL_value_8 : decode cL_value 8 = .ok (.lastore, 1) := by decide +kernel
theorem dL_value_9 : decode cL_value 9 = .ok (.goto 9, 3) := by decide +kernel
theorem dL_value_12 : decode cL_value 12 = .ok (.astore_n 3, 1) := by decide +kernel
theorem dL_value_13 : decode cL_value 13 = .ok (.iconst 1, 1) := by decide +kernel
theorem dL_value_14 : decode cL_value 14 = .ok (.ireturn, 1) := by decide +kernel
theorem dL_value_15 : decode cL_value 15 = .ok (.astore_n 3, 1) := by decide +kernel
theorem dL_value_16 : decode cL_value 16 = .ok (.iconst 2, 1) := by decide +kernel
theorem dL_value_17 : decode cL_value 17 = .ok (.ireturn, 1) := by decide +kernel
theorem dL_value_18 : decode cL_value 18 = .ok (.iconst 0, 1) := by decide +kernel
theorem dL_value_19 : decode cL_value 19 = .ok (.ireturn, 1) := by decide +kernel
theorem dL_look_0 : decode cL_look 0 = .ok (.aload_n 2, 1) := by decide +kernel
theorem dL_look_1 : decode cL_look 1 = .ok (.iconst 0, 1) := by decide +kernel
theorem dL_look_2 : decode cL_look 2 = .ok (.aload_n 0, 1) := by decide +kernel
theorem dL_look_3 : decode cL_look 3 = .ok (.iload_n 1, 1) := by decide +kernel
theorem dL_look_4 : decode cL_look 4 = .ok (.invokevirtual 48, 3) := by decide +kernel
theorem dL_look_7 : decode cL_look 7 = .ok (.i2l, 1) := by decide +kernel
theorem dL_look_8 : decode cL_look 8 = .ok (.lastore, 1) := by decide +kernel
theorem dL_look_9 : decode cL_look 9 = .ok (.goto 6, 3) := by decide +kernel
theorem dL_look_12 : decode cL_look 12 = .ok (.astore_n 3, 1) := by decide +kernel
theorem dL_look_13 : decode cL_look 13 = .ok (.iconst 1, 1) := by decide +kernel
theorem dL_look_14 : decode cL_look 14 = .ok (.ireturn, 1) := by decide +kernel
theorem dL_look_15 : decode cL_look 15 = .ok (.iconst 0, 1) := by decide +kernel
theorem dL_look_16 : decode cL_look 16 = .ok (.ireturn, 1) := by decide +kernel
theorem dL_law_0 : decode cL_law 0 = .ok (.new 8, 3) := by decide +kernel
theorem dL_law_3 : decode cL_law 3 = .ok (.dup, 1) := by decide +kernel
theorem dL_law_4 : decode cL_law 4 = .ok (.invokespecial 51, 3) := by decide +kernel
theorem dL_law_7 : decode cL_law 7 = .ok (.astore_n 1, 1) := by decide +kernel
theorem dL_law_8 : decode cL_law 8 = .ok (.new 52, 3) := by decide +kernel
theorem dL_law_11 : decode cL_law 11 = .ok (.dup, 1) := by decide +kernel
theorem dL_law_12 : decode cL_law 12 = .ok (.invokespecial 54, 3) := by decide +kernel
theorem dL_law_15 : decode cL_law 15 = .ok (.astore_n 2, 1) := by decide +kernel
theorem dL_law_16 : decode cL_law 16 = .ok (.iconst 1, 1) := by decide +kernel
theorem dL_law_17 : decode cL_law 17 = .ok (.newarray .long, 2) := by decide +kernel
theorem dL_law_19 : decode cL_law 19 = .ok (.astore_n 3, 1) := by decide +kernel
theorem dL_law_20 : decode cL_law 20 = .ok (.iconst 0, 1) := by decide +kernel
theorem dL_law_21 : decode cL_law 21 = .ok (.istore 4, 2) := by decide +kernel
theorem dL_law_23 : decode cL_law 23 = .ok (.iload 4, 2) := by decide +kernel
theorem dL_law_25 : decode cL_law 25 = .ok (.aload_n 0, 1) := by decide +kernel
theorem dL_law_26 : decode cL_law 26 = .ok (.arraylength, 1) := by decide +kernel
theorem dL_law_27 : decode cL_law 27 = .ok (.iconst 2, 1) := by decide +kernel
theorem dL_law_28 : decode cL_law 28 = .ok (.isub, 1) := by decide +kernel
theorem dL_law_29 : decode cL_law 29 = .ok (.if_icmp .gt 706, 3) := by decide +kernel
theorem dL_law_32 : decode cL_law 32 = .ok (.aload_n 0, 1) := by decide +kernel
theorem dL_law_33 : decode cL_law 33 = .ok (.iload 4, 2) := by decide +kernel
theorem dL_law_35 : decode cL_law 35 = .ok (.iaload, 1) := by decide +kernel
theorem dL_law_36 : decode cL_law 36 = .ok (.bipush 15, 2) := by decide +kernel
theorem dL_law_38 : decode cL_law 38 = .ok (.iand, 1) := by decide +kernel
theorem dL_law_39 : decode cL_law 39 = .ok (.tableswitch 690 0 13 #[69, 125, 169, 213, 257, 313, 326, 339, 383, 396, 459, 522, 578, 634], 69) := by decide +kernel
theorem dL_law_108 : decode cL_law 108 = .ok (.aload_n 1, 1) := by decide +kernel
theorem dL_law_109 : decode cL_law 109 = .ok (.aload_n 0, 1) := by decide +kernel
theorem dL_law_110 : decode cL_law 110 = .ok (.iload 4, 2) := by decide +kernel
theorem dL_law_112 : decode cL_law 112 = .ok (.iconst 1, 1) := by decide +kernel
theorem dL_law_113 : decode cL_law 113 = .ok (.iadd, 1) := by decide +kernel
theorem dL_law_114 : decode cL_law 114 = .ok (.iaload, 1) := by decide +kernel
theorem dL_law_115 : decode cL_law 115 = .ok (.aload_n 3, 1) := by decide +kernel
theorem dL_law_116 : decode cL_law 116 = .ok (.invokestatic 55, 3) := by decide +kernel
theorem dL_law_119 : decode cL_law 119 = .ok (.istore 5, 2) := by decide +kernel
theorem dL_law_121 : decode cL_law 121 = .ok (.aload_n 2, 1) := by decide +kernel
theorem dL_law_122 : decode cL_law 122 = .ok (.aload_n 0, 1) := by decide +kernel
theorem dL_law_123 : decode cL_law 123 = .ok (.iload 4, 2) := by decide +kernel
theorem dL_law_125 : decode cL_law 125 = .ok (.iconst 1, 1) := by decide +kernel
theorem dL_law_126 : decode cL_law 126 = .ok (.iadd, 1) := by decide +kernel
theorem dL_law_127 : decode cL_law 127 = .ok (.iaload, 1) := by decide +kernel
theorem dL_law_128 : decode cL_law 128 = .ok (.invokevirtual 60, 3) := by decide +kernel
theorem dL_law_131 : decode cL_law 131 = .ok (.istore 6, 2) := by decide +kernel
theorem dL_law_133 : decode cL_law 133 = .ok (.aload_n 2, 1) := by decide +kernel
theorem dL_law_134 : decode cL_law 134 = .ok (.invokevirtual 61, 3) := by decide +kernel
theorem dL_law_137 : decode cL_law 137 = .ok (.iload 5, 2) := by decide +kernel
theorem dL_law_139 : decode cL_law 139 = .ok (.if_icmp .eq 5, 3) := by decide +kernel
theorem dL_law_142 : decode cL_law 142 = .ok (.iconst 0, 1) := by decide +kernel
theorem dL_law_143 : decode cL_law 143 = .ok (.ireturn, 1) := by decide +kernel
theorem dL_law_144 : decode cL_law 144 = .ok (.iload 5, 2) := by decide +kernel
theorem dL_law_146 : decode cL_law 146 = .ok (.ifCond .ne 15, 3) := by decide +kernel
theorem dL_law_149 : decode cL_law 149 = .ok (.aload_n 3, 1) := by decide +kernel
theorem dL_law_150 : decode cL_law 150 = .ok (.iconst 0, 1) := by decide +kernel
theorem dL_law_151 : decode cL_law 151 = .ok (.laload, 1) := by decide +kernel
theorem dL_law_152 : decode cL_law 152 = .ok (.iload 6, 2) := by decide +kernel
theorem dL_law_154 : decode cL_law 154 = .ok (.i2l, 1) := by decide +kernel
theorem dL_law_155 : decode cL_law 155 = .ok (.lcmp, 1) := by decide +kernel
theorem dL_law_156 : decode cL_law 156 = .ok (.ifCond .eq 5, 3) := by decide +kernel
theorem dL_law_159 : decode cL_law 159 = .ok (.iconst 0, 1) := by decide +kernel
theorem dL_law_160 : decode cL_law 160 = .ok (.ireturn, 1) := by decide +kernel
theorem dL_law_161 : decode cL_law 161 = .ok (.goto 568, 3) := by decide +kernel
theorem dL_law_164 : decode cL_law 164 = .ok (.aload_n 1, 1) := by decide +kernel
theorem dL_law_165 : decode cL_law 165 = .ok (.aload_n 3, 1) := by decide +kernel
theorem dL_law_166 : decode cL_law 166 = .ok (.invokestatic 64, 3) := by decide +kernel
theorem dL_law_169 : decode cL_law 169 = .ok (.istore 5, 2) := by decide +kernel
theorem dL_law_171 : decode cL_law 171 = .ok (.aload_n 2, 1) := by decide +kernel
theorem dL_law_172 : decode cL_law 172 = .ok (.invokevirtual 67, 3) := by decide +kernel
theorem dL_law_175 : decode cL_law 175 = .ok (.istore 6, 2) := by decide +kernel
theorem dL_law_177 : decode cL_law 177 = .ok (.aload_n 2, 1) := by decide +kernel
theorem dL_law_178 : decode cL_law 178 = .ok (.invokevirtual 61, 3) := by decide +kernel
theorem dL_law_181 : decode cL_law 181 = .ok (.iload 5, 2) := by decide +kernel
theorem dL_law_183 : decode cL_law 183 = .ok (.if_icmp .eq 5, 3) := by decide +kernel
theorem dL_law_186 : decode cL_law 186 = .ok (.iconst 0, 1) := by decide +kernel
theorem dL_law_187 : decode cL_law 187 = .ok (.ireturn, 1) := by decide +kernel
theorem dL_law_188 : decode cL_law 188 = .ok (.iload 5, 2) := by decide +kernel
theorem dL_law_190 : decode cL_law 190 = .ok (.ifCond .ne 15, 3) := by decide +kernel
theorem dL_law_193 : decode cL_law 193 = .ok (.aload_n 3, 1) := by decide +kernel
theorem dL_law_194 : decode cL_law 194 = .ok (.iconst 0, 1) := by decide +kernel
theorem dL_law_195 : decode cL_law 195 = .ok (.laload, 1) := by decide +kernel
theorem dL_law_196 : decode cL_law 196 = .ok (.iload 6, 2) := by decide +kernel
theorem dL_law_198 : decode cL_law 198 = .ok (.i2l, 1) := by decide +kernel
theorem dL_law_199 : decode cL_law 199 = .ok (.lcmp, 1) := by decide +kernel
theorem dL_law_200 : decode cL_law 200 = .ok (.ifCond .eq 5, 3) := by decide +kernel
theorem dL_law_203 : decode cL_law 203 = .ok (.iconst 0, 1) := by decide +kernel
theorem dL_law_204 : decode cL_law 204 = .ok (.ireturn, 1) := by decide +kernel
theorem dL_law_205 : decode cL_law 205 = .ok (.goto 524, 3) := by decide +kernel
theorem dL_law_208 : decode cL_law 208 = .ok (.aload_n 1, 1) := by decide +kernel
theorem dL_law_209 : decode cL_law 209 = .ok (.aload_n 3, 1) := by decide +kernel
theorem dL_law_210 : decode cL_law 210 = .ok (.invokestatic 68, 3) := by decide +kernel
theorem dL_law_213 : decode cL_law 213 = .ok (.istore 5, 2) := by decide +kernel
theorem dL_law_215 : decode cL_law 215 = .ok (.aload_n 2, 1) := by decide +kernel
theorem dL_law_216 : decode cL_law 216 = .ok (.invokevirtual 70, 3) := by decide +kernel
theorem dL_law_219 : decode cL_law 219 = .ok (.istore 6, 2) := by decide +kernel
theorem dL_law_221 : decode cL_law 221 = .ok (.aload_n 2, 1) := by decide +kernel
theorem dL_law_222 : decode cL_law 222 = .ok (.invokevirtual 61, 3) := by decide +kernel
theorem dL_law_225 : decode cL_law 225 = .ok (.iload 5, 2) := by decide +kernel
theorem dL_law_227 : decode cL_law 227 = .ok (.if_icmp .eq 5, 3) := by decide +kernel
theorem dL_law_230 : decode cL_law 230 = .ok (.iconst 0, 1) := by decide +kernel
theorem dL_law_231 : decode cL_law 231 = .ok (.ireturn, 1) := by decide +kernel
theorem dL_law_232 : decode cL_law 232 = .ok (.iload 5, 2) := by decide +kernel
theorem dL_law_234 : decode cL_law 234 = .ok (.ifCond .ne 15, 3) := by decide +kernel
theorem dL_law_237 : decode cL_law 237 = .ok (.aload_n 3, 1) := by decide +kernel
theorem dL_law_238 : decode cL_law 238 = .ok (.iconst 0, 1) := by decide +kernel
theorem dL_law_239 : decode cL_law 239 = .ok (.laload, 1) := by decide +kernel
theorem dL_law_240 : decode cL_law 240 = .ok (.iload 6, 2) := by decide +kernel
theorem dL_law_242 : decode cL_law 242 = .ok (.i2l, 1) := by decide +kernel
theorem dL_law_243 : decode cL_law 243 = .ok (.lcmp, 1) := by decide +kernel
theorem dL_law_244 : decode cL_law 244 = .ok (.ifCond .eq 5, 3) := by decide +kernel
theorem dL_law_247 : decode cL_law 247 = .ok (.iconst 0, 1) := by decide +kernel
theorem dL_law_248 : decode cL_law 248 = .ok (.ireturn, 1) := by decide +kernel
theorem dL_law_249 : decode cL_law 249 = .ok (.goto 480, 3) := by decide +kernel
theorem dL_law_252 : decode cL_law 252 = .ok (.aload_n 1, 1) := by decide +kernel
theorem dL_law_253 : decode cL_law 253 = .ok (.aload_n 3, 1) := by decide +kernel
theorem dL_law_254 : decode cL_law 254 = .ok (.invokestatic 71, 3) := by decide +kernel
theorem dL_law_257 : decode cL_law 257 = .ok (.istore 5, 2) := by decide +kernel
theorem dL_law_259 : decode cL_law 259 = .ok (.aload_n 2, 1) := by decide +kernel
theorem dL_law_260 : decode cL_law 260 = .ok (.invokevirtual 73, 3) := by decide +kernel
theorem dL_law_263 : decode cL_law 263 = .ok (.istore 6, 2) := by decide +kernel
theorem dL_law_265 : decode cL_law 265 = .ok (.aload_n 2, 1) := by decide +kernel
theorem dL_law_266 : decode cL_law 266 = .ok (.invokevirtual 61, 3) := by decide +kernel
theorem dL_law_269 : decode cL_law 269 = .ok (.iload 5, 2) := by decide +kernel
theorem dL_law_271 : decode cL_law 271 = .ok (.if_icmp .eq 5, 3) := by decide +kernel
theorem dL_law_274 : decode cL_law 274 = .ok (.iconst 0, 1) := by decide +kernel
theorem dL_law_275 : decode cL_law 275 = .ok (.ireturn, 1) := by decide +kernel
theorem dL_law_276 : decode cL_law 276 = .ok (.iload 5, 2) := by decide +kernel
theorem dL_law_278 : decode cL_law 278 = .ok (.ifCond .ne 15, 3) := by decide +kernel
theorem dL_law_281 : decode cL_law 281 = .ok (.aload_n 3, 1) := by decide +kernel
theorem dL_law_282 : decode cL_law 282 = .ok (.iconst 0, 1) := by decide +kernel
theorem dL_law_283 : decode cL_law 283 = .ok (.laload, 1) := by decide +kernel
theorem dL_law_284 : decode cL_law 284 = .ok (.iload 6, 2) := by decide +kernel
theorem dL_law_286 : decode cL_law 286 = .ok (.i2l, 1) := by decide +kernel
theorem dL_law_287 : decode cL_law 287 = .ok (.lcmp, 1) := by decide +kernel
theorem dL_law_288 : decode cL_law 288 = .ok (.ifCond .eq 5, 3) := by decide +kernel
theorem dL_law_291 : decode cL_law 291 = .ok (.iconst 0, 1) := by decide +kernel
theorem dL_law_292 : decode cL_law 292 = .ok (.ireturn, 1) := by decide +kernel
theorem dL_law_293 : decode cL_law 293 = .ok (.goto 436, 3) := by decide +kernel
theorem dL_law_296 : decode cL_law 296 = .ok (.aload_n 1, 1) := by decide +kernel
theorem dL_law_297 : decode cL_law 297 = .ok (.aload_n 0, 1) := by decide +kernel
theorem dL_law_298 : decode cL_law 298 = .ok (.iload 4, 2) := by decide +kernel
theorem dL_law_300 : decode cL_law 300 = .ok (.iconst 1, 1) := by decide +kernel
theorem dL_law_301 : decode cL_law 301 = .ok (.iadd, 1) := by decide +kernel
theorem dL_law_302 : decode cL_law 302 = .ok (.iaload, 1) := by decide +kernel
theorem dL_law_303 : decode cL_law 303 = .ok (.aload_n 3, 1) := by decide +kernel
theorem dL_law_304 : decode cL_law 304 = .ok (.invokestatic 74, 3) := by decide +kernel
theorem dL_law_307 : decode cL_law 307 = .ok (.istore 5, 2) := by decide +kernel
theorem dL_law_309 : decode cL_law 309 = .ok (.aload_n 2, 1) := by decide +kernel
theorem dL_law_310 : decode cL_law 310 = .ok (.aload_n 0, 1) := by decide +kernel
theorem dL_law_311 : decode cL_law 311 = .ok (.iload 4, 2) := by decide +kernel
theorem dL_law_313 : decode cL_law 313 = .ok (.iconst 1, 1) := by decide +kernel
theorem dL_law_314 : decode cL_law 314 = .ok (.iadd, 1) := by decide +kernel
theorem dL_law_315 : decode cL_law 315 = .ok (.iaload, 1) := by decide +kernel
theorem dL_law_316 : decode cL_law 316 = .ok (.invokevirtual 76, 3) := by decide +kernel
theorem dL_law_319 : decode cL_law 319 = .ok (.istore 6, 2) := by decide +kernel
theorem dL_law_321 : decode cL_law 321 = .ok (.aload_n 2, 1) := by decide +kernel
theorem dL_law_322 : decode cL_law 322 = .ok (.invokevirtual 61, 3) := by decide +kernel
theorem dL_law_325 : decode cL_law 325 = .ok (.iload 5, 2) := by decide +kernel
theorem dL_law_327 : decode cL_law 327 = .ok (.if_icmp .eq 5, 3) := by decide +kernel
theorem dL_law_330 : decode cL_law 330 = .ok (.iconst 0, 1) := by decide +kernel
theorem dL_law_331 : decode cL_law 331 = .ok (.ireturn, 1) := by decide +kernel
theorem dL_law_332 : decode cL_law 332 = .ok (.iload 5, 2) := by decide +kernel
theorem dL_law_334 : decode cL_law 334 = .ok (.ifCond .ne 15, 3) := by decide +kernel
theorem dL_law_337 : decode cL_law 337 = .ok (.aload_n 3, 1) := by decide +kernel
theorem dL_law_338 : decode cL_law 338 = .ok (.iconst 0, 1) := by decide +kernel
theorem dL_law_339 : decode cL_law 339 = .ok (.laload, 1) := by decide +kernel
theorem dL_law_340 : decode cL_law 340 = .ok (.iload 6, 2) := by decide +kernel
theorem dL_law_342 : decode cL_law 342 = .ok (.i2l, 1) := by decide +kernel
theorem dL_law_343 : decode cL_law 343 = .ok (.lcmp, 1) := by decide +kernel
theorem dL_law_344 : decode cL_law 344 = .ok (.ifCond .eq 5, 3) := by decide +kernel
theorem dL_law_347 : decode cL_law 347 = .ok (.iconst 0, 1) := by decide +kernel
theorem dL_law_348 : decode cL_law 348 = .ok (.ireturn, 1) := by decide +kernel
theorem dL_law_349 : decode cL_law 349 = .ok (.goto 380, 3) := by decide +kernel
theorem dL_law_352 : decode cL_law 352 = .ok (.aload_n 1, 1) := by decide +kernel
theorem dL_law_353 : decode cL_law 353 = .ok (.invokevirtual 77, 3) := by decide +kernel
theorem dL_law_356 : decode cL_law 356 = .ok (.aload_n 2, 1) := by decide +kernel
theorem dL_law_357 : decode cL_law 357 = .ok (.invokevirtual 80, 3) := by decide +kernel
theorem dL_law_360 : decode cL_law 360 = .ok (.if_icmp .eq 369, 3) := by decide +kernel
theorem dL_law_363 : decode cL_law 363 = .ok (.iconst 0, 1) := by decide +kernel
theorem dL_law_364 : decode cL_law 364 = .ok (.ireturn, 1) := by decide +kernel
theorem dL_law_365 : decode cL_law 365 = .ok (.aload_n 1, 1) := by decide +kernel
theorem dL_law_366 : decode cL_law 366 = .ok (.invokevirtual 81, 3) := by decide +kernel
theorem dL_law_369 : decode cL_law 369 = .ok (.aload_n 2, 1) := by decide +kernel
theorem dL_law_370 : decode cL_law 370 = .ok (.invokevirtual 84, 3) := by decide +kernel
theorem dL_law_373 : decode cL_law 373 = .ok (.if_icmp .eq 356, 3) := by decide +kernel
theorem dL_law_376 : decode cL_law 376 = .ok (.iconst 0, 1) := by decide +kernel
theorem dL_law_377 : decode cL_law 377 = .ok (.ireturn, 1) := by decide +kernel
theorem dL_law_378 : decode cL_law 378 = .ok (.aload_n 1, 1) := by decide +kernel
theorem dL_law_379 : decode cL_law 379 = .ok (.aload_n 3, 1) := by decide +kernel
theorem dL_law_380 : decode cL_law 380 = .ok (.invokestatic 85, 3) := by decide +kernel
theorem dL_law_383 : decode cL_law 383 = .ok (.istore 5, 2) := by decide +kernel
theorem dL_law_385 : decode cL_law 385 = .ok (.aload_n 2, 1) := by decide +kernel
theorem dL_law_386 : decode cL_law 386 = .ok (.invokevirtual 87, 3) := by decide +kernel
theorem dL_law_389 : decode cL_law 389 = .ok (.istore 6, 2) := by decide +kernel
theorem dL_law_391 : decode cL_law 391 = .ok (.aload_n 2, 1) := by decide +kernel
theorem dL_law_392 : decode cL_law 392 = .ok (.invokevirtual 61, 3) := by decide +kernel
theorem dL_law_395 : decode cL_law 395 = .ok (.iload 5, 2) := by decide +kernel
theorem dL_law_397 : decode cL_law 397 = .ok (.if_icmp .eq 5, 3) := by decide +kernel
theorem dL_law_400 : decode cL_law 400 = .ok (.iconst 0, 1) := by decide +kernel
theorem dL_law_401 : decode cL_law 401 = .ok (.ireturn, 1) := by decide +kernel
theorem dL_law_402 : decode cL_law 402 = .ok (.iload 5, 2) := by decide +kernel
theorem dL_law_404 : decode cL_law 404 = .ok (.ifCond .ne 15, 3) := by decide +kernel
theorem dL_law_407 : decode cL_law 407 = .ok (.aload_n 3, 1) := by decide +kernel
theorem dL_law_408 : decode cL_law 408 = .ok (.iconst 0, 1) := by decide +kernel
theorem dL_law_409 : decode cL_law 409 = .ok (.laload, 1) := by decide +kernel
theorem dL_law_410 : decode cL_law 410 = .ok (.iload 6, 2) := by decide +kernel
theorem dL_law_412 : decode cL_law 412 = .ok (.i2l, 1) := by decide +kernel
theorem dL_law_413 : decode cL_law 413 = .ok (.lcmp, 1) := by decide +kernel
theorem dL_law_414 : decode cL_law 414 = .ok (.ifCond .eq 5, 3) := by decide +kernel
theorem dL_law_417 : decode cL_law 417 = .ok (.iconst 0, 1) := by decide +kernel
theorem dL_law_418 : decode cL_law 418 = .ok (.ireturn, 1) := by decide +kernel
theorem dL_law_419 : decode cL_law 419 = .ok (.goto 310, 3) := by decide +kernel
theorem dL_law_422 : decode cL_law 422 = .ok (.aload_n 1, 1) := by decide +kernel
theorem dL_law_423 : decode cL_law 423 = .ok (.invokevirtual 88, 3) := by decide +kernel
theorem dL_law_426 : decode cL_law 426 = .ok (.aload_n 2, 1) := by decide +kernel
theorem dL_law_427 : decode cL_law 427 = .ok (.invokevirtual 92, 3) := by decide +kernel
theorem dL_law_430 : decode cL_law 430 = .ok (.if_icmp .eq 299, 3) := by decide +kernel
theorem dL_law_433 : decode cL_law 433 = .ok (.iconst 0, 1) := by decide +kernel
theorem dL_law_434 : decode cL_law 434 = .ok (.ireturn, 1) := by decide +kernel
theorem dL_law_435 : decode cL_law 435 = .ok (.aload_n 1, 1) := by decide +kernel
theorem dL_law_436 : decode cL_law 436 = .ok (.aload_n 0, 1) := by decide +kernel
theorem dL_law_437 : decode cL_law 437 = .ok (.iload 4, 2) := by decide +kernel
theorem dL_law_439 : decode cL_law 439 = .ok (.iconst 1, 1) := by decide +kernel
theorem dL_law_440 : decode cL_law 440 = .ok (.iadd, 1) := by decide +kernel
theorem dL_law_441 : decode cL_law 441 = .ok (.iaload, 1) := by decide +kernel
theorem dL_law_442 : decode cL_law 442 = .ok (.aload_n 3, 1) := by decide +kernel
theorem dL_law_443 : decode cL_law 443 = .ok (.invokestatic 93, 3) := by decide +kernel
theorem dL_law_446 : decode cL_law 446 = .ok (.istore 5, 2) := by decide +kernel
theorem dL_law_448 : decode cL_law 448 = .ok (.aload_n 2, 1) := by decide +kernel
theorem dL_law_449 : decode cL_law 449 = .ok (.aload_n 0, 1) := by decide +kernel
theorem dL_law_450 : decode cL_law 450 = .ok (.iload 4, 2) := by decide +kernel
theorem dL_law_452 : decode cL_law 452 = .ok (.iconst 1, 1) := by decide +kernel
theorem dL_law_453 : decode cL_law 453 = .ok (.iadd, 1) := by decide +kernel
theorem dL_law_454 : decode cL_law 454 = .ok (.iaload, 1) := by decide +kernel
theorem dL_law_455 : decode cL_law 455 = .ok (.invokevirtual 95, 3) := by decide +kernel
theorem dL_law_458 : decode cL_law 458 = .ok (.istore 6, 2) := by decide +kernel
theorem dL_law_460 : decode cL_law 460 = .ok (.aload_n 2, 1) := by decide +kernel
theorem dL_law_461 : decode cL_law 461 = .ok (.invokevirtual 61, 3) := by decide +kernel
theorem dL_law_464 : decode cL_law 464 = .ok (.iload 5, 2) := by decide +kernel
theorem dL_law_466 : decode cL_law 466 = .ok (.if_icmp .eq 5, 3) := by decide +kernel
theorem dL_law_469 : decode cL_law 469 = .ok (.iconst 0, 1) := by decide +kernel
theorem dL_law_470 : decode cL_law 470 = .ok (.ireturn, 1) := by decide +kernel
theorem dL_law_471 : decode cL_law 471 = .ok (.iload 5, 2) := by decide +kernel
theorem dL_law_473 : decode cL_law 473 = .ok (.ifCond .ne 22, 3) := by decide +kernel
theorem dL_law_476 : decode cL_law 476 = .ok (.aload_n 3, 1) := by decide +kernel
theorem dL_law_477 : decode cL_law 477 = .ok (.iconst 0, 1) := by decide +kernel
theorem dL_law_478 : decode cL_law 478 = .ok (.laload, 1) := by decide +kernel
theorem dL_law_479 : decode cL_law 479 = .ok (.iload 6, 2) := by decide +kernel
theorem dL_law_481 : decode cL_law 481 = .ok (.ifCond .eq 7, 3) := by decide +kernel
theorem dL_law_484 : decode cL_law 484 = .ok (.lconst 1, 1) := by decide +kernel
theorem dL_law_485 : decode cL_law 485 = .ok (.goto 4, 3) := by decide +kernel
theorem dL_law_488 : decode cL_law 488 = .ok (.lconst 0, 1) := by decide +kernel
theorem dL_law_489 : decode cL_law 489 = .ok (.lcmp, 1) := by decide +kernel
theorem dL_law_490 : decode cL_law 490 = .ok (.ifCond .eq 5, 3) := by decide +kernel
theorem dL_law_493 : decode cL_law 493 = .ok (.iconst 0, 1) := by decide +kernel
theorem dL_law_494 : decode cL_law 494 = .ok (.ireturn, 1) := by decide +kernel
theorem dL_law_495 : decode cL_law 495 = .ok (.goto 234, 3) := by decide +kernel
theorem dL_law_498 : decode cL_law 498 = .ok (.aload_n 1, 1) := by decide +kernel
theorem dL_law_499 : decode cL_law 499 = .ok (.aload_n 0, 1) := by decide +kernel
theorem dL_law_500 : decode cL_law 500 = .ok (.iload 4, 2) := by decide +kernel
theorem dL_law_502 : decode cL_law 502 = .ok (.iconst 1, 1) := by decide +kernel
theorem dL_law_503 : decode cL_law 503 = .ok (.iadd, 1) := by decide +kernel
theorem dL_law_504 : decode cL_law 504 = .ok (.iaload, 1) := by decide +kernel
theorem dL_law_505 : decode cL_law 505 = .ok (.aload_n 3, 1) := by decide +kernel
theorem dL_law_506 : decode cL_law 506 = .ok (.invokestatic 96, 3) := by decide +kernel
theorem dL_law_509 : decode cL_law 509 = .ok (.istore 5, 2) := by decide +kernel
theorem dL_law_511 : decode cL_law 511 = .ok (.aload_n 2, 1) := by decide +kernel
theorem dL_law_512 : decode cL_law 512 = .ok (.aload_n 0, 1) := by decide +kernel
theorem dL_law_513 : decode cL_law 513 = .ok (.iload 4, 2) := by decide +kernel
theorem dL_law_515 : decode cL_law 515 = .ok (.iconst 1, 1) := by decide +kernel
theorem dL_law_516 : decode cL_law 516 = .ok (.iadd, 1) := by decide +kernel
theorem dL_law_517 : decode cL_law 517 = .ok (.iaload, 1) := by decide +kernel
theorem dL_law_518 : decode cL_law 518 = .ok (.invokevirtual 98, 3) := by decide +kernel
theorem dL_law_521 : decode cL_law 521 = .ok (.istore 6, 2) := by decide +kernel
theorem dL_law_523 : decode cL_law 523 = .ok (.aload_n 2, 1) := by decide +kernel
theorem dL_law_524 : decode cL_law 524 = .ok (.invokevirtual 61, 3) := by decide +kernel
theorem dL_law_527 : decode cL_law 527 = .ok (.iload 5, 2) := by decide +kernel
theorem dL_law_529 : decode cL_law 529 = .ok (.if_icmp .eq 5, 3) := by decide +kernel
theorem dL_law_532 : decode cL_law 532 = .ok (.iconst 0, 1) := by decide +kernel
theorem dL_law_533 : decode cL_law 533 = .ok (.ireturn, 1) := by decide +kernel
theorem dL_law_534 : decode cL_law 534 = .ok (.iload 5, 2) := by decide +kernel
theorem dL_law_536 : decode cL_law 536 = .ok (.ifCond .ne 22, 3) := by decide +kernel
theorem dL_law_539 : decode cL_law 539 = .ok (.aload_n 3, 1) := by decide +kernel
theorem dL_law_540 : decode cL_law 540 = .ok (.iconst 0, 1) := by decide +kernel
theorem dL_law_541 : decode cL_law 541 = .ok (.laload, 1) := by decide +kernel
theorem dL_law_542 : decode cL_law 542 = .ok (.iload 6, 2) := by decide +kernel
theorem dL_law_544 : decode cL_law 544 = .ok (.ifCond .eq 7, 3) := by decide +kernel
theorem dL_law_547 : decode cL_law 547 = .ok (.lconst 1, 1) := by decide +kernel
theorem dL_law_548 : decode cL_law 548 = .ok (.goto 4, 3) := by decide +kernel
theorem dL_law_551 : decode cL_law 551 = .ok (.lconst 0, 1) := by decide +kernel
theorem dL_law_552 : decode cL_law 552 = .ok (.lcmp, 1) := by decide +kernel
theorem dL_law_553 : decode cL_law 553 = .ok (.ifCond .eq 5, 3) := by decide +kernel
theorem dL_law_556 : decode cL_law 556 = .ok (.iconst 0, 1) := by decide +kernel
theorem dL_law_557 : decode cL_law 557 = .ok (.ireturn, 1) := by decide +kernel
theorem dL_law_558 : decode cL_law 558 = .ok (.goto 171, 3) := by decide +kernel
theorem dL_law_561 : decode cL_law 561 = .ok (.aload_n 1, 1) := by decide +kernel
theorem dL_law_562 : decode cL_law 562 = .ok (.aload_n 0, 1) := by decide +kernel
theorem dL_law_563 : decode cL_law 563 = .ok (.iload 4, 2) := by decide +kernel
theorem dL_law_565 : decode cL_law 565 = .ok (.iconst 1, 1) := by decide +kernel
theorem dL_law_566 : decode cL_law 566 = .ok (.iadd, 1) := by decide +kernel
theorem dL_law_567 : decode cL_law 567 = .ok (.iaload, 1) := by decide +kernel
theorem dL_law_568 : decode cL_law 568 = .ok (.aload_n 3, 1) := by decide +kernel
theorem dL_law_569 : decode cL_law 569 = .ok (.invokestatic 99, 3) := by decide +kernel
theorem dL_law_572 : decode cL_law 572 = .ok (.istore 5, 2) := by decide +kernel
theorem dL_law_574 : decode cL_law 574 = .ok (.aload_n 2, 1) := by decide +kernel
theorem dL_law_575 : decode cL_law 575 = .ok (.aload_n 0, 1) := by decide +kernel
theorem dL_law_576 : decode cL_law 576 = .ok (.iload 4, 2) := by decide +kernel
theorem dL_law_578 : decode cL_law 578 = .ok (.iconst 1, 1) := by decide +kernel
theorem dL_law_579 : decode cL_law 579 = .ok (.iadd, 1) := by decide +kernel
theorem dL_law_580 : decode cL_law 580 = .ok (.iaload, 1) := by decide +kernel
theorem dL_law_581 : decode cL_law 581 = .ok (.invokevirtual 101, 3) := by decide +kernel
theorem dL_law_584 : decode cL_law 584 = .ok (.istore 6, 2) := by decide +kernel
theorem dL_law_586 : decode cL_law 586 = .ok (.aload_n 2, 1) := by decide +kernel
theorem dL_law_587 : decode cL_law 587 = .ok (.invokevirtual 61, 3) := by decide +kernel
theorem dL_law_590 : decode cL_law 590 = .ok (.iload 5, 2) := by decide +kernel
theorem dL_law_592 : decode cL_law 592 = .ok (.if_icmp .eq 5, 3) := by decide +kernel
theorem dL_law_595 : decode cL_law 595 = .ok (.iconst 0, 1) := by decide +kernel
theorem dL_law_596 : decode cL_law 596 = .ok (.ireturn, 1) := by decide +kernel
theorem dL_law_597 : decode cL_law 597 = .ok (.iload 5, 2) := by decide +kernel
theorem dL_law_599 : decode cL_law 599 = .ok (.ifCond .ne 15, 3) := by decide +kernel
theorem dL_law_602 : decode cL_law 602 = .ok (.aload_n 3, 1) := by decide +kernel
theorem dL_law_603 : decode cL_law 603 = .ok (.iconst 0, 1) := by decide +kernel
theorem dL_law_604 : decode cL_law 604 = .ok (.laload, 1) := by decide +kernel
theorem dL_law_605 : decode cL_law 605 = .ok (.iload 6, 2) := by decide +kernel
theorem dL_law_607 : decode cL_law 607 = .ok (.i2l, 1) := by decide +kernel
theorem dL_law_608 : decode cL_law 608 = .ok (.lcmp, 1) := by decide +kernel
theorem dL_law_609 : decode cL_law 609 = .ok (.ifCond .eq 5, 3) := by decide +kernel
theorem dL_law_612 : decode cL_law 612 = .ok (.iconst 0, 1) := by decide +kernel
theorem dL_law_613 : decode cL_law 613 = .ok (.ireturn, 1) := by decide +kernel
theorem dL_law_614 : decode cL_law 614 = .ok (.goto 115, 3) := by decide +kernel
theorem dL_law_617 : decode cL_law 617 = .ok (.aload_n 1, 1) := by decide +kernel
theorem dL_law_618 : decode cL_law 618 = .ok (.aload_n 0, 1) := by decide +kernel
theorem dL_law_619 : decode cL_law 619 = .ok (.iload 4, 2) := by decide +kernel
theorem dL_law_621 : decode cL_law 621 = .ok (.iconst 1, 1) := by decide +kernel
theorem dL_law_622 : decode cL_law 622 = .ok (.iadd, 1) := by decide +kernel
theorem dL_law_623 : decode cL_law 623 = .ok (.iaload, 1) := by decide +kernel
theorem dL_law_624 : decode cL_law 624 = .ok (.aload_n 3, 1) := by decide +kernel
theorem dL_law_625 : decode cL_law 625 = .ok (.invokestatic 102, 3) := by decide +kernel
theorem dL_law_628 : decode cL_law 628 = .ok (.istore 5, 2) := by decide +kernel
theorem dL_law_630 : decode cL_law 630 = .ok (.aload_n 2, 1) := by decide +kernel
theorem dL_law_631 : decode cL_law 631 = .ok (.aload_n 0, 1) := by decide +kernel
theorem dL_law_632 : decode cL_law 632 = .ok (.iload 4, 2) := by decide +kernel
theorem dL_law_634 : decode cL_law 634 = .ok (.iconst 1, 1) := by decide +kernel
theorem dL_law_635 : decode cL_law 635 = .ok (.iadd, 1) := by decide +kernel
theorem dL_law_636 : decode cL_law 636 = .ok (.iaload, 1) := by decide +kernel
theorem dL_law_637 : decode cL_law 637 = .ok (.invokevirtual 104, 3) := by decide +kernel
theorem dL_law_640 : decode cL_law 640 = .ok (.istore 6, 2) := by decide +kernel
theorem dL_law_642 : decode cL_law 642 = .ok (.aload_n 2, 1) := by decide +kernel
theorem dL_law_643 : decode cL_law 643 = .ok (.invokevirtual 61, 3) := by decide +kernel
theorem dL_law_646 : decode cL_law 646 = .ok (.iload 5, 2) := by decide +kernel
theorem dL_law_648 : decode cL_law 648 = .ok (.if_icmp .eq 5, 3) := by decide +kernel
theorem dL_law_651 : decode cL_law 651 = .ok (.iconst 0, 1) := by decide +kernel
theorem dL_law_652 : decode cL_law 652 = .ok (.ireturn, 1) := by decide +kernel
theorem dL_law_653 : decode cL_law 653 = .ok (.iload 5, 2) := by decide +kernel
theorem dL_law_655 : decode cL_law 655 = .ok (.ifCond .ne 15, 3) := by decide +kernel
theorem dL_law_658 : decode cL_law 658 = .ok (.aload_n 3, 1) := by decide +kernel
theorem dL_law_659 : decode cL_law 659 = .ok (.iconst 0, 1) := by decide +kernel
theorem dL_law_660 : decode cL_law 660 = .ok (.laload, 1) := by decide +kernel
theorem dL_law_661 : decode cL_law 661 = .ok (.iload 6, 2) := by decide +kernel
theorem dL_law_663 : decode cL_law 663 = .ok (.i2l, 1) := by decide +kernel
theorem dL_law_664 : decode cL_law 664 = .ok (.lcmp, 1) := by decide +kernel
theorem dL_law_665 : decode cL_law 665 = .ok (.ifCond .eq 5, 3) := by decide +kernel
theorem dL_law_668 : decode cL_law 668 = .ok (.iconst 0, 1) := by decide +kernel
theorem dL_law_669 : decode cL_law 669 = .ok (.ireturn, 1) := by decide +kernel
theorem dL_law_670 : decode cL_law 670 = .ok (.goto 59, 3) := by decide +kernel
theorem dL_law_673 : decode cL_law 673 = .ok (.aload_n 1, 1) := by decide +kernel
theorem dL_law_674 : decode cL_law 674 = .ok (.aload_n 0, 1) := by decide +kernel
theorem dL_law_675 : decode cL_law 675 = .ok (.iload 4, 2) := by decide +kernel
theorem dL_law_677 : decode cL_law 677 = .ok (.iconst 1, 1) := by decide +kernel
theorem dL_law_678 : decode cL_law 678 = .ok (.iadd, 1) := by decide +kernel
theorem dL_law_679 : decode cL_law 679 = .ok (.iaload, 1) := by decide +kernel
theorem dL_law_680 : decode cL_law 680 = .ok (.aload_n 3, 1) := by decide +kernel
theorem dL_law_681 : decode cL_law 681 = .ok (.invokestatic 105, 3) := by decide +kernel
theorem dL_law_684 : decode cL_law 684 = .ok (.istore 5, 2) := by decide +kernel
theorem dL_law_686 : decode cL_law 686 = .ok (.aload_n 2, 1) := by decide +kernel
theorem dL_law_687 : decode cL_law 687 = .ok (.aload_n 0, 1) := by decide +kernel
theorem dL_law_688 : decode cL_law 688 = .ok (.iload 4, 2) := by decide +kernel
theorem dL_law_690 : decode cL_law 690 = .ok (.iconst 1, 1) := by decide +kernel
theorem dL_law_691 : decode cL_law 691 = .ok (.iadd, 1) := by decide +kernel
theorem dL_law_692 : decode cL_law 692 = .ok (.iaload, 1) := by decide +kernel
theorem dL_law_693 : decode cL_law 693 = .ok (.invokevirtual 107, 3) := by decide +kernel
theorem dL_law_696 : decode cL_law 696 = .ok (.istore 6, 2) := by decide +kernel
theorem dL_law_698 : decode cL_law 698 = .ok (.aload_n 2, 1) := by decide +kernel
theorem dL_law_699 : decode cL_law 699 = .ok (.invokevirtual 61, 3) := by decide +kernel
theorem dL_law_702 : decode cL_law 702 = .ok (.iload 5, 2) := by decide +kernel
theorem dL_law_704 : decode cL_law 704 = .ok (.if_icmp .eq 5, 3) := by decide +kernel
theorem dL_law_707 : decode cL_law 707 = .ok (.iconst 0, 1) := by decide +kernel
theorem dL_law_708 : decode cL_law 708 = .ok (.ireturn, 1) := by decide +kernel
theorem dL_law_709 : decode cL_law 709 = .ok (.iload 5, 2) := by decide +kernel
theorem dL_law_711 : decode cL_law 711 = .ok (.ifCond .ne 15, 3) := by decide +kernel
theorem dL_law_714 : decode cL_law 714 = .ok (.aload_n 3, 1) := by decide +kernel
theorem dL_law_715 : decode cL_law 715 = .ok (.iconst 0, 1) := by decide +kernel
theorem dL_law_716 : decode cL_law 716 = .ok (.laload, 1) := by decide +kernel
theorem dL_law_717 : decode cL_law 717 = .ok (.iload 6, 2) := by decide +kernel
theorem dL_law_719 : decode cL_law 719 = .ok (.i2l, 1) := by decide +kernel
theorem dL_law_720 : decode cL_law 720 = .ok (.lcmp, 1) := by decide +kernel
theorem dL_law_721 : decode cL_law 721 = .ok (.ifCond .eq 5, 3) := by decide +kernel
theorem dL_law_724 : decode cL_law 724 = .ok (.iconst 0, 1) := by decide +kernel
theorem dL_law_725 : decode cL_law 725 = .ok (.ireturn, 1) := by decide +kernel
theorem dL_law_726 : decode cL_law 726 = .ok (.goto 3, 3) := by decide +kernel
theorem dL_law_729 : decode cL_law 729 = .ok (.iinc 4 2, 3) := by decide +kernel
theorem dL_law_732 : decode cL_law 732 = .ok (.goto (-709), 3) := by decide +kernel
theorem dL_law_735 : decode cL_law 735 = .ok (.iconst 1, 1) := by decide +kernel
theorem dL_law_736 : decode cL_law 736 = .ok (.ireturn, 1) := by decide +kernel
end
section
theorem dX2_init_0 : decode cX2_init 0 = .ok (.aload_n 0, 1) := by decide +kernel
theorem dX2_init_1 : decode cX2_init 1 = .ok (.invokespecial 5, 3) := by decide +kernel
theorem dX2_init_4 : decode cX2_init 4 = .ok (.aload_n 0, 1) := by decide +kernel
theorem dX2_init_5 : decode cX2_init 5 = .ok (.sipush 420, 3) := by decide +kernel
theorem dX2_init_8 : decode cX2_init 8 = .ok (.newarray .int, 2) := by decide +kernel
theorem dX2_init_10 : decode cX2_init 10 = .ok (.putfield 11, 3) := by decide +kernel
theorem dX2_init_13 : decode cX2_init 13 = .ok (.aload_n 0, 1) := by decide +kernel
theorem dX2_init_14 : decode cX2_init 14 = .ok (.sipush 420, 3) := by decide +kernel
theorem dX2_init_17 : decode cX2_init 17 = .ok (.newarray .int, 2) := by decide +kernel
theorem dX2_init_19 : decode cX2_init 19 = .ok (.putfield 15, 3) := by decide +kernel
theorem dX2_init_22 : decode cX2_init 22 = .ok (.aload_n 0, 1) := by decide +kernel
theorem dX2_init_23 : decode cX2_init 23 = .ok (.sipush 420, 3) := by decide +kernel
theorem dX2_init_26 : decode cX2_init 26 = .ok (.newarray .long, 2) := by decide +kernel
theorem dX2_init_28 : decode cX2_init 28 = .ok (.putfield 18, 3) := by decide +kernel
theorem dX2_init_31 : decode cX2_init 31 = .ok (.aload_n 0, 1) := by decide +kernel
theorem dX2_init_32 : decode cX2_init 32 = .ok (.bipush 18, 2) := by decide +kernel
theorem dX2_init_34 : decode cX2_init 34 = .ok (.newarray .int, 2) := by decide +kernel
theorem dX2_init_36 : decode cX2_init 36 = .ok (.putfield 22, 3) := by decide +kernel
theorem dX2_init_39 : decode cX2_init 39 = .ok (.aload_n 0, 1) := by decide +kernel
theorem dX2_init_40 : decode cX2_init 40 = .ok (.bipush 18, 2) := by decide +kernel
theorem dX2_init_42 : decode cX2_init 42 = .ok (.newarray .int, 2) := by decide +kernel
theorem dX2_init_44 : decode cX2_init 44 = .ok (.putfield 25, 3) := by decide +kernel
theorem dX2_init_47 : decode cX2_init 47 = .ok (.return_, 1) := by decide +kernel
theorem dX2_write_0 : decode cX2_write 0 = .ok (.aload_n 0, 1) := by decide +kernel
theorem dX2_write_1 : decode cX2_write 1 = .ok (.iload_n 1, 1) := by decide +kernel
theorem dX2_write_2 : decode cX2_write 2 = .ok (.iload_n 2, 1) := by decide +kernel
theorem dX2_write_3 : decode cX2_write 3 = .ok (.ldc 28, 2) := by decide +kernel
theorem dX2_write_5 : decode cX2_write 5 = .ok (.iand, 1) := by decide +kernel
theorem dX2_write_6 : decode cX2_write 6 = .ok (.iload_n 3, 1) := by decide +kernel
theorem dX2_write_7 : decode cX2_write 7 = .ok (.ldc 28, 2) := by decide +kernel
theorem dX2_write_9 : decode cX2_write 9 = .ok (.iand, 1) := by decide +kernel
theorem dX2_write_10 : decode cX2_write 10 = .ok (.iload_n 2, 1) := by decide +kernel
theorem dX2_write_11 : decode cX2_write 11 = .ok (.iload_n 3, 1) := by decide +kernel
theorem dX2_write_12 : decode cX2_write 12 = .ok (.invokestatic 29, 3) := by decide +kernel
theorem dX2_write_15 : decode cX2_write 15 = .ok (.invokevirtual 33, 3) := by decide +kernel
theorem dX2_write_18 : decode cX2_write 18 = .ok (.return_, 1) := by decide +kernel
theorem dX2_leastFrom_0 : decode cX2_leastFrom 0 = .ok (.iload_n 1, 1) := by decide +kernel
theorem dX2_leastFrom_1 : decode cX2_leastFrom 1 = .ok (.ldc 37, 2) := by decide +kernel
theorem dX2_leastFrom_3 : decode cX2_leastFrom 3 = .ok (.if_icmp .le 5, 3) := by decide +kernel
theorem dX2_leastFrom_6 : decode cX2_leastFrom 6 = .ok (.iconst (-1), 1) := by decide +kernel
theorem dX2_leastFrom_7 : decode cX2_leastFrom 7 = .ok (.ireturn, 1) := by decide +kernel
theorem dX2_leastFrom_8 : decode cX2_leastFrom 8 = .ok (.aload_n 0, 1) := by decide +kernel
theorem dX2_leastFrom_9 : decode cX2_leastFrom 9 = .ok (.iload_n 1, 1) := by decide +kernel
theorem dX2_leastFrom_10 : decode cX2_leastFrom 10 = .ok (.invokevirtual 38, 3) := by decide +kernel
theorem dX2_leastFrom_13 : decode cX2_leastFrom 13 = .ok (.aload_n 0, 1) := by decide +kernel
theorem dX2_leastFrom_14 : decode cX2_leastFrom 14 = .ok (.iload_n 2, 1) := by decide +kernel
theorem dX2_leastFrom_15 : decode cX2_leastFrom 15 = .ok (.ldc 28, 2) := by decide +kernel
theorem dX2_leastFrom_17 : decode cX2_leastFrom 17 = .ok (.iload_n 1, 1) := by decide +kernel
theorem dX2_leastFrom_18 : decode cX2_leastFrom 18 = .ok (.iconst (-1), 1) := by decide +kernel
theorem dX2_leastFrom_19 : decode cX2_leastFrom 19 = .ok (.ixor, 1) := by decide +kernel
theorem dX2_leastFrom_20 : decode cX2_leastFrom 20 = .ok (.iand, 1) := by decide +kernel
theorem dX2_leastFrom_21 : decode cX2_leastFrom 21 = .ok (.iconst 0, 1) := by decide +kernel
theorem dX2_leastFrom_22 : decode cX2_leastFrom 22 = .ok (.ldc2_w 42, 3) := by decide +kernel
theorem dX2_leastFrom_25 : decode cX2_leastFrom 25 = .ok (.iload_n 1, 1) := by decide +kernel
theorem dX2_leastFrom_26 : decode cX2_leastFrom 26 = .ok (.bipush 63, 2) := by decide +kernel
theorem dX2_leastFrom_28 : decode cX2_leastFrom 28 = .ok (.iand, 1) := by decide +kernel
theorem dX2_leastFrom_29 : decode cX2_leastFrom 29 = .ok (.lshl, 1) := by decide +kernel
theorem dX2_leastFrom_30 : decode cX2_leastFrom 30 = .ok (.invokevirtual 33, 3) := by decide +kernel
theorem dX2_leastFrom_33 : decode cX2_leastFrom 33 = .ok (.aload_n 0, 1) := by decide +kernel
theorem dX2_leastFrom_34 : decode cX2_leastFrom 34 = .ok (.iload_n 2, 1) := by decide +kernel
theorem dX2_leastFrom_35 : decode cX2_leastFrom 35 = .ok (.iconst 1, 1) := by decide +kernel
theorem dX2_leastFrom_36 : decode cX2_leastFrom 36 = .ok (.iadd, 1) := by decide +kernel
theorem dX2_leastFrom_37 : decode cX2_leastFrom 37 = .ok (.invokevirtual 44, 3) := by decide +kernel
theorem dX2_leastFrom_40 : decode cX2_leastFrom 40 = .ok (.lstore_n 3, 1) := by decide +kernel
theorem dX2_leastFrom_41 : decode cX2_leastFrom 41 = .ok (.iload_n 1, 1) := by decide +kernel
theorem dX2_leastFrom_42 : decode cX2_leastFrom 42 = .ok (.ldc 28, 2) := by decide +kernel
theorem dX2_leastFrom_44 : decode cX2_leastFrom 44 = .ok (.iand, 1) := by decide +kernel
theorem dX2_leastFrom_45 : decode cX2_leastFrom 45 = .ok (.istore 5, 2) := by decide +kernel
theorem dX2_leastFrom_47 : decode cX2_leastFrom 47 = .ok (.iconst 0, 1) := by decide +kernel
theorem dX2_leastFrom_48 : decode cX2_leastFrom 48 = .ok (.istore 6, 2) := by decide +kernel
theorem dX2_leastFrom_50 : decode cX2_leastFrom 50 = .ok (.iload 6, 2) := by decide +kernel
theorem dX2_leastFrom_52 : decode cX2_leastFrom 52 = .ok (.sipush 4096, 3) := by decide +kernel
theorem dX2_leastFrom_55 : decode cX2_leastFrom 55 = .ok (.if_icmp .ge 61, 3) := by decide +kernel
theorem dX2_leastFrom_58 : decode cX2_leastFrom 58 = .ok (.iload 5, 2) := by decide +kernel
theorem dX2_leastFrom_60 : decode cX2_leastFrom 60 = .ok (.iconst (-1), 1) := by decide +kernel
theorem dX2_leastFrom_61 : decode cX2_leastFrom 61 = .ok (.if_icmp .eq 55, 3) := by decide +kernel
theorem dX2_leastFrom_64 : decode cX2_leastFrom 64 = .ok (.aload_n 0, 1) := by decide +kernel
theorem dX2_leastFrom_65 : decode cX2_leastFrom 65 = .ok (.aload_n 0, 1) := by decide +kernel
theorem dX2_leastFrom_66 : decode cX2_leastFrom 66 = .ok (.iload 5, 2) := by decide +kernel
theorem dX2_leastFrom_68 : decode cX2_leastFrom 68 = .ok (.lload_n 3, 1) := by decide +kernel
theorem dX2_leastFrom_69 : decode cX2_leastFrom 69 = .ok (.iload_n 2, 1) := by decide +kernel
theorem dX2_leastFrom_70 : decode cX2_leastFrom 70 = .ok (.iconst 1, 1) := by decide +kernel
theorem dX2_leastFrom_71 : decode cX2_leastFrom 71 = .ok (.iadd, 1) := by decide +kernel
theorem dX2_leastFrom_72 : decode cX2_leastFrom 72 = .ok (.invokevirtual 48, 3) := by decide +kernel
theorem dX2_leastFrom_75 : decode cX2_leastFrom 75 = .ok (.putfield 52, 3) := by decide +kernel
theorem dX2_leastFrom_78 : decode cX2_leastFrom 78 = .ok (.aload_n 0, 1) := by decide +kernel
theorem dX2_leastFrom_79 : decode cX2_leastFrom 79 = .ok (.getfield 52, 3) := by decide +kernel
theorem dX2_leastFrom_82 : decode cX2_leastFrom 82 = .ok (.lconst 0, 1) := by decide +kernel
theorem dX2_leastFrom_83 : decode cX2_leastFrom 83 = .ok (.lcmp, 1) := by decide +kernel
theorem dX2_leastFrom_84 : decode cX2_leastFrom 84 = .ok (.ifCond .eq 14, 3) := by decide +kernel
theorem dX2_leastFrom_87 : decode cX2_leastFrom 87 = .ok (.iload 5, 2) := by decide +kernel
theorem dX2_leastFrom_89 : decode cX2_leastFrom 89 = .ok (.aload_n 0, 1) := by decide +kernel
theorem dX2_leastFrom_90 : decode cX2_leastFrom 90 = .ok (.getfield 52, 3) := by decide +kernel
theorem dX2_leastFrom_93 : decode cX2_leastFrom 93 = .ok (.invokestatic 56, 3) := by decide +kernel
theorem dX2_leastFrom_96 : decode cX2_leastFrom 96 = .ok (.iadd, 1) := by decide +kernel
theorem dX2_leastFrom_97 : decode cX2_leastFrom 97 = .ok (.ireturn, 1) := by decide +kernel
theorem dX2_leastFrom_98 : decode cX2_leastFrom 98 = .ok (.aload_n 0, 1) := by decide +kernel
theorem dX2_leastFrom_99 : decode cX2_leastFrom 99 = .ok (.aload_n 0, 1) := by decide +kernel
theorem dX2_leastFrom_100 : decode cX2_leastFrom 100 = .ok (.iload 5, 2) := by decide +kernel
theorem dX2_leastFrom_102 : decode cX2_leastFrom 102 = .ok (.invokevirtual 62, 3) := by decide +kernel
theorem dX2_leastFrom_105 : decode cX2_leastFrom 105 = .ok (.invokevirtual 66, 3) := by decide +kernel
theorem dX2_leastFrom_108 : decode cX2_leastFrom 108 = .ok (.istore 5, 2) := by decide +kernel
theorem dX2_leastFrom_110 : decode cX2_leastFrom 110 = .ok (.iinc 6 1, 3) := by decide +kernel
theorem dX2_leastFrom_113 : decode cX2_leastFrom 113 = .ok (.goto (-63), 3) := by decide +kernel
theorem dX2_leastFrom_116 : decode cX2_leastFrom 116 = .ok (.iconst (-1), 1) := by decide +kernel
theorem dX2_leastFrom_117 : decode cX2_leastFrom 117 = .ok (.ireturn, 1) := by decide +kernel
theorem dX2_foundInBlock_0 : decode cX2_foundInBlock 0 = .ok (.aload_n 0, 1) := by decide +kernel
theorem dX2_foundInBlock_1 : decode cX2_foundInBlock 1 = .ok (.getfield 52, 3) := by decide +kernel
theorem dX2_foundInBlock_4 : decode cX2_foundInBlock 4 = .ok (.invokestatic 69, 3) := by decide +kernel
theorem dX2_foundInBlock_7 : decode cX2_foundInBlock 7 = .ok (.ireturn, 1) := by decide +kernel
theorem dX2_nextBlock_0 : decode cX2_nextBlock 0 = .ok (.iload_n 0, 1) := by decide +kernel
theorem dX2_nextBlock_1 : decode cX2_nextBlock 1 = .ok (.bipush (-64), 2) := by decide +kernel
theorem dX2_nextBlock_3 : decode cX2_nextBlock 3 = .ok (.iand, 1) := by decide +kernel
theorem dX2_nextBlock_4 : decode cX2_nextBlock 4 = .ok (.bipush 64, 2) := by decide +kernel
theorem dX2_nextBlock_6 : decode cX2_nextBlock 6 = .ok (.iadd, 1) := by decide +kernel
theorem dX2_nextBlock_7 : decode cX2_nextBlock 7 = .ok (.ireturn, 1) := by decide +kernel
theorem dX2_writeParts_0 : decode cX2_writeParts 0 = .ok (.iload_n 1, 1) := by decide +kernel
theorem dX2_writeParts_1 : decode cX2_writeParts 1 = .ok (.ifCond .lt 32, 3) := by decide +kernel
theorem dX2_writeParts_4 : decode cX2_writeParts 4 = .ok (.iload_n 1, 1) := by decide +kernel
theorem dX2_writeParts_5 : decode cX2_writeParts 5 = .ok (.sipush 420, 3) := by decide +kernel
theorem dX2_writeParts_8 : decode cX2_writeParts 8 = .ok (.if_icmp .ge 25, 3) := by decide +kernel
theorem dX2_writeParts_11 : decode cX2_writeParts 11 = .ok (.aload_n 0, 1) := by decide +kernel
theorem dX2_writeParts_12 : decode cX2_writeParts 12 = .ok (.getfield 11, 3) := by decide +kernel
theorem dX2_writeParts_15 : decode cX2_writeParts 15 = .ok (.iload_n 1, 1) := by decide +kernel
theorem dX2_writeParts_16 : decode cX2_writeParts 16 = .ok (.iload_n 2, 1) := by decide +kernel
theorem dX2_writeParts_17 : decode cX2_writeParts 17 = .ok (.iastore, 1) := by decide +kernel
theorem dX2_writeParts_18 : decode cX2_writeParts 18 = .ok (.aload_n 0, 1) := by decide +kernel
theorem dX2_writeParts_19 : decode cX2_writeParts 19 = .ok (.getfield 15, 3) := by decide +kernel
theorem dX2_writeParts_22 : decode cX2_writeParts 22 = .ok (.iload_n 1, 1) := by decide +kernel
theorem dX2_writeParts_23 : decode cX2_writeParts 23 = .ok (.iload_n 3, 1) := by decide +kernel
theorem dX2_writeParts_24 : decode cX2_writeParts 24 = .ok (.iastore, 1) := by decide +kernel
theorem dX2_writeParts_25 : decode cX2_writeParts 25 = .ok (.aload_n 0, 1) := by decide +kernel
theorem dX2_writeParts_26 : decode cX2_writeParts 26 = .ok (.getfield 18, 3) := by decide +kernel
theorem dX2_writeParts_29 : decode cX2_writeParts 29 = .ok (.iload_n 1, 1) := by decide +kernel
theorem dX2_writeParts_30 : decode cX2_writeParts 30 = .ok (.lload 4, 2) := by decide +kernel
theorem dX2_writeParts_32 : decode cX2_writeParts 32 = .ok (.lastore, 1) := by decide +kernel
theorem dX2_writeParts_33 : decode cX2_writeParts 33 = .ok (.return_, 1) := by decide +kernel
theorem dX2_whereTrue_0 : decode cX2_whereTrue 0 = .ok (.lconst 0, 1) := by decide +kernel
theorem dX2_whereTrue_1 : decode cX2_whereTrue 1 = .ok (.lstore_n 2, 1) := by decide +kernel
theorem dX2_whereTrue_2 : decode cX2_whereTrue 2 = .ok (.iconst 0, 1) := by decide +kernel
theorem dX2_whereTrue_3 : decode cX2_whereTrue 3 = .ok (.istore 4, 2) := by decide +kernel
theorem dX2_whereTrue_5 : decode cX2_whereTrue 5 = .ok (.iload 4, 2) := by decide +kernel
theorem dX2_whereTrue_7 : decode cX2_whereTrue 7 = .ok (.getstatic 72, 3) := by decide +kernel
theorem dX2_whereTrue_10 : decode cX2_whereTrue 10 = .ok (.arraylength, 1) := by decide +kernel
theorem dX2_whereTrue_11 : decode cX2_whereTrue 11 = .ok (.if_icmp .ge 49, 3) := by decide +kernel
theorem dX2_whereTrue_14 : decode cX2_whereTrue 14 = .ok (.iload_n 0, 1) := by decide +kernel
theorem dX2_whereTrue_15 : decode cX2_whereTrue 15 = .ok (.iload 4, 2) := by decide +kernel
theorem dX2_whereTrue_17 : decode cX2_whereTrue 17 = .ok (.ishr, 1) := by decide +kernel
theorem dX2_whereTrue_18 : decode cX2_whereTrue 18 = .ok (.iconst 1, 1) := by decide +kernel
theorem dX2_whereTrue_19 : decode cX2_whereTrue 19 = .ok (.iand, 1) := by decide +kernel
theorem dX2_whereTrue_20 : decode cX2_whereTrue 20 = .ok (.ifCond .eq 12, 3) := by decide +kernel
theorem dX2_whereTrue_23 : decode cX2_whereTrue 23 = .ok (.lload_n 2, 1) := by decide +kernel
theorem dX2_whereTrue_24 : decode cX2_whereTrue 24 = .ok (.getstatic 72, 3) := by decide +kernel
theorem dX2_whereTrue_27 : decode cX2_whereTrue 27 = .ok (.iload 4, 2) := by decide +kernel
theorem dX2_whereTrue_29 : decode cX2_whereTrue 29 = .ok (.laload, 1) := by decide +kernel
theorem dX2_whereTrue_30 : decode cX2_whereTrue 30 = .ok (.lor, 1) := by decide +kernel
theorem dX2_whereTrue_31 : decode cX2_whereTrue 31 = .ok (.lstore_n 2, 1) := by decide +kernel
theorem dX2_whereTrue_32 : decode cX2_whereTrue 32 = .ok (.iload_n 1, 1) := by decide +kernel
theorem dX2_whereTrue_33 : decode cX2_whereTrue 33 = .ok (.iload 4, 2) := by decide +kernel
theorem dX2_whereTrue_35 : decode cX2_whereTrue 35 = .ok (.ishr, 1) := by decide +kernel
theorem dX2_whereTrue_36 : decode cX2_whereTrue 36 = .ok (.iconst 1, 1) := by decide +kernel
theorem dX2_whereTrue_37 : decode cX2_whereTrue 37 = .ok (.iand, 1) := by decide +kernel
theorem dX2_whereTrue_38 : decode cX2_whereTrue 38 = .ok (.ifCond .eq 16, 3) := by decide +kernel
theorem dX2_whereTrue_41 : decode cX2_whereTrue 41 = .ok (.lload_n 2, 1) := by decide +kernel
theorem dX2_whereTrue_42 : decode cX2_whereTrue 42 = .ok (.getstatic 72, 3) := by decide +kernel
theorem dX2_whereTrue_45 : decode cX2_whereTrue 45 = .ok (.iload 4, 2) := by decide +kernel
theorem dX2_whereTrue_47 : decode cX2_whereTrue 47 = .ok (.laload, 1) := by decide +kernel
theorem dX2_whereTrue_48 : decode cX2_whereTrue 48 = .ok (.ldc2_w 42, 3) := by decide +kernel
theorem dX2_whereTrue_51 : decode cX2_whereTrue 51 = .ok (.lxor, 1) := by decide +kernel
theorem dX2_whereTrue_52 : decode cX2_whereTrue 52 = .ok (.lor, 1) := by decide +kernel
theorem dX2_whereTrue_53 : decode cX2_whereTrue 53 = .ok (.lstore_n 2, 1) := by decide +kernel
theorem dX2_whereTrue_54 : decode cX2_whereTrue 54 = .ok (.iinc 4 1, 3) := by decide +kernel
theorem dX2_whereTrue_57 : decode cX2_whereTrue 57 = .ok (.goto (-52), 3) := by decide +kernel
theorem dX2_whereTrue_60 : decode cX2_whereTrue 60 = .ok (.lload_n 2, 1) := by decide +kernel
theorem dX2_whereTrue_61 : decode cX2_whereTrue 61 = .ok (.lreturn, 1) := by decide +kernel
theorem dX2_giveReasonsOfStart_0 : decode cX2_giveReasonsOfStart 0 = .ok (.bipush 6, 2) := by decide +kernel
theorem dX2_giveReasonsOfStart_2 : decode cX2_giveReasonsOfStart 2 = .ok (.istore_n 2, 1) := by decide +kernel
theorem dX2_giveReasonsOfStart_3 : decode cX2_giveReasonsOfStart 3 = .ok (.iload_n 2, 1) := by decide +kernel
theorem dX2_giveReasonsOfStart_4 : decode cX2_giveReasonsOfStart 4 = .ok (.bipush 18, 2) := by decide +kernel
theorem dX2_giveReasonsOfStart_6 : decode cX2_giveReasonsOfStart 6 = .ok (.if_icmp .ge 39, 3) := by decide +kernel
theorem dX2_giveReasonsOfStart_9 : decode cX2_giveReasonsOfStart 9 = .ok (.aload_n 0, 1) := by decide +kernel
theorem dX2_giveReasonsOfStart_10 : decode cX2_giveReasonsOfStart 10 = .ok (.getfield 22, 3) := by decide +kernel
theorem dX2_giveReasonsOfStart_13 : decode cX2_giveReasonsOfStart 13 = .ok (.iload_n 2, 1) := by decide +kernel
theorem dX2_giveReasonsOfStart_14 : decode cX2_giveReasonsOfStart 14 = .ok (.ldc 37, 2) := by decide +kernel
theorem dX2_giveReasonsOfStart_16 : decode cX2_giveReasonsOfStart 16 = .ok (.iload_n 1, 1) := by decide +kernel
theorem dX2_giveReasonsOfStart_17 : decode cX2_giveReasonsOfStart 17 = .ok (.iconst (-1), 1) := by decide +kernel
theorem dX2_giveReasonsOfStart_18 : decode cX2_giveReasonsOfStart 18 = .ok (.ixor, 1) := by decide +kernel
theorem dX2_giveReasonsOfStart_19 : decode cX2_giveReasonsOfStart 19 = .ok (.iand, 1) := by decide +kernel
theorem dX2_giveReasonsOfStart_20 : decode cX2_giveReasonsOfStart 20 = .ok (.bipush (-2), 2) := by decide +kernel
theorem dX2_giveReasonsOfStart_22 : decode cX2_giveReasonsOfStart 22 = .ok (.iload_n 2, 1) := by decide +kernel
theorem dX2_giveReasonsOfStart_23 : decode cX2_giveReasonsOfStart 23 = .ok (.ishl, 1) := by decide +kernel
theorem dX2_giveReasonsOfStart_24 : decode cX2_giveReasonsOfStart 24 = .ok (.iand, 1) := by decide +kernel
theorem dX2_giveReasonsOfStart_25 : decode cX2_giveReasonsOfStart 25 = .ok (.iastore, 1) := by decide +kernel
theorem dX2_giveReasonsOfStart_26 : decode cX2_giveReasonsOfStart 26 = .ok (.aload_n 0, 1) := by decide +kernel
theorem dX2_giveReasonsOfStart_27 : decode cX2_giveReasonsOfStart 27 = .ok (.getfield 25, 3) := by decide +kernel
theorem dX2_giveReasonsOfStart_30 : decode cX2_giveReasonsOfStart 30 = .ok (.iload_n 2, 1) := by decide +kernel
theorem dX2_giveReasonsOfStart_31 : decode cX2_giveReasonsOfStart 31 = .ok (.iload_n 1, 1) := by decide +kernel
theorem dX2_giveReasonsOfStart_32 : decode cX2_giveReasonsOfStart 32 = .ok (.iconst (-1), 1) := by decide +kernel
theorem dX2_giveReasonsOfStart_33 : decode cX2_giveReasonsOfStart 33 = .ok (.ixor, 1) := by decide +kernel
theorem dX2_giveReasonsOfStart_34 : decode cX2_giveReasonsOfStart 34 = .ok (.iconst 1, 1) := by decide +kernel
theorem dX2_giveReasonsOfStart_35 : decode cX2_giveReasonsOfStart 35 = .ok (.iload_n 2, 1) := by decide +kernel
theorem dX2_giveReasonsOfStart_36 : decode cX2_giveReasonsOfStart 36 = .ok (.ishl, 1) := by decide +kernel
theorem dX2_giveReasonsOfStart_37 : decode cX2_giveReasonsOfStart 37 = .ok (.iand, 1) := by decide +kernel
theorem dX2_giveReasonsOfStart_38 : decode cX2_giveReasonsOfStart 38 = .ok (.iastore, 1) := by decide +kernel
theorem dX2_giveReasonsOfStart_39 : decode cX2_giveReasonsOfStart 39 = .ok (.iinc 2 1, 3) := by decide +kernel
theorem dX2_giveReasonsOfStart_42 : decode cX2_giveReasonsOfStart 42 = .ok (.goto (-39), 3) := by decide +kernel
theorem dX2_giveReasonsOfStart_45 : decode cX2_giveReasonsOfStart 45 = .ok (.return_, 1) := by decide +kernel
theorem dX2_goodByLowAlone_0 : decode cX2_goodByLowAlone 0 = .ok (.ldc2_w 42, 3) := by decide +kernel
theorem dX2_goodByLowAlone_3 : decode cX2_goodByLowAlone 3 = .ok (.lstore_n 2, 1) := by decide +kernel
theorem dX2_goodByLowAlone_4 : decode cX2_goodByLowAlone 4 = .ok (.iconst 0, 1) := by decide +kernel
theorem dX2_goodByLowAlone_5 : decode cX2_goodByLowAlone 5 = .ok (.istore 4, 2) := by decide +kernel
theorem dX2_goodByLowAlone_7 : decode cX2_goodByLowAlone 7 = .ok (.iload 4, 2) := by decide +kernel
theorem dX2_goodByLowAlone_9 : decode cX2_goodByLowAlone 9 = .ok (.iload_n 1, 1) := by decide +kernel
theorem dX2_goodByLowAlone_10 : decode cX2_goodByLowAlone 10 = .ok (.if_icmp .ge 45, 3) := by decide +kernel
theorem dX2_goodByLowAlone_13 : decode cX2_goodByLowAlone 13 = .ok (.iload 4, 2) := by decide +kernel
theorem dX2_goodByLowAlone_15 : decode cX2_goodByLowAlone 15 = .ok (.sipush 420, 3) := by decide +kernel
theorem dX2_goodByLowAlone_18 : decode cX2_goodByLowAlone 18 = .ok (.if_icmp .ge 37, 3) := by decide +kernel
theorem dX2_goodByLowAlone_21 : decode cX2_goodByLowAlone 21 = .ok (.aload_n 0, 1) := by decide +kernel
theorem dX2_goodByLowAlone_22 : decode cX2_goodByLowAlone 22 = .ok (.getfield 11, 3) := by decide +kernel
theorem dX2_goodByLowAlone_25 : decode cX2_goodByLowAlone 25 = .ok (.iload 4, 2) := by decide +kernel
theorem dX2_goodByLowAlone_27 : decode cX2_goodByLowAlone 27 = .ok (.iaload, 1) := by decide +kernel
theorem dX2_goodByLowAlone_28 : decode cX2_goodByLowAlone 28 = .ok (.aload_n 0, 1) := by decide +kernel
theorem dX2_goodByLowAlone_29 : decode cX2_goodByLowAlone 29 = .ok (.getfield 15, 3) := by decide +kernel
theorem dX2_goodByLowAlone_32 : decode cX2_goodByLowAlone 32 = .ok (.iload 4, 2) := by decide +kernel
theorem dX2_goodByLowAlone_34 : decode cX2_goodByLowAlone 34 = .ok (.iaload, 1) := by decide +kernel
theorem dX2_goodByLowAlone_35 : decode cX2_goodByLowAlone 35 = .ok (.ior, 1) := by decide +kernel
theorem dX2_goodByLowAlone_36 : decode cX2_goodByLowAlone 36 = .ok (.ifCond .ne 13, 3) := by decide +kernel
theorem dX2_goodByLowAlone_39 : decode cX2_goodByLowAlone 39 = .ok (.lload_n 2, 1) := by decide +kernel
theorem dX2_goodByLowAlone_40 : decode cX2_goodByLowAlone 40 = .ok (.aload_n 0, 1) := by decide +kernel
theorem dX2_goodByLowAlone_41 : decode cX2_goodByLowAlone 41 = .ok (.getfield 18, 3) := by decide +kernel
theorem dX2_goodByLowAlone_44 : decode cX2_goodByLowAlone 44 = .ok (.iload 4, 2) := by decide +kernel
theorem dX2_goodByLowAlone_46 : decode cX2_goodByLowAlone 46 = .ok (.laload, 1) := by decide +kernel
theorem dX2_goodByLowAlone_47 : decode cX2_goodByLowAlone 47 = .ok (.land, 1) := by decide +kernel
theorem dX2_goodByLowAlone_48 : decode cX2_goodByLowAlone 48 = .ok (.lstore_n 2, 1) := by decide +kernel
theorem dX2_goodByLowAlone_49 : decode cX2_goodByLowAlone 49 = .ok (.iinc 4 1, 3) := by decide +kernel
theorem dX2_goodByLowAlone_52 : decode cX2_goodByLowAlone 52 = .ok (.goto (-45), 3) := by decide +kernel
theorem dX2_goodByLowAlone_55 : decode cX2_goodByLowAlone 55 = .ok (.lload_n 2, 1) := by decide +kernel
theorem dX2_goodByLowAlone_56 : decode cX2_goodByLowAlone 56 = .ok (.lreturn, 1) := by decide +kernel
theorem dX2_goodInBlock_0 : decode cX2_goodInBlock 0 = .ok (.lload_n 2, 1) := by decide +kernel
theorem dX2_goodInBlock_1 : decode cX2_goodInBlock 1 = .ok (.lstore 5, 2) := by decide +kernel
theorem dX2_goodInBlock_3 : decode cX2_goodInBlock 3 = .ok (.aload_n 0, 1) := by decide +kernel
theorem dX2_goodInBlock_4 : decode cX2_goodInBlock 4 = .ok (.iconst 0, 1) := by decide +kernel
theorem dX2_goodInBlock_5 : decode cX2_goodInBlock 5 = .ok (.putfield 75, 3) := by decide +kernel
theorem dX2_goodInBlock_8 : decode cX2_goodInBlock 8 = .ok (.aload_n 0, 1) := by decide +kernel
theorem dX2_goodInBlock_9 : decode cX2_goodInBlock 9 = .ok (.iconst 0, 1) := by decide +kernel
theorem dX2_goodInBlock_10 : decode cX2_goodInBlock 10 = .ok (.putfield 79, 3) := by decide +kernel
theorem dX2_goodInBlock_13 : decode cX2_goodInBlock 13 = .ok (.iconst 0, 1) := by decide +kernel
theorem dX2_goodInBlock_14 : decode cX2_goodInBlock 14 = .ok (.istore 7, 2) := by decide +kernel
theorem dX2_goodInBlock_16 : decode cX2_goodInBlock 16 = .ok (.iload 7, 2) := by decide +kernel
theorem dX2_goodInBlock_18 : decode cX2_goodInBlock 18 = .ok (.iload 4, 2) := by decide +kernel
theorem dX2_goodInBlock_20 : decode cX2_goodInBlock 20 = .ok (.if_icmp .ge 145, 3) := by decide +kernel
theorem dX2_goodInBlock_23 : decode cX2_goodInBlock 23 = .ok (.iload 7, 2) := by decide +kernel
theorem dX2_goodInBlock_25 : decode cX2_goodInBlock 25 = .ok (.sipush 420, 3) := by decide +kernel
theorem dX2_goodInBlock_28 : decode cX2_goodInBlock 28 = .ok (.if_icmp .ge 137, 3) := by decide +kernel
theorem dX2_goodInBlock_31 : decode cX2_goodInBlock 31 = .ok (.lload 5, 2) := by decide +kernel
theorem dX2_goodInBlock_33 : decode cX2_goodInBlock 33 = .ok (.lconst 0, 1) := by decide +kernel
theorem dX2_goodInBlock_34 : decode cX2_goodInBlock 34 = .ok (.lcmp, 1) := by decide +kernel
theorem dX2_goodInBlock_35 : decode cX2_goodInBlock 35 = .ok (.ifCond .eq 130, 3) := by decide +kernel
theorem dX2_goodInBlock_38 : decode cX2_goodInBlock 38 = .ok (.aload_n 0, 1) := by decide +kernel
theorem dX2_goodInBlock_39 : decode cX2_goodInBlock 39 = .ok (.getfield 11, 3) := by decide +kernel
theorem dX2_goodInBlock_42 : decode cX2_goodInBlock 42 = .ok (.iload 7, 2) := by decide +kernel
theorem dX2_goodInBlock_44 : decode cX2_goodInBlock 44 = .ok (.iaload, 1) := by decide +kernel
theorem dX2_goodInBlock_45 : decode cX2_goodInBlock 45 = .ok (.iload_n 1, 1) := by decide +kernel
theorem dX2_goodInBlock_46 : decode cX2_goodInBlock 46 = .ok (.iand, 1) := by decide +kernel
theorem dX2_goodInBlock_47 : decode cX2_goodInBlock 47 = .ok (.aload_n 0, 1) := by decide +kernel
theorem dX2_goodInBlock_48 : decode cX2_goodInBlock 48 = .ok (.getfield 15, 3) := by decide +kernel
theorem dX2_goodInBlock_51 : decode cX2_goodInBlock 51 = .ok (.iload 7, 2) := by decide +kernel
theorem dX2_goodInBlock_53 : decode cX2_goodInBlock 53 = .ok (.iaload, 1) := by decide +kernel
theorem dX2_goodInBlock_54 : decode cX2_goodInBlock 54 = .ok (.iload_n 1, 1) := by decide +kernel
theorem dX2_goodInBlock_55 : decode cX2_goodInBlock 55 = .ok (.iconst (-1), 1) := by decide +kernel
theorem dX2_goodInBlock_56 : decode cX2_goodInBlock 56 = .ok (.ixor, 1) := by decide +kernel
theorem dX2_goodInBlock_57 : decode cX2_goodInBlock 57 = .ok (.iand, 1) := by decide +kernel
theorem dX2_goodInBlock_58 : decode cX2_goodInBlock 58 = .ok (.ior, 1) := by decide +kernel
theorem dX2_goodInBlock_59 : decode cX2_goodInBlock 59 = .ok (.ifCond .ne 7, 3) := by decide +kernel
theorem dX2_goodInBlock_62 : decode cX2_goodInBlock 62 = .ok (.iconst 1, 1) := by decide +kernel
theorem dX2_goodInBlock_63 : decode cX2_goodInBlock 63 = .ok (.goto 4, 3) := by decide +kernel
theorem dX2_goodInBlock_66 : decode cX2_goodInBlock 66 = .ok (.iconst 0, 1) := by decide +kernel
theorem dX2_goodInBlock_67 : decode cX2_goodInBlock 67 = .ok (.istore 8, 2) := by decide +kernel
theorem dX2_goodInBlock_69 : decode cX2_goodInBlock 69 = .ok (.iload 8, 2) := by decide +kernel
theorem dX2_goodInBlock_71 : decode cX2_goodInBlock 71 = .ok (.ifCond .eq 88, 3) := by decide +kernel
theorem dX2_goodInBlock_74 : decode cX2_goodInBlock 74 = .ok (.lload 5, 2) := by decide +kernel
theorem dX2_goodInBlock_76 : decode cX2_goodInBlock 76 = .ok (.aload_n 0, 1) := by decide +kernel
theorem dX2_goodInBlock_77 : decode cX2_goodInBlock 77 = .ok (.getfield 18, 3) := by decide +kernel
theorem dX2_goodInBlock_80 : decode cX2_goodInBlock 80 = .ok (.iload 7, 2) := by decide +kernel
theorem dX2_goodInBlock_82 : decode cX2_goodInBlock 82 = .ok (.laload, 1) := by decide +kernel
theorem dX2_goodInBlock_83 : decode cX2_goodInBlock 83 = .ok (.ldc2_w 42, 3) := by decide +kernel
theorem dX2_goodInBlock_86 : decode cX2_goodInBlock 86 = .ok (.lxor, 1) := by decide +kernel
theorem dX2_goodInBlock_87 : decode cX2_goodInBlock 87 = .ok (.land, 1) := by decide +kernel
theorem dX2_goodInBlock_88 : decode cX2_goodInBlock 88 = .ok (.lconst 0, 1) := by decide +kernel
theorem dX2_goodInBlock_89 : decode cX2_goodInBlock 89 = .ok (.lcmp, 1) := by decide +kernel
theorem dX2_goodInBlock_90 : decode cX2_goodInBlock 90 = .ok (.ifCond .eq 69, 3) := by decide +kernel
theorem dX2_goodInBlock_93 : decode cX2_goodInBlock 93 = .ok (.aload_n 0, 1) := by decide +kernel
theorem dX2_goodInBlock_94 : decode cX2_goodInBlock 94 = .ok (.getfield 18, 3) := by decide +kernel
theorem dX2_goodInBlock_97 : decode cX2_goodInBlock 97 = .ok (.iload 7, 2) := by decide +kernel
theorem dX2_goodInBlock_99 : decode cX2_goodInBlock 99 = .ok (.laload, 1) := by decide +kernel
theorem dX2_goodInBlock_100 : decode cX2_goodInBlock 100 = .ok (.lconst 0, 1) := by decide +kernel
theorem dX2_goodInBlock_101 : decode cX2_goodInBlock 101 = .ok (.lcmp, 1) := by decide +kernel
theorem dX2_goodInBlock_102 : decode cX2_goodInBlock 102 = .ok (.ifCond .ne 13, 3) := by decide +kernel
theorem dX2_goodInBlock_105 : decode cX2_goodInBlock 105 = .ok (.aload_n 0, 1) := by decide +kernel
theorem dX2_goodInBlock_106 : decode cX2_goodInBlock 106 = .ok (.iconst 0, 1) := by decide +kernel
theorem dX2_goodInBlock_107 : decode cX2_goodInBlock 107 = .ok (.putfield 75, 3) := by decide +kernel
theorem dX2_goodInBlock_110 : decode cX2_goodInBlock 110 = .ok (.aload_n 0, 1) := by decide +kernel
theorem dX2_goodInBlock_111 : decode cX2_goodInBlock 111 = .ok (.iconst 0, 1) := by decide +kernel
theorem dX2_goodInBlock_112 : decode cX2_goodInBlock 112 = .ok (.putfield 79, 3) := by decide +kernel
theorem dX2_goodInBlock_115 : decode cX2_goodInBlock 115 = .ok (.lload 5, 2) := by decide +kernel
theorem dX2_goodInBlock_117 : decode cX2_goodInBlock 117 = .ok (.aload_n 0, 1) := by decide +kernel
theorem dX2_goodInBlock_118 : decode cX2_goodInBlock 118 = .ok (.getfield 18, 3) := by decide +kernel
theorem dX2_goodInBlock_121 : decode cX2_goodInBlock 121 = .ok (.iload 7, 2) := by decide +kernel
theorem dX2_goodInBlock_123 : decode cX2_goodInBlock 123 = .ok (.laload, 1) := by decide +kernel
theorem dX2_goodInBlock_124 : decode cX2_goodInBlock 124 = .ok (.land, 1) := by decide +kernel
theorem dX2_goodInBlock_125 : decode cX2_goodInBlock 125 = .ok (.lstore 5, 2) := by decide +kernel
theorem dX2_goodInBlock_127 : decode cX2_goodInBlock 127 = .ok (.aload_n 0, 1) := by decide +kernel
theorem dX2_goodInBlock_128 : decode cX2_goodInBlock 128 = .ok (.dup, 1) := by decide +kernel
theorem dX2_goodInBlock_129 : decode cX2_goodInBlock 129 = .ok (.getfield 75, 3) := by decide +kernel
theorem dX2_goodInBlock_132 : decode cX2_goodInBlock 132 = .ok (.aload_n 0, 1) := by decide +kernel
theorem dX2_goodInBlock_133 : decode cX2_goodInBlock 133 = .ok (.getfield 11, 3) := by decide +kernel
theorem dX2_goodInBlock_136 : decode cX2_goodInBlock 136 = .ok (.iload 7, 2) := by decide +kernel
theorem dX2_goodInBlock_138 : decode cX2_goodInBlock 138 = .ok (.iaload, 1) := by decide +kernel
theorem dX2_goodInBlock_139 : decode cX2_goodInBlock 139 = .ok (.ior, 1) := by decide +kernel
theorem dX2_goodInBlock_140 : decode cX2_goodInBlock 140 = .ok (.putfield 75, 3) := by decide +kernel
theorem dX2_goodInBlock_143 : decode cX2_goodInBlock 143 = .ok (.aload_n 0, 1) := by decide +kernel
theorem dX2_goodInBlock_144 : decode cX2_goodInBlock 144 = .ok (.dup, 1) := by decide +kernel
theorem dX2_goodInBlock_145 : decode cX2_goodInBlock 145 = .ok (.getfield 79, 3) := by decide +kernel
theorem dX2_goodInBlock_148 : decode cX2_goodInBlock 148 = .ok (.aload_n 0, 1) := by decide +kernel
theorem dX2_goodInBlock_149 : decode cX2_goodInBlock 149 = .ok (.getfield 15, 3) := by decide +kernel
theorem dX2_goodInBlock_152 : decode cX2_goodInBlock 152 = .ok (.iload 7, 2) := by decide +kernel
theorem dX2_goodInBlock_154 : decode cX2_goodInBlock 154 = .ok (.iaload, 1) := by decide +kernel
theorem dX2_goodInBlock_155 : decode cX2_goodInBlock 155 = .ok (.ior, 1) := by decide +kernel
theorem dX2_goodInBlock_156 : decode cX2_goodInBlock 156 = .ok (.putfield 79, 3) := by decide +kernel
theorem dX2_goodInBlock_159 : decode cX2_goodInBlock 159 = .ok (.iinc 7 1, 3) := by decide +kernel
theorem dX2_goodInBlock_162 : decode cX2_goodInBlock 162 = .ok (.goto (-146), 3) := by decide +kernel
theorem dX2_goodInBlock_165 : decode cX2_goodInBlock 165 = .ok (.lload 5, 2) := by decide +kernel
theorem dX2_goodInBlock_167 : decode cX2_goodInBlock 167 = .ok (.lreturn, 1) := by decide +kernel
theorem dX2_leap_0 : decode cX2_leap 0 = .ok (.aload_n 0, 1) := by decide +kernel
theorem dX2_leap_1 : decode cX2_leap 1 = .ok (.getfield 75, 3) := by decide +kernel
theorem dX2_leap_4 : decode cX2_leap 4 = .ok (.istore_n 2, 1) := by decide +kernel
theorem dX2_leap_5 : decode cX2_leap 5 = .ok (.aload_n 0, 1) := by decide +kernel
theorem dX2_leap_6 : decode cX2_leap 6 = .ok (.getfield 79, 3) := by decide +kernel
theorem dX2_leap_9 : decode cX2_leap 9 = .ok (.istore_n 3, 1) := by decide +kernel
theorem dX2_leap_10 : decode cX2_leap 10 = .ok (.bipush 6, 2) := by decide +kernel
theorem dX2_leap_12 : decode cX2_leap 12 = .ok (.istore 4, 2) := by decide +kernel
theorem dX2_leap_14 : decode cX2_leap 14 = .ok (.iload 4, 2) := by decide +kernel
theorem dX2_leap_16 : decode cX2_leap 16 = .ok (.bipush 18, 2) := by decide +kernel
theorem dX2_leap_18 : decode cX2_leap 18 = .ok (.if_icmp .ge 84, 3) := by decide +kernel
theorem dX2_leap_21 : decode cX2_leap 21 = .ok (.iconst 1, 1) := by decide +kernel
theorem dX2_leap_22 : decode cX2_leap 22 = .ok (.iload 4, 2) := by decide +kernel
theorem dX2_leap_24 : decode cX2_leap 24 = .ok (.ishl, 1) := by decide +kernel
theorem dX2_leap_25 : decode cX2_leap 25 = .ok (.istore 5, 2) := by decide +kernel
theorem dX2_leap_27 : decode cX2_leap 27 = .ok (.iload_n 2, 1) := by decide +kernel
theorem dX2_leap_28 : decode cX2_leap 28 = .ok (.iload 5, 2) := by decide +kernel
theorem dX2_leap_30 : decode cX2_leap 30 = .ok (.iand, 1) := by decide +kernel
theorem dX2_leap_31 : decode cX2_leap 31 = .ok (.ifCond .eq 33, 3) := by decide +kernel
theorem dX2_leap_34 : decode cX2_leap 34 = .ok (.aload_n 0, 1) := by decide +kernel
theorem dX2_leap_35 : decode cX2_leap 35 = .ok (.getfield 22, 3) := by decide +kernel
theorem dX2_leap_38 : decode cX2_leap 38 = .ok (.iload 4, 2) := by decide +kernel
theorem dX2_leap_40 : decode cX2_leap 40 = .ok (.iload_n 2, 1) := by decide +kernel
theorem dX2_leap_41 : decode cX2_leap 41 = .ok (.iload 5, 2) := by decide +kernel
theorem dX2_leap_43 : decode cX2_leap 43 = .ok (.iconst (-1), 1) := by decide +kernel
theorem dX2_leap_44 : decode cX2_leap 44 = .ok (.ixor, 1) := by decide +kernel
theorem dX2_leap_45 : decode cX2_leap 45 = .ok (.iand, 1) := by decide +kernel
theorem dX2_leap_46 : decode cX2_leap 46 = .ok (.iastore, 1) := by decide +kernel
theorem dX2_leap_47 : decode cX2_leap 47 = .ok (.aload_n 0, 1) := by decide +kernel
theorem dX2_leap_48 : decode cX2_leap 48 = .ok (.getfield 25, 3) := by decide +kernel
theorem dX2_leap_51 : decode cX2_leap 51 = .ok (.iload 4, 2) := by decide +kernel
theorem dX2_leap_53 : decode cX2_leap 53 = .ok (.iload_n 3, 1) := by decide +kernel
theorem dX2_leap_54 : decode cX2_leap 54 = .ok (.iastore, 1) := by decide +kernel
theorem dX2_leap_55 : decode cX2_leap 55 = .ok (.iload_n 1, 1) := by decide +kernel
theorem dX2_leap_56 : decode cX2_leap 56 = .ok (.iload 5, 2) := by decide +kernel
theorem dX2_leap_58 : decode cX2_leap 58 = .ok (.ior, 1) := by decide +kernel
theorem dX2_leap_59 : decode cX2_leap 59 = .ok (.iload 5, 2) := by decide +kernel
theorem dX2_leap_61 : decode cX2_leap 61 = .ok (.ineg, 1) := by decide +kernel
theorem dX2_leap_62 : decode cX2_leap 62 = .ok (.iand, 1) := by decide +kernel
theorem dX2_leap_63 : decode cX2_leap 63 = .ok (.ireturn, 1) := by decide +kernel
theorem dX2_leap_64 : decode cX2_leap 64 = .ok (.iload_n 3, 1) := by decide +kernel
theorem dX2_leap_65 : decode cX2_leap 65 = .ok (.iload 5, 2) := by decide +kernel
theorem dX2_leap_67 : decode cX2_leap 67 = .ok (.iand, 1) := by decide +kernel
theorem dX2_leap_68 : decode cX2_leap 68 = .ok (.ifCond .eq 28, 3) := by decide +kernel
theorem dX2_leap_71 : decode cX2_leap 71 = .ok (.iload_n 2, 1) := by decide +kernel
theorem dX2_leap_72 : decode cX2_leap 72 = .ok (.aload_n 0, 1) := by decide +kernel
theorem dX2_leap_73 : decode cX2_leap 73 = .ok (.getfield 22, 3) := by decide +kernel
theorem dX2_leap_76 : decode cX2_leap 76 = .ok (.iload 4, 2) := by decide +kernel
theorem dX2_leap_78 : decode cX2_leap 78 = .ok (.iaload, 1) := by decide +kernel
theorem dX2_leap_79 : decode cX2_leap 79 = .ok (.ior, 1) := by decide +kernel
theorem dX2_leap_80 : decode cX2_leap 80 = .ok (.istore_n 2, 1) := by decide +kernel
theorem dX2_leap_81 : decode cX2_leap 81 = .ok (.iload_n 3, 1) := by decide +kernel
theorem dX2_leap_82 : decode cX2_leap 82 = .ok (.iload 5, 2) := by decide +kernel
theorem dX2_leap_84 : decode cX2_leap 84 = .ok (.iconst (-1), 1) := by decide +kernel
theorem dX2_leap_85 : decode cX2_leap 85 = .ok (.ixor, 1) := by decide +kernel
theorem dX2_leap_86 : decode cX2_leap 86 = .ok (.iand, 1) := by decide +kernel
theorem dX2_leap_87 : decode cX2_leap 87 = .ok (.aload_n 0, 1) := by decide +kernel
theorem dX2_leap_88 : decode cX2_leap 88 = .ok (.getfield 25, 3) := by decide +kernel
theorem dX2_leap_91 : decode cX2_leap 91 = .ok (.iload 4, 2) := by decide +kernel
theorem dX2_leap_93 : decode cX2_leap 93 = .ok (.iaload, 1) := by decide +kernel
theorem dX2_leap_94 : decode cX2_leap 94 = .ok (.ior, 1) := by decide +kernel
theorem dX2_leap_95 : decode cX2_leap 95 = .ok (.istore_n 3, 1) := by decide +kernel
theorem dX2_leap_96 : decode cX2_leap 96 = .ok (.iinc 4 1, 3) := by decide +kernel
theorem dX2_leap_99 : decode cX2_leap 99 = .ok (.goto (-85), 3) := by decide +kernel
theorem dX2_leap_102 : decode cX2_leap 102 = .ok (.iconst (-1), 1) := by decide +kernel
theorem dX2_leap_103 : decode cX2_leap 103 = .ok (.ireturn, 1) := by decide +kernel
theorem dX2_setByReasons_0 : decode cX2_setByReasons 0 = .ok (.iload_n 1, 1) := by decide +kernel
theorem dX2_setByReasons_1 : decode cX2_setByReasons 1 = .ok (.istore_n 2, 1) := by decide +kernel
theorem dX2_setByReasons_2 : decode cX2_setByReasons 2 = .ok (.bipush 17, 2) := by decide +kernel
theorem dX2_setByReasons_4 : decode cX2_setByReasons 4 = .ok (.istore_n 3, 1) := by decide +kernel
theorem dX2_setByReasons_5 : decode cX2_setByReasons 5 = .ok (.iload_n 3, 1) := by decide +kernel
theorem dX2_setByReasons_6 : decode cX2_setByReasons 6 = .ok (.bipush 6, 2) := by decide +kernel
theorem dX2_setByReasons_8 : decode cX2_setByReasons 8 = .ok (.if_icmp .lt 53, 3) := by decide +kernel
theorem dX2_setByReasons_11 : decode cX2_setByReasons 11 = .ok (.iload_n 2, 1) := by decide +kernel
theorem dX2_setByReasons_12 : decode cX2_setByReasons 12 = .ok (.iconst (-1), 1) := by decide +kernel
theorem dX2_setByReasons_13 : decode cX2_setByReasons 13 = .ok (.if_icmp .eq 48, 3) := by decide +kernel
theorem dX2_setByReasons_16 : decode cX2_setByReasons 16 = .ok (.iconst 1, 1) := by decide +kernel
theorem dX2_setByReasons_17 : decode cX2_setByReasons 17 = .ok (.iload_n 3, 1) := by decide +kernel
theorem dX2_setByReasons_18 : decode cX2_setByReasons 18 = .ok (.ishl, 1) := by decide +kernel
theorem dX2_setByReasons_19 : decode cX2_setByReasons 19 = .ok (.istore 4, 2) := by decide +kernel
theorem dX2_setByReasons_21 : decode cX2_setByReasons 21 = .ok (.aload_n 0, 1) := by decide +kernel
theorem dX2_setByReasons_22 : decode cX2_setByReasons 22 = .ok (.getfield 22, 3) := by decide +kernel
theorem dX2_setByReasons_25 : decode cX2_setByReasons 25 = .ok (.iload_n 3, 1) := by decide +kernel
theorem dX2_setByReasons_26 : decode cX2_setByReasons 26 = .ok (.iaload, 1) := by decide +kernel
theorem dX2_setByReasons_27 : decode cX2_setByReasons 27 = .ok (.iload 4, 2) := by decide +kernel
theorem dX2_setByReasons_29 : decode cX2_setByReasons 29 = .ok (.ior, 1) := by decide +kernel
theorem dX2_setByReasons_30 : decode cX2_setByReasons 30 = .ok (.iload_n 2, 1) := by decide +kernel
theorem dX2_setByReasons_31 : decode cX2_setByReasons 31 = .ok (.iand, 1) := by decide +kernel
theorem dX2_setByReasons_32 : decode cX2_setByReasons 32 = .ok (.aload_n 0, 1) := by decide +kernel
theorem dX2_setByReasons_33 : decode cX2_setByReasons 33 = .ok (.getfield 25, 3) := by decide +kernel
theorem dX2_setByReasons_36 : decode cX2_setByReasons 36 = .ok (.iload_n 3, 1) := by decide +kernel
theorem dX2_setByReasons_37 : decode cX2_setByReasons 37 = .ok (.iaload, 1) := by decide +kernel
theorem dX2_setByReasons_38 : decode cX2_setByReasons 38 = .ok (.iload_n 2, 1) := by decide +kernel
theorem dX2_setByReasons_39 : decode cX2_setByReasons 39 = .ok (.iconst (-1), 1) := by decide +kernel
theorem dX2_setByReasons_40 : decode cX2_setByReasons 40 = .ok (.ixor, 1) := by decide +kernel
theorem dX2_setByReasons_41 : decode cX2_setByReasons 41 = .ok (.iand, 1) := by decide +kernel
theorem dX2_setByReasons_42 : decode cX2_setByReasons 42 = .ok (.ior, 1) := by decide +kernel
theorem dX2_setByReasons_43 : decode cX2_setByReasons 43 = .ok (.ifCond .ne 12, 3) := by decide +kernel
theorem dX2_setByReasons_46 : decode cX2_setByReasons 46 = .ok (.iload_n 2, 1) := by decide +kernel
theorem dX2_setByReasons_47 : decode cX2_setByReasons 47 = .ok (.iload 4, 2) := by decide +kernel
theorem dX2_setByReasons_49 : decode cX2_setByReasons 49 = .ok (.ior, 1) := by decide +kernel
theorem dX2_setByReasons_50 : decode cX2_setByReasons 50 = .ok (.iload 4, 2) := by decide +kernel
theorem dX2_setByReasons_52 : decode cX2_setByReasons 52 = .ok (.ineg, 1) := by decide +kernel
theorem dX2_setByReasons_53 : decode cX2_setByReasons 53 = .ok (.iand, 1) := by decide +kernel
theorem dX2_setByReasons_54 : decode cX2_setByReasons 54 = .ok (.istore_n 2, 1) := by decide +kernel
theorem dX2_setByReasons_55 : decode cX2_setByReasons 55 = .ok (.iinc 3 (-1), 3) := by decide +kernel
theorem dX2_setByReasons_58 : decode cX2_setByReasons 58 = .ok (.goto (-53), 3) := by decide +kernel
theorem dX2_setByReasons_61 : decode cX2_setByReasons 61 = .ok (.iload_n 2, 1) := by decide +kernel
theorem dX2_setByReasons_62 : decode cX2_setByReasons 62 = .ok (.ireturn, 1) := by decide +kernel
theorem dJL_bitCount_0 : decode cJL_bitCount 0 = .ok (.lload_n 0, 1) := by decide +kernel
theorem dJL_bitCount_1 : decode cJL_bitCount 1 = .ok (.lload_n 0, 1) := by decide +kernel
theorem dJL_bitCount_2 : decode cJL_bitCount 2 = .ok (.iconst 1, 1) := by decide +kernel
theorem dJL_bitCount_3 : decode cJL_bitCount 3 = .ok (.lushr, 1) := by decide +kernel
theorem dJL_bitCount_4 : decode cJL_bitCount 4 = .ok (.ldc2_w 314, 3) := by decide +kernel
theorem dJL_bitCount_7 : decode cJL_bitCount 7 = .ok (.land, 1) := by decide +kernel
theorem dJL_bitCount_8 : decode cJL_bitCount 8 = .ok (.lsub, 1) := by decide +kernel
theorem dJL_bitCount_9 : decode cJL_bitCount 9 = .ok (.lstore_n 0, 1) := by decide +kernel
theorem dJL_bitCount_10 : decode cJL_bitCount 10 = .ok (.lload_n 0, 1) := by decide +kernel
theorem dJL_bitCount_11 : decode cJL_bitCount 11 = .ok (.ldc2_w 316, 3) := by decide +kernel
theorem dJL_bitCount_14 : decode cJL_bitCount 14 = .ok (.land, 1) := by decide +kernel
theorem dJL_bitCount_15 : decode cJL_bitCount 15 = .ok (.lload_n 0, 1) := by decide +kernel
theorem dJL_bitCount_16 : decode cJL_bitCount 16 = .ok (.iconst 2, 1) := by decide +kernel
theorem dJL_bitCount_17 : decode cJL_bitCount 17 = .ok (.lushr, 1) := by decide +kernel
theorem dJL_bitCount_18 : decode cJL_bitCount 18 = .ok (.ldc2_w 316, 3) := by decide +kernel
theorem dJL_bitCount_21 : decode cJL_bitCount 21 = .ok (.land, 1) := by decide +kernel
theorem dJL_bitCount_22 : decode cJL_bitCount 22 = .ok (.ladd, 1) := by decide +kernel
theorem dJL_bitCount_23 : decode cJL_bitCount 23 = .ok (.lstore_n 0, 1) := by decide +kernel
theorem dJL_bitCount_24 : decode cJL_bitCount 24 = .ok (.lload_n 0, 1) := by decide +kernel
theorem dJL_bitCount_25 : decode cJL_bitCount 25 = .ok (.lload_n 0, 1) := by decide +kernel
theorem dJL_bitCount_26 : decode cJL_bitCount 26 = .ok (.iconst 4, 1) := by decide +kernel
theorem dJL_bitCount_27 : decode cJL_bitCount 27 = .ok (.lushr, 1) := by decide +kernel
theorem dJL_bitCount_28 : decode cJL_bitCount 28 = .ok (.ladd, 1) := by decide +kernel
theorem dJL_bitCount_29 : decode cJL_bitCount 29 = .ok (.ldc2_w 318, 3) := by decide +kernel
theorem dJL_bitCount_32 : decode cJL_bitCount 32 = .ok (.land, 1) := by decide +kernel
theorem dJL_bitCount_33 : decode cJL_bitCount 33 = .ok (.lstore_n 0, 1) := by decide +kernel
theorem dJL_bitCount_34 : decode cJL_bitCount 34 = .ok (.lload_n 0, 1) := by decide +kernel
theorem dJL_bitCount_35 : decode cJL_bitCount 35 = .ok (.lload_n 0, 1) := by decide +kernel
theorem dJL_bitCount_36 : decode cJL_bitCount 36 = .ok (.bipush 8, 2) := by decide +kernel
theorem dJL_bitCount_38 : decode cJL_bitCount 38 = .ok (.lushr, 1) := by decide +kernel
theorem dJL_bitCount_39 : decode cJL_bitCount 39 = .ok (.ladd, 1) := by decide +kernel
theorem dJL_bitCount_40 : decode cJL_bitCount 40 = .ok (.lstore_n 0, 1) := by decide +kernel
theorem dJL_bitCount_41 : decode cJL_bitCount 41 = .ok (.lload_n 0, 1) := by decide +kernel
theorem dJL_bitCount_42 : decode cJL_bitCount 42 = .ok (.lload_n 0, 1) := by decide +kernel
theorem dJL_bitCount_43 : decode cJL_bitCount 43 = .ok (.bipush 16, 2) := by decide +kernel
theorem dJL_bitCount_45 : decode cJL_bitCount 45 = .ok (.lushr, 1) := by decide +kernel
theorem dJL_bitCount_46 : decode cJL_bitCount 46 = .ok (.ladd, 1) := by decide +kernel
theorem dJL_bitCount_47 : decode cJL_bitCount 47 = .ok (.lstore_n 0, 1) := by decide +kernel
theorem dJL_bitCount_48 : decode cJL_bitCount 48 = .ok (.lload_n 0, 1) := by decide +kernel
theorem dJL_bitCount_49 : decode cJL_bitCount 49 = .ok (.lload_n 0, 1) := by decide +kernel
theorem dJL_bitCount_50 : decode cJL_bitCount 50 = .ok (.bipush 32, 2) := by decide +kernel
theorem dJL_bitCount_52 : decode cJL_bitCount 52 = .ok (.lushr, 1) := by decide +kernel
theorem dJL_bitCount_53 : decode cJL_bitCount 53 = .ok (.ladd, 1) := by decide +kernel
theorem dJL_bitCount_54 : decode cJL_bitCount 54 = .ok (.lstore_n 0, 1) := by decide +kernel
theorem dJL_bitCount_55 : decode cJL_bitCount 55 = .ok (.lload_n 0, 1) := by decide +kernel
theorem dJL_bitCount_56 : decode cJL_bitCount 56 = .ok (.l2i, 1) := by decide +kernel
theorem dJL_bitCount_57 : decode cJL_bitCount 57 = .ok (.bipush 127, 2) := by decide +kernel
theorem dJL_bitCount_59 : decode cJL_bitCount 59 = .ok (.iand, 1) := by decide +kernel
theorem dJL_bitCount_60 : decode cJL_bitCount 60 = .ok (.ireturn, 1) := by decide +kernel
theorem dJL_numberOfTrailingZeros_0 : decode cJL_numberOfTrailingZeros 0 = .ok (.lload_n 0, 1) := by decide +kernel
theorem dJL_numberOfTrailingZeros_1 : decode cJL_numberOfTrailingZeros 1 = .ok (.l2i, 1) := by decide +kernel
theorem dJL_numberOfTrailingZeros_2 : decode cJL_numberOfTrailingZeros 2 = .ok (.istore_n 2, 1) := by decide +kernel
theorem dJL_numberOfTrailingZeros_3 : decode cJL_numberOfTrailingZeros 3 = .ok (.iload_n 2, 1) := by decide +kernel
theorem dJL_numberOfTrailingZeros_4 : decode cJL_numberOfTrailingZeros 4 = .ok (.ifCond .ne 17, 3) := by decide +kernel
theorem dJL_numberOfTrailingZeros_7 : decode cJL_numberOfTrailingZeros 7 = .ok (.bipush 32, 2) := by decide +kernel
theorem dJL_numberOfTrailingZeros_9 : decode cJL_numberOfTrailingZeros 9 = .ok (.lload_n 0, 1) := by decide +kernel
theorem dJL_numberOfTrailingZeros_10 : decode cJL_numberOfTrailingZeros 10 = .ok (.bipush 32, 2) := by decide +kernel
theorem dJL_numberOfTrailingZeros_12 : decode cJL_numberOfTrailingZeros 12 = .ok (.lushr, 1) := by decide +kernel
theorem dJL_numberOfTrailingZeros_13 : decode cJL_numberOfTrailingZeros 13 = .ok (.l2i, 1) := by decide +kernel
theorem dJL_numberOfTrailingZeros_14 : decode cJL_numberOfTrailingZeros 14 = .ok (.invokestatic 311, 3) := by decide +kernel
theorem dJL_numberOfTrailingZeros_17 : decode cJL_numberOfTrailingZeros 17 = .ok (.iadd, 1) := by decide +kernel
theorem dJL_numberOfTrailingZeros_18 : decode cJL_numberOfTrailingZeros 18 = .ok (.goto 7, 3) := by decide +kernel
theorem dJL_numberOfTrailingZeros_21 : decode cJL_numberOfTrailingZeros 21 = .ok (.iload_n 2, 1) := by decide +kernel
theorem dJL_numberOfTrailingZeros_22 : decode cJL_numberOfTrailingZeros 22 = .ok (.invokestatic 311, 3) := by decide +kernel
theorem dJL_numberOfTrailingZeros_25 : decode cJL_numberOfTrailingZeros 25 = .ok (.ireturn, 1) := by decide +kernel
theorem dJI_numberOfTrailingZeros_0 : decode cJI_numberOfTrailingZeros 0 = .ok (.iload_n 0, 1) := by decide +kernel
theorem dJI_numberOfTrailingZeros_1 : decode cJI_numberOfTrailingZeros 1 = .ok (.iconst (-1), 1) := by decide +kernel
theorem dJI_numberOfTrailingZeros_2 : decode cJI_numberOfTrailingZeros 2 = .ok (.ixor, 1) := by decide +kernel
theorem dJI_numberOfTrailingZeros_3 : decode cJI_numberOfTrailingZeros 3 = .ok (.iload_n 0, 1) := by decide +kernel
theorem dJI_numberOfTrailingZeros_4 : decode cJI_numberOfTrailingZeros 4 = .ok (.iconst 1, 1) := by decide +kernel
theorem dJI_numberOfTrailingZeros_5 : decode cJI_numberOfTrailingZeros 5 = .ok (.isub, 1) := by decide +kernel
theorem dJI_numberOfTrailingZeros_6 : decode cJI_numberOfTrailingZeros 6 = .ok (.iand, 1) := by decide +kernel
theorem dJI_numberOfTrailingZeros_7 : decode cJI_numberOfTrailingZeros 7 = .ok (.istore_n 0, 1) := by decide +kernel
theorem dJI_numberOfTrailingZeros_8 : decode cJI_numberOfTrailingZeros 8 = .ok (.iload_n 0, 1) := by decide +kernel
theorem dJI_numberOfTrailingZeros_9 : decode cJI_numberOfTrailingZeros 9 = .ok (.ifCond .gt 8, 3) := by decide +kernel
theorem dJI_numberOfTrailingZeros_12 : decode cJI_numberOfTrailingZeros 12 = .ok (.iload_n 0, 1) := by decide +kernel
theorem dJI_numberOfTrailingZeros_13 : decode cJI_numberOfTrailingZeros 13 = .ok (.bipush 32, 2) := by decide +kernel
theorem dJI_numberOfTrailingZeros_15 : decode cJI_numberOfTrailingZeros 15 = .ok (.iand, 1) := by decide +kernel
theorem dJI_numberOfTrailingZeros_16 : decode cJI_numberOfTrailingZeros 16 = .ok (.ireturn, 1) := by decide +kernel
theorem dJI_numberOfTrailingZeros_17 : decode cJI_numberOfTrailingZeros 17 = .ok (.iconst 1, 1) := by decide +kernel
theorem dJI_numberOfTrailingZeros_18 : decode cJI_numberOfTrailingZeros 18 = .ok (.istore_n 1, 1) := by decide +kernel
theorem dJI_numberOfTrailingZeros_19 : decode cJI_numberOfTrailingZeros 19 = .ok (.iload_n 0, 1) := by decide +kernel
theorem dJI_numberOfTrailingZeros_20 : decode cJI_numberOfTrailingZeros 20 = .ok (.ldc_w 264, 3) := by decide +kernel
theorem dJI_numberOfTrailingZeros_23 : decode cJI_numberOfTrailingZeros 23 = .ok (.if_icmp .le 11, 3) := by decide +kernel
theorem dJI_numberOfTrailingZeros_26 : decode cJI_numberOfTrailingZeros 26 = .ok (.iinc 1 16, 3) := by decide +kernel
theorem dJI_numberOfTrailingZeros_29 : decode cJI_numberOfTrailingZeros 29 = .ok (.iload_n 0, 1) := by decide +kernel
theorem dJI_numberOfTrailingZeros_30 : decode cJI_numberOfTrailingZeros 30 = .ok (.bipush 16, 2) := by decide +kernel
theorem dJI_numberOfTrailingZeros_32 : decode cJI_numberOfTrailingZeros 32 = .ok (.iushr, 1) := by decide +kernel
theorem dJI_numberOfTrailingZeros_33 : decode cJI_numberOfTrailingZeros 33 = .ok (.istore_n 0, 1) := by decide +kernel
theorem dJI_numberOfTrailingZeros_34 : decode cJI_numberOfTrailingZeros 34 = .ok (.iload_n 0, 1) := by decide +kernel
theorem dJI_numberOfTrailingZeros_35 : decode cJI_numberOfTrailingZeros 35 = .ok (.sipush 256, 3) := by decide +kernel
theorem dJI_numberOfTrailingZeros_38 : decode cJI_numberOfTrailingZeros 38 = .ok (.if_icmp .le 11, 3) := by decide +kernel
theorem dJI_numberOfTrailingZeros_41 : decode cJI_numberOfTrailingZeros 41 = .ok (.iinc 1 8, 3) := by decide +kernel
theorem dJI_numberOfTrailingZeros_44 : decode cJI_numberOfTrailingZeros 44 = .ok (.iload_n 0, 1) := by decide +kernel
theorem dJI_numberOfTrailingZeros_45 : decode cJI_numberOfTrailingZeros 45 = .ok (.bipush 8, 2) := by decide +kernel
theorem dJI_numberOfTrailingZeros_47 : decode cJI_numberOfTrailingZeros 47 = .ok (.iushr, 1) := by decide +kernel
theorem dJI_numberOfTrailingZeros_48 : decode cJI_numberOfTrailingZeros 48 = .ok (.istore_n 0, 1) := by decide +kernel
theorem dJI_numberOfTrailingZeros_49 : decode cJI_numberOfTrailingZeros 49 = .ok (.iload_n 0, 1) := by decide +kernel
theorem dJI_numberOfTrailingZeros_50 : decode cJI_numberOfTrailingZeros 50 = .ok (.bipush 16, 2) := by decide +kernel
theorem dJI_numberOfTrailingZeros_52 : decode cJI_numberOfTrailingZeros 52 = .ok (.if_icmp .le 10, 3) := by decide +kernel
theorem dJI_numberOfTrailingZeros_55 : decode cJI_numberOfTrailingZeros 55 = .ok (.iinc 1 4, 3) := by decide +kernel
theorem dJI_numberOfTrailingZeros_58 : decode cJI_numberOfTrailingZeros 58 = .ok (.iload_n 0, 1) := by decide +kernel
theorem dJI_numberOfTrailingZeros_59 : decode cJI_numberOfTrailingZeros 59 = .ok (.iconst 4, 1) := by decide +kernel
theorem dJI_numberOfTrailingZeros_60 : decode cJI_numberOfTrailingZeros 60 = .ok (.iushr, 1) := by decide +kernel
theorem dJI_numberOfTrailingZeros_61 : decode cJI_numberOfTrailingZeros 61 = .ok (.istore_n 0, 1) := by decide +kernel
theorem dJI_numberOfTrailingZeros_62 : decode cJI_numberOfTrailingZeros 62 = .ok (.iload_n 0, 1) := by decide +kernel
theorem dJI_numberOfTrailingZeros_63 : decode cJI_numberOfTrailingZeros 63 = .ok (.iconst 4, 1) := by decide +kernel
theorem dJI_numberOfTrailingZeros_64 : decode cJI_numberOfTrailingZeros 64 = .ok (.if_icmp .le 10, 3) := by decide +kernel
theorem dJI_numberOfTrailingZeros_67 : decode cJI_numberOfTrailingZeros 67 = .ok (.iinc 1 2, 3) := by decide +kernel
theorem dJI_numberOfTrailingZeros_70 : decode cJI_numberOfTrailingZeros 70 = .ok (.iload_n 0, 1) := by decide +kernel
theorem dJI_numberOfTrailingZeros_71 : decode cJI_numberOfTrailingZeros 71 = .ok (.iconst 2, 1) := by decide +kernel
theorem dJI_numberOfTrailingZeros_72 : decode cJI_numberOfTrailingZeros 72 = .ok (.iushr, 1) := by decide +kernel
theorem dJI_numberOfTrailingZeros_73 : decode cJI_numberOfTrailingZeros 73 = .ok (.istore_n 0, 1) := by decide +kernel
theorem dJI_numberOfTrailingZeros_74 : decode cJI_numberOfTrailingZeros 74 = .ok (.iload_n 1, 1) := by decide +kernel
theorem dJI_numberOfTrailingZeros_75 : decode cJI_numberOfTrailingZeros 75 = .ok (.iload_n 0, 1) := by decide +kernel
theorem dJI_numberOfTrailingZeros_76 : decode cJI_numberOfTrailingZeros 76 = .ok (.iconst 1, 1) := by decide +kernel
theorem dJI_numberOfTrailingZeros_77 : decode cJI_numberOfTrailingZeros 77 = .ok (.iushr, 1) := by decide +kernel
theorem dJI_numberOfTrailingZeros_78 : decode cJI_numberOfTrailingZeros 78 = .ok (.iadd, 1) := by decide +kernel
theorem dJI_numberOfTrailingZeros_79 : decode cJI_numberOfTrailingZeros 79 = .ok (.ireturn, 1) := by decide +kernel
end
section
/-! PURE ROWS of the search: bits, clauses as two masks, reasons, leaps. No machine here. -/
section YPURE
/-- bit i of an int -/
def yb (x : Int32) (i : Nat) : Bool := x.toBitVec.getLsbD i
theorem yb_or (x y : Int32) (i : Nat) : yb (x ||| y) i = (yb x i || yb y i) := by unfold yb; rw [Int32.toBitVec_or, BitVec.getLsbD_or]
theorem yb_and (x y : Int32) (i : Nat) : yb (x &&& y) i = (yb x i && yb y i) := by unfold yb; rw [Int32.toBitVec_and, BitVec.getLsbD_and]
theorem yb_xor (x y : Int32) (i : Nat) : yb (x ^^^ y) i = (yb x i ^^ yb y i) := by unfold yb; rw [Int32.toBitVec_xor, BitVec.getLsbD_xor]
theorem yb_big {x : Int32} {i : Nat} (h : 32 ≤ i) : yb x i = false := BitVec.getLsbD_of_ge _ _ h
theorem yb_lt {x : Int32} {i : Nat} (h : yb x i = true) : i < 32 := by
  rcases Nat.lt_or_ge i 32 with q | q
  · exact q
  · rw [yb_big q] at h; cases h
theorem yb_m1 : ∀ i, i < 32 → yb (-1) i = true := by decide +kernel
theorem yb_0 (i : Nat) : yb 0 i = false := BitVec.getLsbD_zero
theorem yb_ext {x y : Int32} (h : ∀ i, i < 32 → yb x i = yb y i) : x = y := Int32.toBitVec_inj.mp (BitVec.eq_of_getLsbD_eq (fun i hi => h i hi))
theorem yb_nI (a : Nat) {i : Nat} (h : i < 32) : yb (nI a) i = a.testBit i := by
  show (BitVec.ofNat 32 a).getLsbD i = _
  rw [BitVec.getLsbD_ofNat]
  simp [h]
theorem yb_not (x : Int32) {i : Nat} (h : i < 32) : yb (x ^^^ (-1)) i = !(yb x i) := by
  rw [yb_xor, yb_m1 i h]
  cases yb x i <;> rfl
theorem yb_z {x : Int32} : x = 0 ↔ ∀ i, i < 32 → yb x i = false := by
  constructor
  · intro h i _
    rw [h]; exact yb_0 i
  · intro h
    exact yb_ext (fun i hi => by rw [h i hi, yb_0])
theorem yb_one : ∀ v, v < 18 → ∀ i, i < 32 → yb ((1 : Int32) <<< (nI v &&& 31)) i = decide (i = v) := by decide +kernel
theorem yb_neg1 : ∀ v, v < 18 → ∀ i, i < 32 → yb (-((1 : Int32) <<< (nI v &&& 31))) i = decide (v ≤ i) := by decide +kernel
theorem yb_m2 : ∀ v, v < 18 → ∀ i, i < 32 → yb ((-2 : Int32) <<< (nI v &&& 31)) i = decide (v < i) := by decide +kernel
theorem yb_high : ∀ i, i < 32 → yb 262143 i = decide (i < 18) := by decide +kernel
/-- a mask of the 18 variables -/
def ym (x : Int32) : Prop := ∀ i, 18 ≤ i → yb x i = false
theorem ym_0 : ym 0 := fun i _ => yb_0 i
theorem ym_or {x y : Int32} (hx : ym x) (hy : ym y) : ym (x ||| y) := fun i hi => by rw [yb_or, hx i hi, hy i hi]; rfl
theorem ym_lt {x : Int32} (h : ym x) {i : Nat} (hi : yb x i = true) : i < 18 := by
  rcases Nat.lt_or_ge i 18 with q | q
  · exact q
  · rw [h i q] at hi; cases hi
/-- the clause of the masks y (literals v) and n (literals -v) is true in the assignment a -/
def ycl (y n : Int32) (a : Nat) : Prop := ∃ i, (yb y i = true ∧ a.testBit i = true) ∨ (yb n i = true ∧ a.testBit i = false)
theorem ycl_or {y n y' n' : Int32} {a : Nat} : ycl (y ||| y') (n ||| n') a ↔ ycl y n a ∨ ycl y' n' a := by
  unfold ycl
  constructor
  · rintro ⟨i, ⟨h, ha⟩ | ⟨h, ha⟩⟩
    · rw [yb_or] at h
      rcases Bool.or_eq_true_iff.mp h with q | q
      · exact Or.inl ⟨i, Or.inl ⟨q, ha⟩⟩
      · exact Or.inr ⟨i, Or.inl ⟨q, ha⟩⟩
    · rw [yb_or] at h
      rcases Bool.or_eq_true_iff.mp h with q | q
      · exact Or.inl ⟨i, Or.inr ⟨q, ha⟩⟩
      · exact Or.inr ⟨i, Or.inr ⟨q, ha⟩⟩
  · rintro (⟨i, ⟨h, ha⟩ | ⟨h, ha⟩⟩ | ⟨i, ⟨h, ha⟩ | ⟨h, ha⟩⟩)
    · exact ⟨i, Or.inl ⟨by rw [yb_or, h]; rfl, ha⟩⟩
    · exact ⟨i, Or.inr ⟨by rw [yb_or, h]; rfl, ha⟩⟩
    · exact ⟨i, Or.inl ⟨by rw [yb_or, h, Bool.or_true], ha⟩⟩
    · exact ⟨i, Or.inr ⟨by rw [yb_or, h, Bool.or_true], ha⟩⟩
theorem ycl_0 {a : Nat} : ¬ ycl 0 0 a := by
  rintro ⟨i, ⟨h, -⟩ | ⟨h, -⟩⟩ <;> (rw [yb_0] at h; cases h)
/-- the program's own test of a clause -/
theorem ycl_test {y n : Int32} {a : Nat} (hy : ym y) (hn : ym n) : ((y &&& nI a) ||| (n &&& (nI a ^^^ (-1)))) = 0 ↔ ¬ ycl y n a := by
  rw [yb_z]
  constructor
  · rintro h ⟨i, ⟨h1, h2⟩ | ⟨h1, h2⟩⟩
    · have hi := yb_lt h1
      have := h i hi
      rw [yb_or, yb_and, yb_nI a hi, h1, h2] at this
      cases this
    · have hi := yb_lt h1
      have := h i hi
      rw [yb_or, yb_and, yb_and, yb_not _ hi, yb_nI a hi, h1, h2, Bool.and_false] at this
      cases this
  · intro h i hi
    rw [yb_or, yb_and, yb_and, yb_not _ hi, yb_nI a hi]
    have n1 : ¬ (yb y i = true ∧ a.testBit i = true) := fun q => h ⟨i, Or.inl q⟩
    have n2 : ¬ (yb n i = true ∧ a.testBit i = false) := fun q => h ⟨i, Or.inr q⟩
    revert n1 n2
    cases yb y i <;> cases yb n i <;> cases a.testBit i <;> simp
/-- numbers by their bits -/
theorem y_hi : ∀ (k a c : Nat), a < 2 ^ k → c < 2 ^ k → a < c → ∃ i, a.testBit i = false ∧ c.testBit i = true ∧ ∀ j, i < j → a.testBit j = c.testBit j := by
  intro k
  induction k with
  | zero => intro a c h1 h2 h3; simp at h1 h2; omega
  | succ k ih =>
    intro a c h1 h2 h3
    rw [Nat.pow_succ] at h1 h2
    rcases Nat.lt_or_ge (a / 2) (c / 2) with q | q
    · obtain ⟨i, p1, p2, p3⟩ := ih (a / 2) (c / 2) (by omega) (by omega) q
      refine ⟨i + 1, by rw [Nat.testBit_succ]; exact p1, by rw [Nat.testBit_succ]; exact p2, ?_⟩
      intro j hj
      cases j with
      | zero => omega
      | succ j => rw [Nat.testBit_succ, Nat.testBit_succ]; exact p3 j (by omega)
    · have e : a / 2 = c / 2 := by omega
      refine ⟨0, ?_, ?_, ?_⟩
      · rw [Nat.testBit_zero]; simp; omega
      · rw [Nat.testBit_zero]; simp; omega
      · intro j hj
        cases j with
        | zero => omega
        | succ j => rw [Nat.testBit_succ, Nat.testBit_succ, e]
theorem y_lo {a c i : Nat} (ha : a < 262144) (hc : c < 262144) (h1 : a.testBit i = false) (h2 : c.testBit i = true) (h3 : ∀ j, i < j → a.testBit j = c.testBit j) : a < c := by
  rcases Nat.lt_trichotomy a c with q | q | q
  · exact q
  · rw [q, h2] at h1; cases h1
  · exfalso
    obtain ⟨k, p1, p2, p3⟩ := y_hi 18 c a (by omega) (by omega) q
    rcases Nat.lt_trichotomy i k with z | z | z
    · rw [h3 k z, p1] at p2; cases p2
    · rw [← z, h1] at p2; cases p2
    · rw [← p3 i z, h2] at h1; cases h1
theorem y_tb {a i : Nat} (h : a < 262144) (hi : 18 ≤ i) : a.testBit i = false :=
  Nat.testBit_lt_two_pow (Nat.lt_of_lt_of_le h (Nat.pow_le_pow_right (by omega : 2 > 0) hi : 2 ^ 18 ≤ 2 ^ i))
/-- an int whose bits from 18 on are 0 is a number of 18 bits -/
theorem ym_nat {x : Int32} (h : ym x) : ∃ c, c < 262144 ∧ x = nI c ∧ ∀ i, c.testBit i = yb x i := by
  refine ⟨x.toBitVec.toNat, ?_, ?_, fun i => ?_⟩
  · exact Nat.lt_pow_two_of_testBit (n := 18) _ (fun i hi => h i hi)
  · apply Int32.toBitVec_inj.1
    show x.toBitVec = BitVec.ofNat 32 x.toBitVec.toNat
    simp
  · rfl
/-- the reason of the variable v that is 1 in c: higher literals, all false in c; who is in G has v at 1, or one of them -/
def yR (G : Nat → Prop) (c v : Nat) (y n : Int32) : Prop :=
  (∀ i, yb y i = true → v < i ∧ i < 18 ∧ c.testBit i = false) ∧ (∀ i, yb n i = true → v < i ∧ i < 18 ∧ c.testBit i = true) ∧ ∀ a, G a → a.testBit v = true ∨ ycl y n a
def yRI (G : Nat → Prop) (c : Nat) (rY rN : Nat → Int32) : Prop := ∀ v, v < 18 → c.testBit v = true → yR G c v (rY v) (rN v)
/-- the rest clause of a leap at v -/
def yLI (G : Nat → Prop) (c v : Nat) (y n : Int32) : Prop :=
  (∀ i, yb y i = true → v ≤ i ∧ i < 18 ∧ c.testBit i = false) ∧ (∀ i, yb n i = true → v ≤ i ∧ i < 18 ∧ c.testBit i = true) ∧ ∀ a, G a → ycl y n a
theorem yLI_0 {G : Nat → Prop} {c : Nat} {y n : Int32} (hy : ym y) (hn : ym n) (hf : ¬ ycl y n c) (hG : ∀ a, G a → ycl y n a) : yLI G c 0 y n := by
  refine ⟨fun i h => ⟨Nat.zero_le _, ym_lt hy h, ?_⟩, fun i h => ⟨Nat.zero_le _, ym_lt hn h, ?_⟩, hG⟩
  · cases h3 : c.testBit i
    · rfl
    · exact absurd ⟨i, Or.inl ⟨h, h3⟩⟩ hf
  · cases h3 : c.testBit i
    · exact absurd ⟨i, Or.inr ⟨h, h3⟩⟩ hf
    · rfl
theorem yLI_skip {G : Nat → Prop} {c v : Nat} {y n : Int32} (h : yLI G c v y n) (h1 : ¬ yb y v = true) (h2 : ¬ yb n v = true) : yLI G c (v + 1) y n := by
  obtain ⟨a1, a2, a3⟩ := h
  refine ⟨fun i q => ?_, fun i q => ?_, a3⟩
  · obtain ⟨b1, b2, b3⟩ := a1 i q
    refine ⟨?_, b2, b3⟩
    rcases Nat.lt_or_ge v i with z | z
    · exact z
    · exact absurd ((show i = v by omega) ▸ q) h1
  · obtain ⟨b1, b2, b3⟩ := a2 i q
    refine ⟨?_, b2, b3⟩
    rcases Nat.lt_or_ge v i with z | z
    · exact z
    · exact absurd ((show i = v by omega) ▸ q) h2
theorem yLI_end {G : Nat → Prop} {c : Nat} {y n : Int32} (h : yLI G c 18 y n) : ∀ a, ¬ G a := by
  intro a ha
  obtain ⟨i, ⟨q, -⟩ | ⟨q, -⟩⟩ := h.2.2 a ha
  · have := h.1 i q; omega
  · have := h.2.1 i q; omega
theorem yb_at {x : Int32} {v : Nat} (hv : v < 18) : x &&& ((1 : Int32) <<< (nI v &&& 31)) = 0 ↔ ¬ yb x v = true := by
  rw [yb_z]
  constructor
  · intro h q
    have := h v (by omega)
    rw [yb_and, yb_one v hv v (by omega), q] at this
    simp at this
  · intro h i hi
    rw [yb_and, yb_one v hv i hi]
    by_cases e : i = v
    · subst e
      cases q : yb x i
      · rfl
      · exact absurd q h
    · simp [e]
theorem yb_less {x : Int32} {v i : Nat} (hv : v < 18) : yb (x &&& (((1 : Int32) <<< (nI v &&& 31)) ^^^ (-1))) i = true ↔ yb x i = true ∧ i ≠ v := by
  rcases Nat.lt_or_ge i 32 with hi | hi
  · rw [yb_and, yb_not _ hi, yb_one v hv i hi]
    by_cases e : i = v
    · simp [e]
    · simp [e]
  · rw [yb_big hi, yb_big hi]; simp
theorem yLI_res {G : Nat → Prop} {c v : Nat} {y n : Int32} {rY rN : Nat → Int32} (hv : v < 18) (h : yLI G c v y n) (hR : yRI G c rY rN) (h1 : ¬ yb y v = true) (h2 : yb n v = true) :
    yLI G c (v + 1) (y ||| rY v) ((n &&& (((1 : Int32) <<< (nI v &&& 31)) ^^^ (-1))) ||| rN v) := by
  obtain ⟨a1, a2, a3⟩ := h
  obtain ⟨r1, r2, r3⟩ := hR v hv (a2 v h2).2.2
  refine ⟨fun i q => ?_, fun i q => ?_, fun a ha => ?_⟩
  · rw [yb_or] at q
    rcases Bool.or_eq_true_iff.mp q with z | z
    · obtain ⟨b1, b2, b3⟩ := a1 i z
      refine ⟨?_, b2, b3⟩
      rcases Nat.lt_or_ge v i with w | w
      · exact w
      · exact absurd ((show i = v by omega) ▸ z) h1
    · exact r1 i z
  · rw [yb_or] at q
    rcases Bool.or_eq_true_iff.mp q with z | z
    · obtain ⟨z1, z2⟩ := (yb_less hv).mp z
      obtain ⟨b1, b2, b3⟩ := a2 i z1
      exact ⟨by omega, b2, b3⟩
    · exact r2 i z
  · rw [ycl_or]
    rcases r3 a ha with q | q
    · left
      obtain ⟨i, ⟨z, w⟩ | ⟨z, w⟩⟩ := a3 a ha
      · exact ⟨i, Or.inl ⟨z, w⟩⟩
      · refine ⟨i, Or.inr ⟨(yb_less hv).mpr ⟨z, ?_⟩, w⟩⟩
        intro e
        rw [e, q] at w
        cases w
    · exact Or.inr q
/-- the leap: the variable v goes from 0 to 1, all lower ones to 0 -/
theorem yLI_leap {G : Nat → Prop} {c v : Nat} {y n : Int32} {rY rN : Nat → Int32} (hc : c < 262144) (hv : v < 18) (h : yLI G c v y n) (hR : yRI G c rY rN) (h1 : yb y v = true) :
    ∃ c', c' < 262144 ∧ c < c' ∧ (nI c ||| ((1 : Int32) <<< (nI v &&& 31))) &&& (-((1 : Int32) <<< (nI v &&& 31))) = nI c' ∧ (∀ i, i < v → c'.testBit i = false) ∧ yRI G c' (upd rY v (y &&& (((1 : Int32) <<< (nI v &&& 31)) ^^^ (-1)))) (upd rN v n) := by
  obtain ⟨a1, a2, a3⟩ := h
  have hcv := (a1 v h1).2.2
  have hb : ∀ i, yb ((nI c ||| ((1 : Int32) <<< (nI v &&& 31))) &&& (-((1 : Int32) <<< (nI v &&& 31)))) i = (decide (v ≤ i) && (c.testBit i || decide (i = v))) := by
    intro i
    rcases Nat.lt_or_ge i 32 with hi | hi
    · rw [yb_and, yb_or, yb_nI c hi, yb_one v hv i hi, yb_neg1 v hv i hi, Bool.and_comm]
    · rw [yb_big hi, y_tb hc (by omega), decide_eq_false (by omega : ¬ i = v)]; simp
  obtain ⟨c', q1, q2, q3⟩ := ym_nat (x := (nI c ||| ((1 : Int32) <<< (nI v &&& 31))) &&& (-((1 : Int32) <<< (nI v &&& 31)))) (fun i hi => by
    rw [hb, y_tb hc hi, decide_eq_false (by omega : ¬ i = v)]; simp)
  have hb' : ∀ i, c'.testBit i = (decide (v ≤ i) && (c.testBit i || decide (i = v))) := fun i => by rw [q3, hb]
  have hgt : ∀ i, v < i → c'.testBit i = c.testBit i := fun i hi => by
    rw [hb', decide_eq_true (by omega : v ≤ i), decide_eq_false (by omega : ¬ i = v)]; simp
  have hvv : c'.testBit v = true := by rw [hb']; simp
  refine ⟨c', q1, y_lo hc q1 hcv hvv (fun j hj => (hgt j hj).symm), q2, fun i hi => by rw [hb', decide_eq_false (by omega : ¬ v ≤ i)]; rfl, ?_⟩
  intro u hu hcu
  rcases Nat.lt_trichotomy u v with z | z | z
  · rw [hb', decide_eq_false (by omega : ¬ v ≤ u)] at hcu
    cases hcu
  · subst z
    rw [pk_us, pk_us]
    refine ⟨fun i q => ?_, fun i q => ?_, fun a ha => ?_⟩
    · obtain ⟨z1, z2⟩ := (yb_less hv).mp q
      obtain ⟨b1, b2, b3⟩ := a1 i z1
      have : u < i := by omega
      exact ⟨this, b2, by rw [hgt i this]; exact b3⟩
    · obtain ⟨b1, b2, b3⟩ := a2 i q
      have : u < i := by
        rcases Nat.lt_or_ge u i with w | w
        · exact w
        · rw [show i = u by omega, hcv] at b3; cases b3
      exact ⟨this, b2, by rw [hgt i this]; exact b3⟩
    · obtain ⟨i, ⟨z, w⟩ | ⟨z, w⟩⟩ := a3 a ha
      · by_cases e : i = u
        · rw [e] at w; exact Or.inl w
        · exact Or.inr ⟨i, Or.inl ⟨(yb_less hv).mpr ⟨z, e⟩, w⟩⟩
      · exact Or.inr ⟨i, Or.inr ⟨z, w⟩⟩
  · rw [pk_un (by omega), pk_un (by omega)]
    rw [hgt u z] at hcu
    obtain ⟨r1, r2, r3⟩ := hR u hu hcu
    refine ⟨fun i q => ?_, fun i q => ?_, r3⟩
    · obtain ⟨b1, b2, b3⟩ := r1 i q
      exact ⟨b1, b2, by rw [hgt i (by omega)]; exact b3⟩
    · obtain ⟨b1, b2, b3⟩ := r2 i q
      exact ⟨b1, b2, by rw [hgt i (by omega)]; exact b3⟩
/-- who is in G is not below c -/
theorem yRI_least {G : Nat → Prop} {c : Nat} {rY rN : Nat → Int32} (hc : c < 262144) (hR : yRI G c rY rN) {a : Nat} (ha : G a) : c ≤ a := by
  rcases Nat.lt_or_ge a c with q | q
  · exfalso
    obtain ⟨i, p1, p2, p3⟩ := y_hi 18 a c (by omega) (by omega) q
    have hi : i < 18 := by
      rcases Nat.lt_or_ge i 18 with z | z
      · exact z
      · rw [y_tb hc z] at p2; cases p2
    obtain ⟨r1, r2, r3⟩ := hR i hi p2
    rcases r3 a ha with z | ⟨j, ⟨z, w⟩ | ⟨z, w⟩⟩
    · rw [p1] at z; cases z
    · have b := r1 j z
      rw [p3 j b.1, b.2.2] at w; cases w
    · have b := r2 j z
      rw [p3 j b.1, b.2.2] at w; cases w
  · exact q
/-- the reasons at the start -/
theorem yb_start {st v i : Nat} (hv : v < 18) (hs : st < 262144) : yb ((262143 &&& (nI st ^^^ (-1))) &&& ((-2 : Int32) <<< (nI v &&& 31))) i = true ↔ i < 18 ∧ v < i ∧ st.testBit i = false := by
  rcases Nat.lt_or_ge i 32 with hi | hi
  · rw [yb_and, yb_and, yb_high i hi, yb_not _ hi, yb_nI st hi, yb_m2 v hv i hi]
    cases st.testBit i <;> simp <;> omega
  · rw [yb_big hi]; simp; omega
theorem yRI_start {G : Nat → Prop} {st : Nat} {rY rN : Nat → Int32} (hs : st < 262144) (hG : ∀ a, G a → st ≤ a ∧ a < 262144) (h : ∀ v, v < 18 → rY v = (262143 &&& (nI st ^^^ (-1))) &&& ((-2 : Int32) <<< (nI v &&& 31)) ∧ rN v = 0) : yRI G st rY rN := by
  intro v hv hsv
  rw [(h v hv).1, (h v hv).2]
  refine ⟨fun i q => ?_, fun i q => (by rw [yb_0] at q; cases q), fun a ha => ?_⟩
  · obtain ⟨b1, b2, b3⟩ := (yb_start hv hs).mp q
    exact ⟨b2, b1, b3⟩
  · obtain ⟨g1, g2⟩ := hG a ha
    rcases Nat.lt_or_ge st a with q | q
    · obtain ⟨i, p1, p2, p3⟩ := y_hi 18 st a (by omega) (by omega) q
      rcases Nat.lt_trichotomy i v with z | z | z
      · left; rw [← p3 v z]; exact hsv
      · rw [z, hsv] at p1; cases p1
      · right
        have hi : i < 18 := by
          rcases Nat.lt_or_ge i 18 with w | w
          · exact w
          · rw [y_tb g2 w] at p2; cases p2
        exact ⟨i, Or.inl ⟨(yb_start hv hs).mpr ⟨hi, z, p1⟩, p2⟩⟩
    · left; rw [show a = st by omega]; exact hsv
/-- r is the least number from st on (under 2^18) with P, or -1 without one -/
def yL (P : Nat → Prop) (st : Nat) (r : Int32) : Prop := (r = -1 ∧ ∀ a, st ≤ a → a < 262144 → ¬ P a) ∨ ∃ c, r = nI c ∧ st ≤ c ∧ c < 262144 ∧ P c ∧ ∀ a, st ≤ a → a < c → ¬ P a
theorem y_m1 {c : Nat} (h : c < 2 ^ 31) : ¬ nI c = -1 := by
  intro q
  have := nI_pos h
  rw [q] at this
  exact this (by decide)
theorem yL_uniq {P P' : Nat → Prop} {st : Nat} {r r' : Int32} (hp : ∀ a, a < 262144 → (P a ↔ P' a)) (h : yL P st r) (h' : yL P' st r') : r = r' := by
  rcases h with ⟨h1, h2⟩ | ⟨c, h1, h2, h3, h4, h5⟩ <;> rcases h' with ⟨g1, g2⟩ | ⟨d, g1, g2, g3, g4, g5⟩
  · rw [h1, g1]
  · exact absurd ((hp d g3).mpr g4) (h2 d g2 g3)
  · exact absurd ((hp c h3).mp h4) (g2 c h2 h3)
  · have e : c = d := by
      rcases Nat.lt_trichotomy c d with z | z | z
      · exact absurd ((hp c h3).mp h4) (g5 c h2 z)
      · exact z
      · exact absurd ((hp d g3).mpr g4) (h5 d g2 z)
    rw [h1, g1, e]
theorem yL_ne {P : Nat → Prop} {st : Nat} {r : Int32} (h : yL P st r) : (¬ r = -1) ↔ ∃ a, st ≤ a ∧ a < 262144 ∧ P a := by
  rcases h with ⟨h1, h2⟩ | ⟨c, h1, h2, h3, h4, h5⟩
  · constructor
    · intro q; exact absurd h1 q
    · rintro ⟨a, q1, q2, q3⟩; exact absurd q3 (h2 a q1 q2)
  · constructor
    · intro _; exact ⟨c, h2, h3, h4⟩
    · intro _; rw [h1]; exact y_m1 (by omega)
/-- literals as masks, as the program makes them -/
def yYes (x : Int32) : Int32 := if 0 < x then (1 : Int32) <<< ((x - 1) &&& 31) else 0
def yNo (x : Int32) : Int32 := if x < 0 then (1 : Int32) <<< ((-x - 1) &&& 31) else 0
/-- a literal: 1 .. 18, -18 .. -1 -/
def yLit (x : Int32) : Prop := ∃ v, v < 18 ∧ (x = nI (v + 1) ∨ x = -nI (v + 1))
theorem yYes_p : ∀ v, v < 18 → yYes (nI (v + 1)) = (1 : Int32) <<< (nI v &&& 31) ∧ yNo (nI (v + 1)) = 0 := by decide +kernel
theorem yYes_n : ∀ v, v < 18 → yNo (-nI (v + 1)) = (1 : Int32) <<< (nI v &&& 31) ∧ yYes (-nI (v + 1)) = 0 := by decide +kernel
theorem ym_one {v : Nat} (hv : v < 18) : ym ((1 : Int32) <<< (nI v &&& 31)) := by
  intro i hi
  rcases Nat.lt_or_ge i 32 with q | q
  · rw [yb_one v hv i q, decide_eq_false (by omega)]
  · exact yb_big q
theorem yLit_m {x : Int32} (h : yLit x) : ym (yYes x) ∧ ym (yNo x) := by
  obtain ⟨v, hv, rfl | rfl⟩ := h
  · rw [(yYes_p v hv).1, (yYes_p v hv).2]; exact ⟨ym_one hv, ym_0⟩
  · rw [(yYes_n v hv).1, (yYes_n v hv).2]; exact ⟨ym_0, ym_one hv⟩
theorem yLit_p {v a : Nat} (hv : v < 18) : ycl (yYes (nI (v + 1))) (yNo (nI (v + 1))) a ↔ a.testBit v = true := by
  rw [(yYes_p v hv).1, (yYes_p v hv).2]
  constructor
  · rintro ⟨i, ⟨h, ha⟩ | ⟨h, ha⟩⟩
    · rw [yb_one v hv i (yb_lt h)] at h
      rw [← of_decide_eq_true h]; exact ha
    · rw [yb_0] at h; cases h
  · intro h
    exact ⟨v, Or.inl ⟨by rw [yb_one v hv v (by omega)]; simp, h⟩⟩
theorem yLit_n {v a : Nat} (hv : v < 18) : ycl (yYes (-nI (v + 1))) (yNo (-nI (v + 1))) a ↔ a.testBit v = false := by
  rw [(yYes_n v hv).1, (yYes_n v hv).2]
  constructor
  · rintro ⟨i, ⟨h, ha⟩ | ⟨h, ha⟩⟩
    · rw [yb_0] at h; cases h
    · rw [yb_one v hv i (yb_lt h)] at h
      rw [← of_decide_eq_true h]; exact ha
  · intro h
    exact ⟨v, Or.inr ⟨by rw [yb_one v hv v (by omega)]; simp, h⟩⟩
theorem yLit_of {x : Int32} (h0 : ¬ x = 0) (h1 : ¬ x < -18) (h2 : ¬ 18 < x) : yLit x := by
  rw [Int32.lt_iff_toInt_lt] at h1 h2
  have e1 : (-18 : Int32).toInt = -18 := by decide +kernel
  have e2 : (18 : Int32).toInt = 18 := by decide +kernel
  rw [e1] at h1
  rw [e2] at h2
  have hz : ¬ x.toInt = 0 := fun q => h0 (Int32.toInt_inj.mp (by rw [q]; decide +kernel))
  have hn : ∀ v, v < 18 → (nI (v + 1)).toInt = (v + 1 : Nat) ∧ (-nI (v + 1)).toInt = -((v + 1 : Nat) : Int) := by decide +kernel
  rcases Int.lt_or_le 0 x.toInt with q | q
  · refine ⟨x.toInt.toNat - 1, by omega, Or.inl (Int32.toInt_inj.mp ?_)⟩
    rw [(hn (x.toInt.toNat - 1) (by omega)).1]; omega
  · refine ⟨(-x.toInt).toNat - 1, by omega, Or.inr (Int32.toInt_inj.mp ?_)⟩
    rw [(hn ((-x.toInt).toNat - 1) (by omega)).2]; omega
theorem yLit_b : ∀ v, v < 18 → ¬ nI (v + 1) = 0 ∧ ¬ nI (v + 1) < -18 ∧ ¬ 18 < nI (v + 1) ∧ ¬ -nI (v + 1) = 0 ∧ ¬ -nI (v + 1) < -18 ∧ ¬ 18 < -nI (v + 1) := by decide +kernel
theorem yLit_not {x : Int32} (h : yLit x) : ¬ x = 0 ∧ ¬ x < -18 ∧ ¬ 18 < x := by
  obtain ⟨v, hv, rfl | rfl⟩ := h
  · exact ⟨(yLit_b v hv).1, (yLit_b v hv).2.1, (yLit_b v hv).2.2.1⟩
  · exact ⟨(yLit_b v hv).2.2.2.1, (yLit_b v hv).2.2.2.2.1, (yLit_b v hv).2.2.2.2.2⟩
theorem yLit_neg {x : Int32} (h : yLit x) : yLit (-x) := by
  obtain ⟨v, hv, rfl | rfl⟩ := h
  · exact ⟨v, hv, Or.inr rfl⟩
  · exact ⟨v, hv, Or.inl (by rw [Int32.neg_neg])⟩
theorem yLit_negcl {x : Int32} (h : yLit x) {a : Nat} : ycl (yYes (-x)) (yNo (-x)) a ↔ ¬ ycl (yYes x) (yNo x) a := by
  obtain ⟨v, hv, rfl | rfl⟩ := h
  · rw [yLit_n hv, yLit_p hv]; cases a.testBit v <;> simp
  · rw [Int32.neg_neg, yLit_n hv, yLit_p hv]; cases a.testBit v <;> simp
/-- an int whose highest bit is 0 isn't negative -/
theorem y_nneg {x : Int32} (h : yb x 31 = false) : ¬ x < 0 := by
  intro q
  rw [Int32.lt_iff_toInt_lt, Int32.toInt_zero] at q
  have e : x.toInt = x.toBitVec.toInt := rfl
  rw [e, BitVec.toInt_eq_msb_cond, BitVec.msb_eq_getLsbD_last] at q
  rw [show x.toBitVec.getLsbD (32 - 1) = false from h] at q
  simp at q
  omega
theorem y_low {y n : Int32} (hy : ym y) (hn : ym n) (z : Int32) : ¬ ((y ||| n) &&& z) < 0 := by
  apply y_nneg
  rw [yb_and, yb_or, hy 31 (by omega), hn 31 (by omega)]; rfl
end YPURE
end
section
/-! PURE ROWS of the reference: words of 64 assignments -/
section ZPURE
def zb (x : Int64) (k : Nat) : Bool := x.toBitVec.getLsbD k
theorem zb_or (x y : Int64) (i : Nat) : zb (x ||| y) i = (zb x i || zb y i) := by unfold zb; rw [Int64.toBitVec_or, BitVec.getLsbD_or]
theorem zb_and (x y : Int64) (i : Nat) : zb (x &&& y) i = (zb x i && zb y i) := by unfold zb; rw [Int64.toBitVec_and, BitVec.getLsbD_and]
theorem zb_xor (x y : Int64) (i : Nat) : zb (x ^^^ y) i = (zb x i ^^ zb y i) := by unfold zb; rw [Int64.toBitVec_xor, BitVec.getLsbD_xor]
theorem zb_m1 : ∀ i, i < 64 → zb (-1) i = true := by decide +kernel
theorem zb_0 (i : Nat) : zb 0 i = false := BitVec.getLsbD_zero
theorem zb_ext {x y : Int64} (h : ∀ i, i < 64 → zb x i = zb y i) : x = y := Int64.toBitVec_inj.mp (BitVec.eq_of_getLsbD_eq (fun i hi => h i hi))
theorem zb_not (x : Int64) {i : Nat} (h : i < 64) : zb (x ^^^ (-1)) i = !(zb x i) := by
  rw [zb_xor, zb_m1 i h]
  cases zb x i <;> rfl
theorem zb_z {x : Int64} : x = 0 ↔ ∀ i, i < 64 → zb x i = false := by
  constructor
  · intro h i _
    rw [h]; exact zb_0 i
  · intro h
    exact zb_ext (fun i hi => by rw [h i hi, zb_0])
theorem zb_nz {x : Int64} : ¬ x = 0 ↔ ∃ i, i < 64 ∧ zb x i = true := by
  constructor
  · intro h
    refine Classical.byContradiction (fun q => h (zb_z.mpr (fun i hi => ?_)))
    cases z : zb x i
    · rfl
    · exact absurd ⟨i, hi, z⟩ q
  · rintro ⟨i, hi, h⟩ e
    rw [e, zb_0] at h; cases h
theorem zs_u : ∀ n, n < 64 → (((nI n).toInt64.toUInt64 &&& Int64.toUInt64 63).toBitVec % 64).toNat = n := by decide +kernel
theorem zb_ushr (n : Nat) (hn : n < 64) (x : Int64) (i : Nat) : zb ((x.toUInt64 >>> ((nI n).toInt64.toUInt64 &&& Int64.toUInt64 63)).toInt64) i = zb x (n + i) := by
  show (x.toUInt64 >>> ((nI n).toInt64.toUInt64 &&& Int64.toUInt64 63)).toBitVec.getLsbD i = x.toUInt64.toBitVec.getLsbD (n + i)
  rw [UInt64.toBitVec_shiftRight]
  show (x.toUInt64.toBitVec >>> (((nI n).toInt64.toUInt64 &&& Int64.toUInt64 63).toBitVec % 64).toNat).getLsbD i = _
  rw [zs_u n hn, BitVec.getLsbD_ushiftRight]
theorem zb_1 : ∀ i, i < 64 → zb 1 i = decide (i = 0) := by decide +kernel
theorem zb_lo (x : Int64) : x &&& 1 = if zb x 0 = true then 1 else 0 := by
  apply zb_ext
  intro i hi
  rw [zb_and, zb_1 i hi]
  by_cases e : i = 0
  · subst e
    cases h : zb x 0
    · simp [zb_0]
    · simp [zb_1 0 (by omega)]
  · cases h : zb x 0
    · simp [e, zb_0]
    · simp [e, zb_1 i hi]
/-- one bit of a word -/
theorem zb_bit {x : Int64} {k : Nat} (hk : k < 64) : (x.toUInt64 >>> ((nI k).toInt64.toUInt64 &&& Int64.toUInt64 63)).toInt64 &&& 1 = if zb x k = true then 1 else 0 := by
  rw [zb_lo, zb_ushr k hk, Nat.add_zero]
/-- bit v of 64 w + k -/
theorem z_lowbit {w k v : Nat} (hk : k < 64) (hv : v < 6) : (64 * w + k).testBit v = k.testBit v := by
  have := Nat.testBit_two_pow_mul_add w (b := k) (i := 6) (by omega) v
  rw [if_pos hv] at this
  exact this
theorem z_highbit {w k v : Nat} (hk : k < 64) (hv : 6 ≤ v) : (64 * w + k).testBit v = w.testBit (v - 6) := by
  have := Nat.testBit_two_pow_mul_add w (b := k) (i := 6) (by omega) v
  rw [if_neg (by omega)] at this
  exact this
theorem zs_l : ∀ n, n < 32 → ((nI n &&& 31).toBitVec.smod 32).toNat = n := by decide +kernel
theorem z_shr {n j : Nat} (hn : n < 2 ^ 31) (hj : j < 32) : (nI n >>> (nI j &&& 31)) &&& 1 = nI (n / 2 ^ j % 2) := by
  rw [pk_shrN hn _ j (zs_l j hj), pk_andN (m := 1) (Nat.lt_of_le_of_lt (Nat.div_le_self _ _) (by omega)) 1 (by decide)]
theorem z_bit1 {n j : Nat} (hn : n < 2 ^ 31) (hj : j < 32) : (nI n >>> (nI j &&& 31)) &&& 1 = 1 ↔ n.testBit j = true := by
  rw [z_shr hn hj, show (1 : Int32) = nI 1 from rfl, nI_eq (by omega) (by omega), Nat.testBit_eq_decide_div_mod_eq, decide_eq_true_iff]
/-- the constants of the words: bit v of the place in the word -/
def zIn (f : Nat → Int64) : Prop := ∀ v, v < 6 → ∀ k, k < 64 → zb (f v) k = k.testBit v
/-- bit k of x tells of assignment 64 w + k -/
def zW (P : Nat → Prop) (w : Nat) (x : Int64) : Prop := ∀ k, k < 64 → (zb x k = true ↔ P (64 * w + k))
theorem zW_not {P : Nat → Prop} {w : Nat} {x : Int64} (h : zW P w x) : zW (fun a => ¬ P a) w (x ^^^ (-1)) := fun k hk => by
  show zb (x ^^^ (-1)) k = true ↔ ¬ P (64 * w + k)
  rw [zb_not x hk, ← h k hk]
  cases zb x k <;> simp
theorem zW_iff {P P' : Nat → Prop} {w : Nat} {x : Int64} (hp : ∀ k, k < 64 → (P (64 * w + k) ↔ P' (64 * w + k))) (h : zW P w x) : zW P' w x := fun k hk => (h k hk).trans (hp k hk)
theorem zW_or {P P' : Nat → Prop} {w : Nat} {x y : Int64} (h : zW P w x) (h' : zW P' w y) : zW (fun a => P a ∨ P' a) w (x ||| y) := fun k hk => by
  rw [zb_or, Bool.or_eq_true_iff, h k hk, h' k hk]
theorem zW_and {P P' : Nat → Prop} {w : Nat} {x y : Int64} (h : zW P w x) (h' : zW P' w y) : zW (fun a => P a ∧ P' a) w (x &&& y) := fun k hk => by
  rw [zb_and, Bool.and_eq_true_iff, h k hk, h' k hk]
theorem zW_0 {w : Nat} : zW (fun _ => False) w 0 := fun k hk => by rw [zb_0]; simp
theorem zW_m1 {w : Nat} : zW (fun _ => True) w (-1) := fun k hk => by rw [zb_m1 k hk]; simp
theorem zW_z {P : Nat → Prop} {w : Nat} {x : Int64} (h : zW P w x) : x = 0 ↔ ∀ k, k < 64 → ¬ P (64 * w + k) := by
  rw [zb_z]
  constructor
  · intro q k hk z
    rw [← h k hk, q k hk] at z; cases z
  · intro q k hk
    cases z : zb x k
    · rfl
    · exact absurd ((h k hk).mp z) (q k hk)
/-- a literal's word: below 7 the constants, from 7 on all or none -/
theorem zW_low {f : Nat → Int64} (hf : zIn f) {v w : Nat} (hv : v < 6) : zW (fun a => a.testBit v = true) w (f v) := fun k hk => by
  show zb (f v) k = true ↔ (64 * w + k).testBit v = true
  rw [hf v hv k hk, z_lowbit hk hv]
theorem zW_hi1 {v w : Nat} (hv : 6 ≤ v) (h : w.testBit (v - 6) = true) : zW (fun a => a.testBit v = true) w (-1) := fun k hk => by
  show zb (-1) k = true ↔ (64 * w + k).testBit v = true
  rw [zb_m1 k hk, z_highbit hk hv, h]
theorem zW_hi0 {v w : Nat} (hv : 6 ≤ v) (h : ¬ w.testBit (v - 6) = true) : zW (fun a => a.testBit v = true) w 0 := fun k hk => by
  show zb 0 k = true ↔ (64 * w + k).testBit v = true
  rw [zb_0, z_highbit hk hv]
  constructor
  · intro q; cases q
  · intro q; exact absurd q h
theorem zW_p {v w : Nat} {x : Int64} (hv : v < 18) (h : zW (fun a => a.testBit v = true) w x) : zW (ycl (yYes (nI (v + 1))) (yNo (nI (v + 1)))) w x := zW_iff (fun k _ => (yLit_p hv).symm) h
theorem zW_n {v w : Nat} {x : Int64} (hv : v < 18) (h : zW (fun a => a.testBit v = true) w x) : zW (ycl (yYes (-nI (v + 1))) (yNo (-nI (v + 1)))) w (x ^^^ (-1)) := zW_iff (fun k _ => by
  rw [yLit_n hv]
  cases (64 * w + k).testBit v <;> simp) (zW_not h)
/-- the literal x is true in a -/
abbrev yT (x : Int32) (a : Nat) : Prop := ycl (yYes x) (yNo x) a
/-- the reference's clause c: sz literals of the list f from place 18 c on -/
def zC (f : Nat → Int32) (c sz : Nat) (a : Nat) : Prop := ∃ j, j < sz ∧ yT (f (18 * c + j)) a
/-- what a word of the reference tells: clauses by g, assumptions by f, but for one -/
def zP (f : Nat → Int32) (g : Nat → Int64) (an : Nat) (but : Int32) (a : Nat) : Prop := zb (g (a / 64)) (a % 64) = true ∧ ∀ j, j < an → ¬ nI j = but → yT (f j) a
theorem z_div {w k : Nat} (hk : k < 64) : (64 * w + k) / 64 = w ∧ (64 * w + k) % 64 = k := by omega
end ZPURE
end
section
/-! PURE ROWS of the search by blocks of 64 assignments: rows as two masks of high variables and a word of the low ones -/
section YBLOCK
/-- a mask of the high variables -/
def yh (x : Int32) : Prop := ∀ i, i < 6 ∨ 18 ≤ i → yb x i = false
theorem yh_0 : yh 0 := fun i _ => yb_0 i
theorem yh_m {x : Int32} (h : yh x) : ym x := fun i hi => h i (Or.inr hi)
theorem yh_in {x : Int32} (h : yh x) {i : Nat} (hi : yb x i = true) : 6 ≤ i ∧ i < 18 := by
  refine ⟨?_, ?_⟩
  · rcases Nat.lt_or_ge i 6 with q | q
    · rw [h i (Or.inl q)] at hi; cases hi
    · exact q
  · rcases Nat.lt_or_ge i 18 with q | q
    · exact q
    · rw [h i (Or.inr q)] at hi; cases hi
/-- a row is true: by its high literals, or by the word of its low ones -/
def scl (y n : Int32) (w : Int64) (a : Nat) : Prop := ycl y n a ∨ zb w (a % 64) = true
theorem yb_HIGH : ∀ i, i < 32 → yb 262080 i = decide (6 ≤ i ∧ i < 18) := by decide +kernel
theorem yh_and (x : Int32) : yh (x &&& 262080) := by
  intro i hi
  rcases Nat.lt_or_ge i 32 with q | q
  · rw [yb_and, yb_HIGH i q, decide_eq_false (by omega), Bool.and_false]
  · exact yb_big q
theorem yh_andL (x : Int32) : yh (262080 &&& x) := by
  intro i hi
  rcases Nat.lt_or_ge i 32 with q | q
  · rw [yb_and, yb_HIGH i q, decide_eq_false (by omega), Bool.false_and]
  · exact yb_big q
theorem y_hbit {b k i : Nat} (hb : b % 64 = 0) (hk : k < 64) (hi : 6 ≤ i) : (b + k).testBit i = b.testBit i := by
  have h1 := z_highbit (w := b / 64) hk hi
  have h0 := z_highbit (w := b / 64) (k := 0) (by omega) hi
  rw [show 64 * (b / 64) + k = b + k by omega] at h1
  rw [show 64 * (b / 64) + 0 = b by omega] at h0
  rw [h1, h0]
theorem y_lbit {a v : Nat} (hv : v < 6) : (a % 64).testBit v = a.testBit v := by
  have := z_lowbit (w := a / 64) (k := a % 64) (by omega) hv
  rw [show 64 * (a / 64) + a % 64 = a by omega] at this
  exact this.symm
theorem y_blow {b v : Nat} (hb : b % 64 = 0) (hv : v < 6) : b.testBit v = false := by
  rw [← y_lbit hv, hb, Nat.zero_testBit]
theorem y_mod64 {c : Nat} (h : ∀ i, i < 6 → c.testBit i = false) : c % 64 = 0 := by
  apply Nat.eq_of_testBit_eq
  intro i
  rw [Nat.zero_testBit]
  rcases Nat.lt_or_ge i 6 with q | q
  · rw [y_lbit q]; exact h i q
  · exact Nat.testBit_lt_two_pow (Nat.lt_of_lt_of_le (Nat.mod_lt _ (by omega)) (Nat.pow_le_pow_right (by omega : 2 > 0) q : 2 ^ 6 ≤ 2 ^ i))
theorem ycl_blk {y n : Int32} (hy : yh y) (hn : yh n) {b k : Nat} (hb : b % 64 = 0) (hk : k < 64) : ycl y n (b + k) ↔ ycl y n b := by
  unfold ycl
  constructor
  · rintro ⟨i, ⟨h, q⟩ | ⟨h, q⟩⟩
    · exact ⟨i, Or.inl ⟨h, by rw [← y_hbit hb hk (yh_in hy h).1]; exact q⟩⟩
    · exact ⟨i, Or.inr ⟨h, by rw [← y_hbit hb hk (yh_in hn h).1]; exact q⟩⟩
  · rintro ⟨i, ⟨h, q⟩ | ⟨h, q⟩⟩
    · exact ⟨i, Or.inl ⟨h, by rw [y_hbit hb hk (yh_in hy h).1]; exact q⟩⟩
    · exact ⟨i, Or.inr ⟨h, by rw [y_hbit hb hk (yh_in hn h).1]; exact q⟩⟩
/-- what is to blame: high literals, all false in the block b; who is in P makes one of them true, or is in the word g -/
def yBl (P : Nat → Prop) (b : Nat) (y n : Int32) (g : Int64) : Prop :=
  (∀ i, yb y i = true → 6 ≤ i ∧ i < 18 ∧ b.testBit i = false) ∧ (∀ i, yb n i = true → 6 ≤ i ∧ i < 18 ∧ b.testBit i = true) ∧ ∀ a, P a → ycl y n a ∨ zb g (a % 64) = true
theorem yBl_0 {P : Nat → Prop} {b : Nat} {g : Int64} (h : ∀ a, P a → zb g (a % 64) = true) : yBl P b 0 0 g :=
  ⟨fun i q => (by rw [yb_0] at q; cases q), fun i q => (by rw [yb_0] at q; cases q), fun a ha => Or.inr (h a ha)⟩
theorem y_false {y n : Int32} {b : Nat} (hy : yh y) (hn : yh n) (hf : ¬ ycl y n b) : (∀ i, yb y i = true → 6 ≤ i ∧ i < 18 ∧ b.testBit i = false) ∧ ∀ i, yb n i = true → 6 ≤ i ∧ i < 18 ∧ b.testBit i = true := by
  refine ⟨fun i h => ⟨(yh_in hy h).1, (yh_in hy h).2, ?_⟩, fun i h => ⟨(yh_in hn h).1, (yh_in hn h).2, ?_⟩⟩
  · cases h3 : b.testBit i
    · rfl
    · exact absurd ⟨i, Or.inl ⟨h, h3⟩⟩ hf
  · cases h3 : b.testBit i
    · exact absurd ⟨i, Or.inr ⟨h, h3⟩⟩ hf
    · rfl
theorem yBl_and {P : Nat → Prop} {b : Nat} {y n y' n' : Int32} {g w : Int64} (h : yBl P b y n g) (h1 : yh y') (h2 : yh n') (hf : ¬ ycl y' n' b) (hp : ∀ a, P a → scl y' n' w a) : yBl P b (y ||| y') (n ||| n') (g &&& w) := by
  obtain ⟨f1, f2⟩ := y_false h1 h2 hf
  refine ⟨fun i q => ?_, fun i q => ?_, fun a ha => ?_⟩
  · rw [yb_or] at q
    rcases Bool.or_eq_true_iff.mp q with z | z
    · exact h.1 i z
    · exact f1 i z
  · rw [yb_or] at q
    rcases Bool.or_eq_true_iff.mp q with z | z
    · exact h.2.1 i z
    · exact f2 i z
  · rw [ycl_or]
    rcases h.2.2 a ha with q | q
    · exact Or.inl (Or.inl q)
    · rcases hp a ha with z | z
      · exact Or.inl (Or.inr z)
      · exact Or.inr (by rw [zb_and, q, z]; rfl)
theorem yBl_new {P : Nat → Prop} {b : Nat} {y' n' : Int32} {g w : Int64} (h1 : yh y') (h2 : yh n') (hf : ¬ ycl y' n' b) (hp : ∀ a, P a → scl y' n' w a) (hw : w = 0) : yBl P b (0 ||| y') (0 ||| n') (g &&& w) := by
  have h := yBl_and (g := -1) (w := w) (yBl_0 (P := P) (b := b) (g := -1) (fun a _ => zb_m1 _ (by omega))) h1 h2 hf hp
  rw [hw] at h ⊢
  rw [show g &&& 0 = -1 &&& 0 from zb_ext (fun i hi => by rw [zb_and, zb_and, zb_0, Bool.and_false, Bool.and_false])]
  exact h
theorem yBl_end {P : Nat → Prop} {b : Nat} {y n : Int32} {g : Int64} (h : yBl P b y n g) (hg : g = 0) : yLI P b 6 y n :=
  ⟨h.1, h.2.1, fun a ha => (h.2.2 a ha).resolve_right (by rw [hg, zb_0]; simp)⟩
theorem yBl_mem {P : Nat → Prop} {b k : Nat} {y n : Int32} {g : Int64} (h : yBl P b y n g) (hb : b % 64 = 0) (hk : k < 64) (hp : P (b + k)) : zb g k = true := by
  rcases h.2.2 _ hp with q | q
  · exfalso
    obtain ⟨i, ⟨z, w⟩ | ⟨z, w⟩⟩ := q
    · have := h.1 i z
      rw [y_hbit hb hk this.1, this.2.2] at w; cases w
    · have := h.2.1 i z
      rw [y_hbit hb hk this.1, this.2.2] at w; cases w
  · rw [show (b + k) % 64 = k by omega] at q; exact q
theorem yLI_mono {P G : Nat → Prop} {b v : Nat} {y n : Int32} (h : yLI P b v y n) (hg : ∀ a, G a → P a) : yLI G b v y n := ⟨h.1, h.2.1, fun a ha => h.2.2 a (hg a ha)⟩
/-- the reasons of the high variables, be they at 1 or not -/
def yGR (G : Nat → Prop) (rY rN : Nat → Int32) : Prop := ∀ v, 6 ≤ v → v < 18 → (∀ i, yb (rY v) i = true → v < i ∧ i < 18) ∧ (∀ i, yb (rN v) i = true → v ≤ i ∧ i < 18) ∧ ∀ a, G a → a.testBit v = true ∨ ycl (rY v) (rN v) a
theorem yGR_leap {G : Nat → Prop} {c v : Nat} {y n : Int32} {rY rN : Nat → Int32} (hv : v < 18) (h : yLI G c v y n) (hG : yGR G rY rN) : yGR G (upd rY v (y &&& (((1 : Int32) <<< (nI v &&& 31)) ^^^ (-1)))) (upd rN v n) := by
  intro u h6 h18
  by_cases e : u = v
  · subst e
    rw [pk_us, pk_us]
    obtain ⟨a1, a2, a3⟩ := h
    refine ⟨fun i q => ?_, fun i q => ⟨(a2 i q).1, (a2 i q).2.1⟩, fun a ha => ?_⟩
    · obtain ⟨z1, z2⟩ := (yb_less hv).mp q
      have := a1 i z1
      exact ⟨by omega, this.2.1⟩
    · obtain ⟨i, ⟨z, w⟩ | ⟨z, w⟩⟩ := a3 a ha
      · by_cases e : i = u
        · rw [e] at w; exact Or.inl w
        · exact Or.inr ⟨i, Or.inl ⟨(yb_less hv).mpr ⟨z, e⟩, w⟩⟩
      · exact Or.inr ⟨i, Or.inr ⟨z, w⟩⟩
  · rw [pk_un e, pk_un e]; exact hG u h6 h18
theorem upd_same {f : Nat → Int32} {v : Nat} {x : Int32} (h : x = f v) : upd f v x = f := by
  funext j
  by_cases e : j = v
  · subst e; rw [pk_us, h]
  · rw [pk_un e]
theorem yb_bit {x : Int32} {v i : Nat} (hv : v < 18) : yb (x ||| ((1 : Int32) <<< (nI v &&& 31))) i = true ↔ yb x i = true ∨ i = v := by
  rcases Nat.lt_or_ge i 32 with hi | hi
  · rw [yb_or, yb_one v hv i hi, Bool.or_eq_true_iff, decide_eq_true_iff]
  · rw [yb_big hi, yb_big hi]
    constructor
    · intro q; cases q
    · rintro (q | q)
      · cases q
      · omega
/-- a variable at 0 whose reason is all false goes to 1, all lower ones to 0 -/
theorem yGR_set {G : Nat → Prop} {c v : Nat} {rY rN : Nat → Int32} (hc : c < 262144) (h6 : 6 ≤ v) (hv : v < 18) (hG : yGR G rY rN) (hR : yRI G c rY rN) (hf : ¬ ycl (rY v ||| ((1 : Int32) <<< (nI v &&& 31))) (rN v) c) :
    ∃ c', c' < 262144 ∧ c < c' ∧ (nI c ||| ((1 : Int32) <<< (nI v &&& 31))) &&& (-((1 : Int32) <<< (nI v &&& 31))) = nI c' ∧ (∀ i, i < v → c'.testBit i = false) ∧ yRI G c' rY rN := by
  obtain ⟨g1, g2, g3⟩ := hG v h6 hv
  have hL : yLI G c v (rY v ||| ((1 : Int32) <<< (nI v &&& 31))) (rN v) := by
    refine ⟨fun i q => ?_, fun i q => ?_, fun a ha => ?_⟩
    · have hi : v ≤ i ∧ i < 18 := by
        rcases (yb_bit hv).mp q with z | z
        · have := g1 i z; omega
        · omega
      refine ⟨hi.1, hi.2, ?_⟩
      cases h3 : c.testBit i
      · rfl
      · exact absurd ⟨i, Or.inl ⟨q, h3⟩⟩ hf
    · refine ⟨(g2 i q).1, (g2 i q).2, ?_⟩
      cases h3 : c.testBit i
      · exact absurd ⟨i, Or.inr ⟨q, h3⟩⟩ hf
      · rfl
    · rcases g3 a ha with z | ⟨i, ⟨p, w⟩ | ⟨p, w⟩⟩
      · exact ⟨v, Or.inl ⟨(yb_bit hv).mpr (Or.inr rfl), z⟩⟩
      · exact ⟨i, Or.inl ⟨(yb_bit hv).mpr (Or.inl p), w⟩⟩
      · exact ⟨i, Or.inr ⟨p, w⟩⟩
  obtain ⟨c', z1, z2, z3, z4, z5⟩ := yLI_leap hc hv hL hR ((yb_bit hv).mpr (Or.inr rfl))
  refine ⟨c', z1, z2, z3, z4, ?_⟩
  rw [upd_same (f := rY) (v := v), upd_same (f := rN) (v := v) rfl] at z5
  · exact z5
  · apply yb_ext
    intro i hi
    rw [Bool.eq_iff_iff, yb_less hv, yb_bit hv]
    constructor
    · rintro ⟨z | z, w⟩
      · exact z
      · exact absurd z w
    · intro z
      exact ⟨Or.inl z, by have := (g1 i z).1; omega⟩
/-- the reasons at the start -/
theorem yb_st1 {st v i : Nat} (hv : v < 18) : yb ((nI st ^^^ (-1)) &&& ((1 : Int32) <<< (nI v &&& 31))) i = true ↔ i = v ∧ st.testBit v = false := by
  rcases Nat.lt_or_ge i 32 with hi | hi
  · rw [yb_and, yb_not _ hi, yb_nI st hi, yb_one v hv i hi]
    by_cases e : i = v
    · subst e
      cases st.testBit i <;> simp
    · simp [e]
  · rw [yb_big hi]
    constructor
    · intro q; cases q
    · rintro ⟨q, -⟩; omega
theorem yGR_start {G : Nat → Prop} {st : Nat} {rY rN : Nat → Int32} (hs : st < 262144) (hG : ∀ a, G a → st ≤ a ∧ a < 262144) (h : ∀ v, 6 ≤ v → v < 18 → rY v = (262143 &&& (nI st ^^^ (-1))) &&& ((-2 : Int32) <<< (nI v &&& 31)) ∧ rN v = (nI st ^^^ (-1)) &&& ((1 : Int32) <<< (nI v &&& 31))) : yGR G rY rN := by
  intro v h6 hv
  rw [(h v h6 hv).1, (h v h6 hv).2]
  refine ⟨fun i q => ?_, fun i q => ?_, fun a ha => ?_⟩
  · obtain ⟨b1, b2, b3⟩ := (yb_start hv hs).mp q
    exact ⟨b2, b1⟩
  · have := ((yb_st1 hv).mp q).1
    omega
  · cases hsv : st.testBit v
    · cases hav : a.testBit v
      · exact Or.inr ⟨v, Or.inr ⟨(yb_st1 hv).mpr ⟨rfl, hsv⟩, hav⟩⟩
      · exact Or.inl rfl
    · rcases (yRI_start (rY := fun v => (262143 &&& (nI st ^^^ (-1))) &&& ((-2 : Int32) <<< (nI v &&& 31))) (rN := fun _ => 0) hs hG (fun v _ => ⟨rfl, rfl⟩) v hv hsv).2.2 a ha with q | ⟨i, ⟨q, w⟩ | ⟨q, w⟩⟩
      · exact Or.inl q
      · exact Or.inr ⟨i, Or.inl ⟨q, w⟩⟩
      · rw [yb_0] at q; cases q
theorem yRI_block {G : Nat → Prop} {st : Nat} {rY rN : Nat → Int32} (hs : st < 262144) (hG : ∀ a, G a → st ≤ a ∧ a < 262144) (h : ∀ v, 6 ≤ v → v < 18 → rY v = (262143 &&& (nI st ^^^ (-1))) &&& ((-2 : Int32) <<< (nI v &&& 31)) ∧ rN v = (nI st ^^^ (-1)) &&& ((1 : Int32) <<< (nI v &&& 31))) : yRI G (64 * (st / 64)) rY rN := by
  intro v hv hbv
  have hst : ∀ i, 6 ≤ i → (64 * (st / 64)).testBit i = st.testBit i := fun i hi => by
    have := y_hbit (b := 64 * (st / 64)) (k := st % 64) (by omega) (by omega) hi
    rw [show 64 * (st / 64) + st % 64 = st by omega] at this
    exact this.symm
  have h6 : 6 ≤ v := by
    rcases Nat.lt_or_ge v 6 with q | q
    · rw [y_blow (by omega) q] at hbv; cases hbv
    · exact q
  have hsv : st.testBit v = true := by rw [← hst v h6]; exact hbv
  obtain ⟨g1, g2, g3⟩ := yGR_start hs hG h v h6 hv
  refine ⟨fun i q => ?_, fun i q => ?_, g3⟩
  · rw [(h v h6 hv).1] at q
    obtain ⟨b1, b2, b3⟩ := (yb_start hv hs).mp q
    exact ⟨b2, b1, by rw [hst i (by omega)]; exact b3⟩
  · rw [(h v h6 hv).2] at q
    have := (yb_st1 hv).mp q
    rw [hsv] at this
    cases this.2
theorem y_stblk {st : Nat} (hs : st < 262144) : nI st &&& 262080 = nI (64 * (st / 64)) := by
  apply yb_ext
  intro i hi
  rw [yb_and, yb_nI st hi, yb_nI _ hi, yb_HIGH i hi]
  rcases Nat.lt_or_ge i 6 with q | q
  · rw [y_blow (b := 64 * (st / 64)) (by omega) q, decide_eq_false (by omega), Bool.and_false]
  · have := y_hbit (b := 64 * (st / 64)) (k := st % 64) (by omega) (by omega) q
    rw [show 64 * (st / 64) + st % 64 = st by omega] at this
    rw [← this]
    rcases Nat.lt_or_ge i 18 with z | z
    · rw [decide_eq_true (by omega), Bool.and_true]
    · rw [y_tb hs z]; rfl
/-- the row that bars what lies below the start -/
theorem zb_shl : ∀ m, m < 64 → ∀ k, k < 64 → zb ((-1 : Int64) <<< ((nI m).toInt64 &&& 63)) k = decide (m ≤ k) := by decide +kernel
theorem yb_sr {st i : Nat} : yb (262080 &&& (nI st ^^^ (-1))) i = true ↔ 6 ≤ i ∧ i < 18 ∧ st.testBit i = false := by
  rcases Nat.lt_or_ge i 32 with hi | hi
  · rw [yb_and, yb_HIGH i hi, yb_not _ hi, yb_nI st hi]
    cases st.testBit i <;> simp
  · rw [yb_big hi]
    constructor
    · intro q; cases q
    · rintro ⟨-, q, -⟩; omega
theorem scl_start {st a : Nat} (ha : a < 262144) (hb : st / 64 ≤ a / 64) : scl (262080 &&& (nI st ^^^ (-1))) 0 ((-1 : Int64) <<< ((nI (st % 64)).toInt64 &&& 63)) a ↔ st ≤ a := by
  unfold scl
  rw [zb_shl (st % 64) (by omega) (a % 64) (by omega), decide_eq_true_iff]
  have hbit : ∀ x i : Nat, 6 ≤ i → x.testBit i = (x / 64).testBit (i - 6) := fun x i hi => by
    have := z_highbit (w := x / 64) (k := x % 64) (by omega) hi
    rw [show 64 * (x / 64) + x % 64 = x by omega] at this
    exact this
  constructor
  · rintro (⟨i, ⟨q, w⟩ | ⟨q, -⟩⟩ | h)
    · obtain ⟨z1, z2, z3⟩ := yb_sr.mp q
      rcases Nat.lt_or_ge (st / 64) (a / 64) with y | y
      · omega
      · rw [hbit a i z1, show a / 64 = st / 64 by omega, ← hbit st i z1, z3] at w
        cases w
    · rw [yb_0] at q; cases q
    · omega
  · intro h
    rcases Nat.lt_or_ge (st / 64) (a / 64) with y | y
    · obtain ⟨i, p1, p2, -⟩ := y_hi 12 (st / 64) (a / 64) (by omega) (by omega) y
      have e1 := hbit st (i + 6) (by omega)
      have e2 := hbit a (i + 6) (by omega)
      rw [Nat.add_sub_cancel] at e1 e2
      refine Or.inl ⟨i + 6, Or.inl ⟨yb_sr.mpr ⟨by omega, ?_, by rw [e1]; exact p1⟩, by rw [e2]; exact p2⟩⟩
      rcases Nat.lt_or_ge (i + 6) 18 with z | z
      · exact z
      · rw [y_tb ha z, p2] at e2; cases e2
    · exact Or.inr (by omega)
/-- one row more -/
theorem yRow {f1 f2 : Nat → Int32} {f7 : Nat → Int64} {rows a : Nat} {y n : Int32} {w : Int64} : (∀ j, j < rows + 1 → scl (upd f1 rows y j) (upd f2 rows n j) (vp_updL f7 rows w j) a) ↔ (∀ j, j < rows → scl (f1 j) (f2 j) (f7 j) a) ∧ scl y n w a := by
  constructor
  · intro q
    refine ⟨fun j hj => ?_, ?_⟩
    · have := q j (by omega)
      rw [pk_un (by omega), pk_un (by omega), pk_uLn (by omega)] at this
      exact this
    · have := q rows (by omega)
      rw [pk_us, pk_us, pk_uLs] at this
      exact this
  · rintro ⟨q1, q2⟩ j hj
    by_cases e : j = rows
    · rw [e, pk_us, pk_us, pk_uLs]; exact q2
    · rw [pk_un e, pk_un e, pk_uLn e]; exact q1 j (by omega)
/-- a word of the low literals: those below m -/
def yLw (m : Nat) (y n : Int32) (w : Int64) : Prop := ∀ k, k < 64 → (zb w k = true ↔ ∃ v, v < m ∧ ((yb y v = true ∧ k.testBit v = true) ∨ (yb n v = true ∧ k.testBit v = false)))
theorem yLw_0 {y n : Int32} : yLw 0 y n 0 := fun k _ => by
  rw [zb_0]
  constructor
  · intro q; cases q
  · rintro ⟨v, hv, -⟩; omega
theorem yLw_s {m : Nat} {y n : Int32} {w w1 : Int64} (h : yLw m y n w) (hz : ∀ k, k < 64 → zb w1 k = (zb w k || (yb y m && k.testBit m) || (yb n m && !k.testBit m))) : yLw (m + 1) y n w1 := fun k hk => by
  rw [hz k hk, Bool.or_eq_true_iff, Bool.or_eq_true_iff, Bool.and_eq_true_iff, Bool.and_eq_true_iff, h k hk, Bool.not_eq_true']
  constructor
  · rintro ((⟨v, hv, q⟩ | q) | q)
    · exact ⟨v, by omega, q⟩
    · exact ⟨m, by omega, Or.inl q⟩
    · exact ⟨m, by omega, Or.inr q⟩
  · rintro ⟨v, hv, q⟩
    by_cases e : v = m
    · subst e
      rcases q with q | q
      · exact Or.inl (Or.inr q)
      · exact Or.inr q
    · exact Or.inl (Or.inl ⟨v, by omega, q⟩)
theorem scl_split {y n : Int32} {w : Int64} {a : Nat} (hy : ym y) (hn : ym n) (hw : yLw 6 y n w) : scl (y &&& 262080) (n &&& 262080) w a ↔ ycl y n a := by
  have hh : ∀ (x : Int32) (i : Nat), ym x → (yb (x &&& 262080) i = true ↔ yb x i = true ∧ 6 ≤ i) := by
    intro x i hx
    rcases Nat.lt_or_ge i 32 with q | q
    · rw [yb_and, yb_HIGH i q, Bool.and_eq_true_iff, decide_eq_true_iff]
      exact ⟨fun z => ⟨z.1, z.2.1⟩, fun z => ⟨z.1, z.2, ym_lt hx z.1⟩⟩
    · rw [yb_big q, yb_big q]; simp
  unfold scl
  rw [hw (a % 64) (by omega)]
  constructor
  · rintro (⟨i, ⟨h, q⟩ | ⟨h, q⟩⟩ | ⟨v, hv, ⟨h, q⟩ | ⟨h, q⟩⟩)
    · exact ⟨i, Or.inl ⟨((hh y i hy).mp h).1, q⟩⟩
    · exact ⟨i, Or.inr ⟨((hh n i hn).mp h).1, q⟩⟩
    · exact ⟨v, Or.inl ⟨h, by rw [← y_lbit hv]; exact q⟩⟩
    · exact ⟨v, Or.inr ⟨h, by rw [← y_lbit hv]; exact q⟩⟩
  · rintro ⟨i, ⟨h, q⟩ | ⟨h, q⟩⟩
    · rcases Nat.lt_or_ge i 6 with z | z
      · exact Or.inr ⟨i, z, Or.inl ⟨h, by rw [y_lbit z]; exact q⟩⟩
      · exact Or.inl ⟨i, Or.inl ⟨(hh y i hy).mpr ⟨h, z⟩, q⟩⟩
    · rcases Nat.lt_or_ge i 6 with z | z
      · exact Or.inr ⟨i, z, Or.inr ⟨h, by rw [y_lbit z]; exact q⟩⟩
      · exact Or.inl ⟨i, Or.inr ⟨(hh n i hn).mpr ⟨h, z⟩, q⟩⟩
/-- the least one found: the lowest bit of the first block that has one -/
theorem yL_found {P : Nat → Prop} {st b t : Nat} {x : Int64} {rY rN : Nat → Int32} (hb : b < 262144) (hb0 : b % 64 = 0) (hR : yRI (fun a => st ≤ a ∧ a < 262144 ∧ P a) b rY rN) (hx : ∀ k, k < 64 → (zb x k = true ↔ st ≤ b + k ∧ P (b + k))) (ht : t < 64) (h1 : zb x t = true) (h0 : ∀ j, j < t → zb x j = false) : yL P st (nI (b + t)) := by
  obtain ⟨p1, p2⟩ := (hx t ht).mp h1
  refine Or.inr ⟨b + t, rfl, p1, by omega, p2, fun a g1 g2 g3 => ?_⟩
  have hba := yRI_least hb hR (a := a) ⟨g1, by omega, g3⟩
  have := h0 (a - b) (by omega)
  have h9 := (hx (a - b) (by omega)).mpr (by rw [show b + (a - b) = a by omega]; exact ⟨g1, g3⟩)
  rw [this] at h9
  cases h9
theorem zb_lowest {x : Int64} (h : ¬ x = 0) : ∃ t, t < 64 ∧ zb x t = true ∧ ∀ j, j < t → zb x j = false := by
  obtain ⟨i, hi, h1⟩ := zb_nz.mp h
  induction i using Nat.strongRecOn with
  | ind i ih =>
    by_cases q : ∃ j, j < i ∧ zb x j = true
    · obtain ⟨j, hj, hz⟩ := q
      exact ih j hj (by omega) hz
    · refine ⟨i, hi, h1, fun j hj => ?_⟩
      cases z : zb x j
      · rfl
      · exact absurd ⟨j, hj, z⟩ q
theorem y_dec {v : Nat} (h : 1 ≤ v) : nI v + (-1) = nI (v - 1) := by
  rw [← pk_sub h]; exact (Int32.sub_eq_add_neg _ _).symm
theorem y_shr1 {x : Int32} {v : Nat} (hv : v < 32) : (x >>> (nI v &&& 31)) &&& 1 = 0 ↔ yb x v = false := by
  have e0 : yb (x >>> (nI v &&& 31)) 0 = yb x v := by
    show (x >>> (nI v &&& 31)).toBitVec.getLsbD 0 = _
    rw [Int32.toBitVec_shiftRight]
    show (x.toBitVec.sshiftRight ((nI v &&& 31).toBitVec.smod 32).toNat).getLsbD 0 = _
    rw [zs_l v hv, BitVec.getLsbD_sshiftRight]
    simp [hv]
    rfl
  have e1 : ∀ i, i < 32 → yb 1 i = decide (i = 0) := by decide +kernel
  rw [yb_z]
  constructor
  · intro h
    have := h 0 (by omega)
    rw [yb_and, e0, e1 0 (by omega)] at this
    simpa using this
  · intro h i hi
    rw [yb_and, e1 i hi]
    by_cases e : i = 0
    · rw [e, e0, h]; rfl
    · simp [e]
end YBLOCK
end
section
/-! PURE ROWS of the JDK's trailing zeros and bit count -/
section YBITS
theorem y_low1 {x : Int32} {t : Nat} (h1 : yb x t = true) (h0 : ∀ j, j < t → yb x j = false) : (x ^^^ (-1)) &&& (x - 1) = nI (2 ^ t - 1) := by
  have hX : x.toBitVec.toNat < 2 ^ 32 := x.toBitVec.isLt
  generalize hXe : x.toBitVec.toNat = X at hX
  have hbit : ∀ i, yb x i = X.testBit i := fun i => by rw [← hXe]; rfl
  have hmod : X % 2 ^ (t + 1) = 2 ^ t := by
    apply Nat.eq_of_testBit_eq
    intro i
    rw [Nat.testBit_mod_two_pow, Nat.testBit_two_pow]
    rcases Nat.lt_trichotomy i t with q | q | q
    · rw [← hbit, h0 i q, decide_eq_false (by omega : ¬ t = i)]; simp
    · subst q; rw [← hbit, h1]; simp
    · rw [decide_eq_false (by omega : ¬ i < t + 1), decide_eq_false (by omega : ¬ t = i)]; rfl
  have hpos : 0 < 2 ^ t := Nat.two_pow_pos t
  have hle : 2 ^ t ≤ X := by rw [← hmod]; exact Nat.mod_le _ _
  have hs : (x - 1).toBitVec.toNat = X - 1 := by
    rw [Int32.toBitVec_sub, BitVec.toNat_sub, hXe]
    show (2 ^ 32 - 1 + X) % 2 ^ 32 = X - 1
    omega
  have e1 : X = 2 ^ (t + 1) * (X / 2 ^ (t + 1)) + 2 ^ t := by
    have := Nat.div_add_mod X (2 ^ (t + 1))
    rw [hmod] at this
    exact this.symm
  have hlt : 2 ^ t < 2 ^ (t + 1) := Nat.pow_lt_pow_right (by omega) (by omega)
  have e2 : X - 1 = 2 ^ (t + 1) * (X / 2 ^ (t + 1)) + (2 ^ t - 1) := by
    rw [← Nat.add_sub_assoc hpos, ← e1]
  apply yb_ext
  intro i hi
  have b1 : yb (x - 1) i = (X - 1).testBit i := by rw [← hs]; rfl
  have b2 : X.testBit i = if i < t + 1 then (2 ^ t).testBit i else (X / 2 ^ (t + 1)).testBit (i - (t + 1)) := by
    have := Nat.testBit_two_pow_mul_add (X / 2 ^ (t + 1)) hlt i
    rw [← e1] at this
    exact this
  have b3 : (X - 1).testBit i = if i < t + 1 then (2 ^ t - 1).testBit i else (X / 2 ^ (t + 1)).testBit (i - (t + 1)) := by
    rw [e2]
    exact Nat.testBit_two_pow_mul_add _ (by omega) i
  rw [yb_and, yb_not _ hi, yb_nI _ hi, Nat.testBit_two_pow_sub_one, b1, hbit, b2, b3]
  by_cases q : i < t + 1
  · rw [if_pos q, if_pos q, Nat.testBit_two_pow, Nat.testBit_two_pow_sub_one]
    by_cases z : i = t
    · subst z; simp
    · rw [decide_eq_false (by omega : ¬ t = i), decide_eq_true (by omega : i < t)]; rfl
  · rw [if_neg q, if_neg q, decide_eq_false (by omega : ¬ i < t)]
    cases (X / 2 ^ (t + 1)).testBit (i - (t + 1)) <;> rfl
theorem yb_lo (x : Int64) {i : Nat} (hi : i < 32) : yb x.toInt32 i = zb x i := by
  show x.toInt32.toBitVec.getLsbD i = _
  rw [Int64.toBitVec_toInt32, BitVec.getLsbD_signExtend, decide_eq_true hi, if_pos (by omega)]
  rfl
theorem yb_hi (x : Int64) {i : Nat} (hi : i < 32) : yb (x.toUInt64 >>> ((32 : Int32).toInt64.toUInt64 &&& Int64.toUInt64 63)).toInt64.toInt32 i = zb x (32 + i) := by
  rw [yb_lo _ hi]
  exact zb_ushr 32 (by omega) x i
/-- how many of the first m bits are 1 -/
def cb (X : Nat) : Nat → Nat
  | 0 => 0
  | m + 1 => cb X m + (X.testBit m).toNat
def bq1 (m x : Nat) : Nat := x - ((x / 2) &&& m)
def bq2 (m x : Nat) : Nat := (x &&& m) + ((x / 4) &&& m)
def bq3 (m x : Nat) : Nat := (x + x / 16) &&& m
theorem b_and {h b m c : Nat} (hb : b < 256) (hc : c < 256) : (256 * h + b) &&& (256 * m + c) = 256 * (h &&& m) + (b &&& c) := by
  have hbc : b &&& c < 256 := Nat.lt_of_le_of_lt Nat.and_le_left hb
  apply Nat.eq_of_testBit_eq
  intro i
  rw [Nat.testBit_and]
  have t1 := Nat.testBit_two_pow_mul_add h (b := b) (i := 8) hb i
  have t2 := Nat.testBit_two_pow_mul_add m (b := c) (i := 8) hc i
  have t3 := Nat.testBit_two_pow_mul_add (h &&& m) (b := b &&& c) (i := 8) hbc i
  rw [show (2 : Nat) ^ 8 = 256 from rfl] at t1 t2 t3
  rw [t1, t2, t3]
  by_cases q : i < 8
  · simp only [if_pos q, Nat.testBit_and]
  · simp only [if_neg q, Nat.testBit_and]
theorem bq1_d : ∀ b, b < 256 → ∀ e, e < 2 → (128 * e + b / 2) &&& 85 = (b / 2) &&& 85 ∧ (b / 2) &&& 85 ≤ b := by decide +kernel
theorem bq1_s {h b m : Nat} (hb : b < 256) : bq1 (256 * m + 85) (256 * h + b) = 256 * bq1 m h + bq1 85 b := by
  unfold bq1
  rw [show (256 * h + b) / 2 = 256 * (h / 2) + (128 * (h % 2) + b / 2) by omega, b_and (by omega) (by omega)]
  have hd := bq1_d b hb (h % 2) (by omega)
  rw [hd.1]
  have h2 : (h / 2) &&& m ≤ h := Nat.le_trans Nat.and_le_left (Nat.div_le_self _ _)
  have h3 := hd.2
  generalize (h / 2) &&& m = A at *
  generalize (b / 2) &&& 85 = B at *
  omega
theorem bq2_d : ∀ b, b < 256 → ∀ e, e < 4 → (64 * e + b / 4) &&& 51 = (b / 4) &&& 51 := by decide +kernel
theorem bq2_s {h b m : Nat} (hb : b < 256) : bq2 (256 * m + 51) (256 * h + b) = 256 * bq2 m h + bq2 51 b := by
  unfold bq2
  rw [show (256 * h + b) / 4 = 256 * (h / 4) + (64 * (h % 4) + b / 4) by omega, b_and hb (by omega), b_and (by omega) (by omega), bq2_d b hb (h % 4) (by omega)]
  omega
theorem bq3_d : ∀ b, b < 103 → ∀ e, e < 7 → (b + b / 16 + 16 * e) &&& 15 = (b + b / 16) &&& 15 := by decide +kernel
theorem bq3_s {h b m : Nat} (hb : b < 103) (hh : h % 16 < 7) : bq3 (256 * m + 15) (256 * h + b) = 256 * bq3 m h + bq3 15 b := by
  unfold bq3
  rw [show 256 * h + b + (256 * h + b) / 16 = 256 * (h + h / 16) + (b + b / 16 + 16 * (h % 16)) by omega, b_and (by omega) (by omega), bq3_d b hb (h % 16) hh]
def bM (c : Nat) : Nat → Nat
  | 0 => 0
  | n + 1 => 256 * bM c n + c
def bP (b : Nat) : Nat := bq3 15 (bq2 51 (bq1 85 b))
def bS : Nat → Nat → Nat
  | 0, _ => 0
  | n + 1, X => 256 * bS n (X / 256) + bP (X % 256)
def bC : Nat → Nat → Nat
  | 0, _ => 0
  | n + 1, X => bC n (X / 256) + bP (X % 256)
theorem bq_small : ∀ b, b < 256 → bq1 85 b < 256 ∧ bq2 51 (bq1 85 b) < 103 ∧ bP b = cb b 8 ∧ bP b ≤ 8 := by decide +kernel
theorem bq2_low : ∀ n x, bq2 (bM 51 n) x % 16 < 7 := by
  intro n x
  unfold bq2
  have hm : bM 51 n % 2 ^ 4 ≤ 3 := by
    cases n with
    | zero => decide
    | succ n => show (256 * bM 51 n + 51) % 16 ≤ 3; omega
  have a1 : (x &&& bM 51 n) % 16 ≤ 3 := by
    rw [show (16 : Nat) = 2 ^ 4 from rfl, Nat.and_mod_two_pow]; exact Nat.le_trans Nat.and_le_right hm
  have a2 : ((x / 4) &&& bM 51 n) % 16 ≤ 3 := by
    rw [show (16 : Nat) = 2 ^ 4 from rfl, Nat.and_mod_two_pow]; exact Nat.le_trans Nat.and_le_right hm
  omega
theorem b_all : ∀ n X, X < 256 ^ n → bq3 (bM 15 n) (bq2 (bM 51 n) (bq1 (bM 85 n) X)) = bS n X := by
  intro n
  induction n with
  | zero =>
    intro X h
    have : X = 0 := by simp at h; exact h
    subst this
    decide
  | succ n ih =>
    intro X h
    have hX : X = 256 * (X / 256) + X % 256 := by omega
    have hlt : X / 256 < 256 ^ n := by rw [Nat.pow_succ] at h; omega
    have hq := bq_small (X % 256) (by omega)
    show bq3 (256 * bM 15 n + 15) (bq2 (256 * bM 51 n + 51) (bq1 (256 * bM 85 n + 85) X)) = 256 * bS n (X / 256) + bP (X % 256)
    rw [← ih (X / 256) hlt]
    conv => lhs; rw [hX]
    rw [bq1_s (by omega), bq2_s hq.1, bq3_s hq.2.1 (bq2_low n _)]
    rfl
theorem cb_congr {X Y : Nat} : ∀ m, (∀ i, i < m → X.testBit i = Y.testBit i) → cb X m = cb Y m := by
  intro m
  induction m with
  | zero => intro _; rfl
  | succ m ih =>
    intro h
    show cb X m + _ = cb Y m + _
    rw [ih (fun i hi => h i (by omega)), h m (by omega)]
theorem cb_s {h b : Nat} (hb : b < 256) : ∀ m, cb (256 * h + b) (8 + m) = cb h m + cb b 8 := by
  have t : ∀ i, (256 * h + b).testBit i = if i < 8 then b.testBit i else h.testBit (i - 8) := fun i => Nat.testBit_two_pow_mul_add h (b := b) (i := 8) hb i
  intro m
  induction m with
  | zero => rw [Nat.add_zero, cb_congr 8 (Y := b) (fun i hi => by rw [t i, if_pos hi])]; exact (Nat.zero_add _).symm
  | succ m ih =>
    show cb (256 * h + b) (8 + m) + ((256 * h + b).testBit (8 + m)).toNat = cb h m + (h.testBit m).toNat + cb b 8
    rw [ih, t (8 + m), if_neg (by omega), Nat.add_sub_cancel_left]
    omega
theorem cb_all : ∀ n X, X < 256 ^ n → cb X (8 * n) = bC n X := by
  intro n
  induction n with
  | zero => intro X _; rfl
  | succ n ih =>
    intro X h
    have hlt : X / 256 < 256 ^ n := by rw [Nat.pow_succ] at h; omega
    have := cb_s (h := X / 256) (b := X % 256) (by omega) (8 * n)
    rw [show 256 * (X / 256) + X % 256 = X by omega] at this
    rw [show 8 * (n + 1) = 8 + 8 * n by omega, this, ih _ hlt, ← (bq_small (X % 256) (by omega)).2.2.1]
    rfl
/-- the words' own numbers -/
abbrev zn (x : Int64) : Nat := x.toBitVec.toNat
theorem zu_nat (n : Nat) (hn : n < 64) (x : Int64) : zn (x.toUInt64 >>> ((nI n).toInt64.toUInt64 &&& Int64.toUInt64 63)).toInt64 = zn x / 2 ^ n := by
  show (x.toUInt64 >>> ((nI n).toInt64.toUInt64 &&& Int64.toUInt64 63)).toBitVec.toNat = _
  rw [UInt64.toBitVec_shiftRight]
  show (x.toUInt64.toBitVec >>> (((nI n).toInt64.toUInt64 &&& Int64.toUInt64 63).toBitVec % 64).toNat).toNat = _
  rw [zs_u n hn, BitVec.toNat_ushiftRight, Nat.shiftRight_eq_div_pow]
  rfl
theorem zn_and (x y : Int64) : zn (x &&& y) = zn x &&& zn y := by
  show (x &&& y).toBitVec.toNat = _
  rw [Int64.toBitVec_and, BitVec.toNat_and]
theorem zn_add (x y : Int64) (h : zn x + zn y < 2 ^ 64) : zn (x + y) = zn x + zn y := by
  show (x + y).toBitVec.toNat = _
  rw [Int64.toBitVec_add, BitVec.toNat_add]
  exact Nat.mod_eq_of_lt h
theorem zn_sub (x y : Int64) (h : zn y ≤ zn x) : zn (x - y) = zn x - zn y := by
  have h1 : zn x < 2 ^ 64 := x.toBitVec.isLt
  have h2 : zn y < 2 ^ 64 := y.toBitVec.isLt
  show (x - y).toBitVec.toNat = _
  rw [Int64.toBitVec_sub, BitVec.toNat_sub]
  show (2 ^ 64 - zn y + zn x) % 2 ^ 64 = zn x - zn y
  omega
theorem bS_sum {X : Nat} : ∃ p0 p1 p2 p3 p4 p5 p6 p7 : Nat, p0 ≤ 8 ∧ p1 ≤ 8 ∧ p2 ≤ 8 ∧ p3 ≤ 8 ∧ p4 ≤ 8 ∧ p5 ≤ 8 ∧ p6 ≤ 8 ∧ p7 ≤ 8 ∧ bS 8 X = 256 * (256 * (256 * (256 * (256 * (256 * (256 * p7 + p6) + p5) + p4) + p3) + p2) + p1) + p0 ∧ bC 8 X = p0 + p1 + p2 + p3 + p4 + p5 + p6 + p7 := by
  have hp : ∀ Y : Nat, bP (Y % 256) ≤ 8 := fun Y => (bq_small (Y % 256) (by omega)).2.2.2
  refine ⟨bP (X % 256), bP (X / 256 % 256), bP (X / 256 / 256 % 256), bP (X / 256 / 256 / 256 % 256), bP (X / 256 / 256 / 256 / 256 % 256), bP (X / 256 / 256 / 256 / 256 / 256 % 256), bP (X / 256 / 256 / 256 / 256 / 256 / 256 % 256), bP (X / 256 / 256 / 256 / 256 / 256 / 256 / 256 % 256), hp _, hp _, hp _, hp _, hp _, hp _, hp _, hp _, ?_, ?_⟩
  · simp only [bS, Nat.mul_zero, Nat.zero_add]
  · simp only [bC, Nat.zero_add]
    omega
theorem y_bitCount {x x1 x2 x3 x4 x5 x6 : Int64} (e1 : x1 = x - ((x.toUInt64 >>> ((1 : Int32).toInt64.toUInt64 &&& Int64.toUInt64 63)).toInt64 &&& 6148914691236517205)) (e2 : x2 = (x1 &&& 3689348814741910323) + ((x1.toUInt64 >>> ((2 : Int32).toInt64.toUInt64 &&& Int64.toUInt64 63)).toInt64 &&& 3689348814741910323))
    (e3 : x3 = (x2 + (x2.toUInt64 >>> ((4 : Int32).toInt64.toUInt64 &&& Int64.toUInt64 63)).toInt64) &&& 1085102592571150095) (e4 : x4 = x3 + (x3.toUInt64 >>> ((8 : Int32).toInt64.toUInt64 &&& Int64.toUInt64 63)).toInt64) (e5 : x5 = x4 + (x4.toUInt64 >>> ((16 : Int32).toInt64.toUInt64 &&& Int64.toUInt64 63)).toInt64) (e6 : x6 = x5 + (x5.toUInt64 >>> ((32 : Int32).toInt64.toUInt64 &&& Int64.toUInt64 63)).toInt64) :
    x6.toInt32 &&& 127 = nI (cb (zn x) 64) := by
  have hx : zn x < 256 ^ 8 := x.toBitVec.isLt
  have u1 := zu_nat 1 (by omega) x
  have u2 := zu_nat 2 (by omega) x1
  have u4 := zu_nat 4 (by omega) x2
  have u8 := zu_nat 8 (by omega) x3
  have u16 := zu_nat 16 (by omega) x4
  have u32 := zu_nat 32 (by omega) x5
  have m1 : zn 6148914691236517205 = bM 85 8 := by decide +kernel
  have m2 : zn 3689348814741910323 = bM 51 8 := by decide +kernel
  have m4 : zn 1085102592571150095 = bM 15 8 := by decide +kernel
  have n1 : zn x1 = bq1 (bM 85 8) (zn x) := by
    rw [e1, zn_sub, zn_and, m1]
    · show zn x - (zn _ &&& bM 85 8) = _
      rw [show (1 : Int32) = nI 1 from rfl, u1]; rfl
    · rw [zn_and, show (1 : Int32) = nI 1 from rfl, u1]
      exact Nat.le_trans Nat.and_le_left (Nat.div_le_self _ _)
  have n2 : zn x2 = bq2 (bM 51 8) (zn x1) := by
    have hle : (zn x1 &&& bM 51 8) + ((zn x1 / 4) &&& bM 51 8) < 2 ^ 64 := by
      have a1 : zn x1 &&& bM 51 8 ≤ bM 51 8 := Nat.and_le_right
      have a2 : (zn x1 / 4) &&& bM 51 8 ≤ bM 51 8 := Nat.and_le_right
      have a3 : bM 51 8 = 3689348814741910323 := by decide +kernel
      omega
    rw [e2, zn_add, zn_and, zn_and, m2, show (2 : Int32) = nI 2 from rfl, u2]
    · rfl
    · rw [zn_and, zn_and, m2, show (2 : Int32) = nI 2 from rfl, u2]; exact hle
  have l2 : zn x2 ≤ 2 * 3689348814741910323 := by
    rw [n2]
    have a1 : zn x1 &&& bM 51 8 ≤ bM 51 8 := Nat.and_le_right
    have a2 : (zn x1 / 4) &&& bM 51 8 ≤ bM 51 8 := Nat.and_le_right
    have a3 : bM 51 8 = 3689348814741910323 := by decide +kernel
    show (zn x1 &&& bM 51 8) + ((zn x1 / 4) &&& bM 51 8) ≤ _
    omega
  have n3 : zn x3 = bq3 (bM 15 8) (zn x2) := by
    rw [e3, zn_and, zn_add, m4, show (4 : Int32) = nI 4 from rfl, u4]
    · rfl
    · rw [show (4 : Int32) = nI 4 from rfl, u4]; omega
  rw [n1] at n2
  rw [n2, b_all 8 (zn x) hx] at n3
  have hc := cb_all 8 (zn x) hx
  obtain ⟨p0, p1, p2, p3, p4, p5, p6, p7, q0, q1, q2, q3, q4, q5, q6, q7, hS, hC⟩ := bS_sum (X := zn x)
  rw [hS] at n3
  rw [hC] at hc
  have n4 : zn x4 = zn x3 + zn x3 / 2 ^ 8 := by
    rw [e4, zn_add, show (8 : Int32) = nI 8 from rfl, u8]
    rw [show (8 : Int32) = nI 8 from rfl, u8]; omega
  have v4 : zn x4 = 256 * (256 * (256 * (256 * (256 * (256 * (256 * p7 + (p6 + p7)) + (p5 + p6)) + (p4 + p5)) + (p3 + p4)) + (p2 + p3)) + (p1 + p2)) + (p0 + p1) := by
    rw [n4, n3, show (256 * (256 * (256 * (256 * (256 * (256 * (256 * p7 + p6) + p5) + p4) + p3) + p2) + p1) + p0) / 2 ^ 8 = 256 * (256 * (256 * (256 * (256 * (256 * p7 + p6) + p5) + p4) + p3) + p2) + p1 by omega]
    omega
  have n5 : zn x5 = zn x4 + zn x4 / 2 ^ 16 := by
    rw [e5, zn_add, show (16 : Int32) = nI 16 from rfl, u16]
    rw [show (16 : Int32) = nI 16 from rfl, u16]; omega
  have v5 : zn x5 = 256 * (256 * (256 * (256 * (256 * (256 * (256 * p7 + (p6 + p7)) + (p5 + p6 + p7)) + (p4 + p5 + p6 + p7)) + (p3 + p4 + p5 + p6)) + (p2 + p3 + p4 + p5)) + (p1 + p2 + p3 + p4)) + (p0 + p1 + p2 + p3) := by
    rw [n5, v4, show (256 * (256 * (256 * (256 * (256 * (256 * (256 * p7 + (p6 + p7)) + (p5 + p6)) + (p4 + p5)) + (p3 + p4)) + (p2 + p3)) + (p1 + p2)) + (p0 + p1)) / 2 ^ 16 = 256 * (256 * (256 * (256 * (256 * p7 + (p6 + p7)) + (p5 + p6)) + (p4 + p5)) + (p3 + p4)) + (p2 + p3) by omega]
    omega
  have n6 : zn x6 = zn x5 + zn x5 / 2 ^ 32 := by
    rw [e6, zn_add, show (32 : Int32) = nI 32 from rfl, u32]
    rw [show (32 : Int32) = nI 32 from rfl, u32]; omega
  have v6 : zn x6 % 128 = p0 + p1 + p2 + p3 + p4 + p5 + p6 + p7 := by
    rw [n6, v5, show (256 * (256 * (256 * (256 * (256 * (256 * (256 * p7 + (p6 + p7)) + (p5 + p6 + p7)) + (p4 + p5 + p6 + p7)) + (p3 + p4 + p5 + p6)) + (p2 + p3 + p4 + p5)) + (p1 + p2 + p3 + p4)) + (p0 + p1 + p2 + p3)) / 2 ^ 32 = 256 * (256 * (256 * p7 + (p6 + p7)) + (p5 + p6 + p7)) + (p4 + p5 + p6 + p7) by omega]
    omega
  rw [show (64 : Nat) = 8 * 8 from rfl, hc, ← v6]
  have e127 : ∀ i, i < 32 → yb 127 i = decide (i < 7) := by decide +kernel
  apply yb_ext
  intro i hi
  rw [yb_and, yb_lo _ hi, e127 i hi, yb_nI _ hi, show (128 : Nat) = 2 ^ 7 from rfl, Nat.testBit_mod_two_pow, Bool.and_comm]
  rfl
/-- the paths of Integer.numberOfTrailingZeros, at 2^t - 1 -/
theorem y_ntz0 {t : Nat} (ht : t < 32) (h : ¬ 0 < nI (2 ^ t - 1)) : nI (2 ^ t - 1) &&& 32 = nI t := (by decide +kernel : ∀ t, t < 32 → ¬ 0 < nI (2 ^ t - 1) → nI (2 ^ t - 1) &&& 32 = nI t) t ht h
end YBITS
section YBITS2
theorem y_nblk {c : Nat} (hc : c < 262144) : (nI c &&& (-64)) + 64 = nI (64 * (c / 64) + 64) := by
  have e64 : ∀ i, i < 32 → yb (-64) i = decide (6 ≤ i) := by decide +kernel
  have e : nI c &&& (-64) = nI (64 * (c / 64)) := by
    apply yb_ext
    intro i hi
    rw [yb_and, yb_nI c hi, yb_nI _ hi, e64 i hi]
    rcases Nat.lt_or_ge i 6 with q | q
    · rw [y_blow (b := 64 * (c / 64)) (by omega) q, decide_eq_false (by omega), Bool.and_false]
    · have := y_hbit (b := 64 * (c / 64)) (k := c % 64) (by omega) (by omega) q
      rw [show 64 * (c / 64) + c % 64 = c by omega] at this
      rw [← this, decide_eq_true (by omega), Bool.and_true]
  rw [e]
  exact nI_add _ 64
theorem y_or0 {x y : Int32} (h : x ||| y = 0) : x = 0 ∧ y = 0 := by
  have h := yb_z.mp h
  refine ⟨yb_z.mpr (fun i hi => ?_), yb_z.mpr (fun i hi => ?_)⟩
  · have := h i hi
    rw [yb_or] at this
    cases z : yb x i
    · rfl
    · rw [z] at this; cases this
  · have := h i hi
    rw [yb_or] at this
    cases z : yb y i
    · rfl
    · rw [z, Bool.or_true] at this; cases this
theorem zb_sub0 {x w : Int64} (h : x &&& (w ^^^ (-1)) = 0) {k : Nat} (hk : k < 64) (hx : zb x k = true) : zb w k = true := by
  have := zb_z.mp h k hk
  rw [zb_and, zb_not _ hk, hx] at this
  cases z : zb w k
  · rw [z] at this; cases this
  · rfl
/-- the words of the static table -/
def wO (j : Nat) : Int64 := match j with
  | 0 => -6148914691236517206
  | 1 => -3689348814741910324
  | 2 => -1085102592571150096
  | 3 => -71777214294589696
  | 4 => -281470681808896
  | _ => -4294967296
theorem wO_in : zIn wO := by unfold zIn; decide +kernel
/-- what is known of the class's static table of words -/
def yStat (A : Nat → Prop) (U : State) (H : Heap) : Prop := ∃ tw : Nat, va_Z "ClauseYard$Search" "WHERE_ONE" "[J" (.ref tw) A U H ∧ va_T .long tw 6 (fun j => .long (wO j)) A U H
theorem yStat.moved {A : Nat → Prop} {u U : State} {H : Heap} (hvm : u.vm.Alike U.vm) (h : yStat A u H) : yStat A U H := by
  obtain ⟨tw, h1, h2⟩ := h
  exact ⟨tw, va_Z.moved hvm h1, va_T.moved hvm h2⟩
theorem yStat.kept {A : Nat → Prop} {U : State} {H H1 : Heap} (h : yStat A U H) (hq : ∀ a : Nat, a < H.size → ¬ A a → H1[a]? = H[a]?) : yStat A U H1 := by
  obtain ⟨tw, h1, h2⟩ := h
  exact ⟨tw, h1.kept hq, h2.kept hq⟩
theorem yStat.narrow {A B : Nat → Prop} {U : State} {H : Heap} (h : yStat A U H) (hAB : ∀ q, B q → A q) : yStat B U H := by
  obtain ⟨tw, h1, h2⟩ := h
  exact ⟨tw, h1.narrow hAB, h2.narrow hAB⟩
end YBITS2
end
section
/-- the yard's own cell: its search, two rows of ints, seven numbers -/
abbrev yO (h hs q3 q4 : Nat) (cc lv ac tc ty tn md : Int32) : Nat × va_E := (h, .inr (0, [.ref hs, .ref q3, .ref q4, .int cc, .int lv, .int ac, .int tc, .int ty, .int tn, .int md]))
/-- the search's own cell -/
abbrev sO (hs q1 q2 q7 q5 q6 : Nat) (bY bN : Int32) (fd : Int64) : Nat × va_E := (hs, .inr (2, [.ref q1, .ref q2, .ref q7, .ref q5, .ref q6, .int bY, .int bN, .long fd]))
theorem y_dec' {v : Nat} (h : 1 ≤ v) : nI v + Int32.ofInt (-1) = nI (v - 1) := by
  rw [show Int32.ofInt (-1) = (-1 : Int32) by decide]; exact y_dec h
section YARR
variable {p : Program} {l : Launch} {e : Env} {R : Room} {s : State} {m : MethodId} {args : Array Value} {below : List Frame} {meth : Method} {c : Code} {H : Heap} {locs : List Loc} {cells slots : Nat} {Q : State → Prop}
variable {cc : ByteArray} {pc : Nat} {ls : Array Slot} {rest : List Value} {D : va_G} {cl : List vw_C} {A : Nat → Prop} {a : Nat} {tys : List (ClassId × FieldType)} {ws : va_W} {H0 : Heap}
/-- an int array read, and written, at a counted place -/
theorem yv_iald (hexec : p.tables.exec = Jvm.exec) (hb : c.code = cc) (hK : va_K D cl tys s) (hP : va_P D cl ws H) (q0 t0 : Nat) {cA : ClassId} {n : Nat} {f : Nat → Int32} (ha : ws[q0]? = some (a, .inl (cA, n, .inl f))) (ht : tys[t0]? = some (cA, .int)) {k : Nat} (hk : k < n) (hn : n < 2 ^ 31) (hdg : decode cc pc = .ok (.iaload, 1))
    (kk : W p l e R s m args below meth c H locs cells slots Q (F0 m (pc + 1) ls (.int (f k) :: rest))) : W p l e R s m args below meth c H locs cells slots Q (F0 m pc ls (.int (nI k) :: .ref a :: rest)) := by
  refine va_iald hexec hb hK hP q0 t0 ha ht (vp_in_nI hk hn) hdg ?_
  rw [nI_clamp (by omega)]
  exact kk
theorem yv_iast (hexec : p.tables.exec = Jvm.exec) (hb : c.code = cc) (hK : va_K D cl tys s) (hP : va_P D cl ws H) (hD : va_D A ws) (hS : va_S A H0 H locs) (q0 t0 : Nat) {cA : ClassId} {n : Nat} {f : Nat → Int32} (ha : ws[q0]? = some (a, .inl (cA, n, .inl f))) (ht : tys[t0]? = some (cA, .int)) {k : Nat} {x : Int32} (hk : k < n) (hn : n < 2 ^ 31) (hdg : decode cc pc = .ok (.iastore, 1))
    (kk : ∀ (H1 : Heap) (locs1 : List Loc), va_P D cl (ws.set q0 (a, .inl (cA, n, .inl (upd f k x)))) H1 → va_D A (ws.set q0 (a, .inl (cA, n, .inl (upd f k x)))) → va_S A H0 H1 locs1 → W p l e R s m args below meth c H1 locs1 cells slots Q (F0 m (pc + 1) ls rest)) : W p l e R s m args below meth c H locs cells slots Q (F0 m pc ls (.int x :: .int (nI k) :: .ref a :: rest)) := by
  refine va_iast hexec hb hK hP hD hS q0 t0 ha ht (vp_in_nI hk hn) hdg (fun H1 locs1 => ?_)
  rw [nI_clamp (by omega)]
  exact kk H1 locs1
end YARR
section ZARR
variable {p : Program} {l : Launch} {e : Env} {R : Room} {s : State} {m : MethodId} {args : Array Value} {below : List Frame} {meth : Method} {c : Code} {H : Heap} {locs : List Loc} {cells slots : Nat} {Q : State → Prop}
variable {cc : ByteArray} {pc : Nat} {ls : Array Slot} {rest : List Value} {D : va_G} {cl : List vw_C} {A : Nat → Prop} {a : Nat} {tys : List (ClassId × FieldType)} {ws : va_W} {H0 : Heap}
theorem yv_lald (hexec : p.tables.exec = Jvm.exec) (hb : c.code = cc) (hK : va_K D cl tys s) (hP : va_P D cl ws H) (q0 t0 : Nat) {cA : ClassId} {n : Nat} {f : Nat → Int64} (ha : ws[q0]? = some (a, .inl (cA, n, .inr (.inl f)))) (ht : tys[t0]? = some (cA, .long)) {k : Nat} (hk : k < n) (hn : n < 2 ^ 31) (hdg : decode cc pc = .ok (.laload, 1))
    (kk : W p l e R s m args below meth c H locs cells slots Q (F0 m (pc + 1) ls (.long (f k) :: rest))) : W p l e R s m args below meth c H locs cells slots Q (F0 m pc ls (.int (nI k) :: .ref a :: rest)) := by
  refine va_lald hexec hb hK hP q0 t0 ha ht (vp_in_nI hk hn) hdg ?_
  rw [nI_clamp (by omega)]
  exact kk
theorem yv_last (hexec : p.tables.exec = Jvm.exec) (hb : c.code = cc) (hK : va_K D cl tys s) (hP : va_P D cl ws H) (hD : va_D A ws) (hS : va_S A H0 H locs) (q0 t0 : Nat) {cA : ClassId} {n : Nat} {f : Nat → Int64} (ha : ws[q0]? = some (a, .inl (cA, n, .inr (.inl f)))) (ht : tys[t0]? = some (cA, .long)) {k : Nat} {x : Int64} (hk : k < n) (hn : n < 2 ^ 31) (hdg : decode cc pc = .ok (.lastore, 1))
    (kk : ∀ (H1 : Heap) (locs1 : List Loc), va_P D cl (ws.set q0 (a, .inl (cA, n, .inr (.inl (vp_updL f k x))))) H1 → va_D A (ws.set q0 (a, .inl (cA, n, .inr (.inl (vp_updL f k x))))) → va_S A H0 H1 locs1 → W p l e R s m args below meth c H1 locs1 cells slots Q (F0 m (pc + 1) ls rest)) : W p l e R s m args below meth c H locs cells slots Q (F0 m pc ls (.long x :: .int (nI k) :: .ref a :: rest)) := by
  refine va_last hexec hb hK hP hD hS q0 t0 ha ht (vp_in_nI hk hn) hdg (fun H1 locs1 => ?_)
  rw [nI_clamp (by omega)]
  exact kk H1 locs1
end ZARR
set_option maxHeartbeats 4000000 in
set_option maxRecDepth 100000 in
theorem c_isLiteral (l : Launch) (dC : Nat → ClassId) (dI : Nat → Nat → Nat) (p0 : Int32) (sz : Nat)  : Met l yX0_isLiteral wsX0_isLiteral ({ frames := 0, cells := 0, slots := 0, locals := 0 }) (va_Pc [.int p0] (fun U => U.heap.size = sz ∧ va_P (dC, dI) vwCl [] U.heap ∧ va_K (dC, dI) vwCl [] U ∧ va_D (fun _ => True) [])) (va_Qi (fun (r : Int32) (u : Unit) => (r = 1 ∧ yLit p0) ∨ (r = 0 ∧ ¬ yLit p0)) (fun (u : Unit) (t : State) => va_P (dC, dI) vwCl [] t.heap ∧ va_K (dC, dI) vwCl [] t ∧ va_D (va_A [] sz) []) (va_A [] sz)) 0 0 (va_A [] sz) := by
  refine Met.ofW (cc := cX0_isLiteral) (maxL := 1) (ret := (some .boolean)) (by decide) rfl ?_
  intro p e s m args below meth c s₁ B hml hv
  obtain ⟨rfl, hsz, hP, hK, hD0⟩ := hv
  have hx := B.exec
  have hb := B.bytes
  have hr := B.returns
  have hts := atoms_spec (ws := wsX0_isLiteral) B.pre
  have htA : ∀ w ∈ wsA, w.before _ s = true := fun w h => hts w (List.mem_cons_of_mem _ h)
  have hown : s.vm.findClass RX0 = some m.cls := findClass_of_methodNamed B.named
  have hlocks := B.notSynchronized
  subst hsz
  have hD := hD0.self (sz := s.heap.size)
  generalize hAe : va_A [] s.heap.size = A at hD ⊢
  have hA : ∀ q : Nat, s.heap.size ≤ q → A q := fun q h => by rw [← hAe]; exact Or.inr h
  have hS : va_S A s.heap s.heap [] := va_S.rf
  have hP : va_P (dC, dI) vwCl [] s.heap := hP
  have hl := lv_entry ([.int p0]) (n := 1) (Nat.le_of_ble_eq_true rfl)
  rw [lg_entry_eq]
  generalize (lg_sl ([.int p0]) ++ List.replicate (1 - (lg_sl ([.int p0])).length) Slot.unset).toArray = ls at hl ⊢
  have hl : lv_has ls 1 [(0, .int p0)] := hl
  refine lv_iload_n hx hb dX0_isLiteral_0 rfl (lv_at hl 0 rfl) ?_
  refine lv_if_eq (tgt := 20) hx hb dX0_isLiteral_1 (by decide) (fun cb_1 => ?_) (fun cb_1 => ?_)
  · refine lv_iconst (v := 0) hx hb dX0_isLiteral_20 (by decide) ?_
    exact W.zret (v := 0) (ty := .boolean) hx hb hr (by decide) (fun t ht hW => ⟨⟨0, (), rfl, Or.inr ⟨rfl, fun h => (yLit_not h).1 cb_1⟩, by rw [ht]; exact hP, va_K.moved hW.alike hK, hD⟩, hS.F ht⟩) hS.2.2 dX0_isLiteral_21
  · refine lv_iload_n hx hb dX0_isLiteral_4 rfl (lv_at hl 0 rfl) ?_
    refine lv_bipush (v := (-18)) hx hb dX0_isLiteral_5 (by decide) ?_
    refine lv_icmp_lt (tgt := 20) hx hb dX0_isLiteral_7 (by decide) (fun cb_2 => ?_) (fun cb_2 => ?_)
    · refine lv_iconst (v := 0) hx hb dX0_isLiteral_20 (by decide) ?_
      exact W.zret (v := 0) (ty := .boolean) hx hb hr (by decide) (fun t ht hW => ⟨⟨0, (), rfl, Or.inr ⟨rfl, fun h => (yLit_not h).2.1 cb_2⟩, by rw [ht]; exact hP, va_K.moved hW.alike hK, hD⟩, hS.F ht⟩) hS.2.2 dX0_isLiteral_21
    · refine lv_iload_n hx hb dX0_isLiteral_10 rfl (lv_at hl 0 rfl) ?_
      refine lv_bipush (v := 18) hx hb dX0_isLiteral_11 (by decide) ?_
      refine lv_icmp_gt (tgt := 20) hx hb dX0_isLiteral_13 (by decide) (fun cb_3 => ?_) (fun cb_3 => ?_)
      · refine lv_iconst (v := 0) hx hb dX0_isLiteral_20 (by decide) ?_
        exact W.zret (v := 0) (ty := .boolean) hx hb hr (by decide) (fun t ht hW => ⟨⟨0, (), rfl, Or.inr ⟨rfl, fun h => (yLit_not h).2.2 cb_3⟩, by rw [ht]; exact hP, va_K.moved hW.alike hK, hD⟩, hS.F ht⟩) hS.2.2 dX0_isLiteral_21
      · refine lv_iconst (v := 1) hx hb dX0_isLiteral_16 (by decide) ?_
        refine lv_goto (tgt := 21) hx hb dX0_isLiteral_17 (by decide) ?_
        exact W.zret (v := 1) (ty := .boolean) hx hb hr (by decide) (fun t ht hW => ⟨⟨1, (), rfl, Or.inl ⟨rfl, yLit_of cb_1 cb_2 cb_3⟩, by rw [ht]; exact hP, va_K.moved hW.alike hK, hD⟩, hS.F ht⟩) hS.2.2 dX0_isLiteral_21
set_option maxHeartbeats 4000000 in
set_option maxRecDepth 100000 in
theorem c_yesMask (l : Launch) (dC : Nat → ClassId) (dI : Nat → Nat → Nat) (p0 : Int32) (sz : Nat)  : Met l yX0_yesMask wsX0_yesMask ({ frames := 0, cells := 0, slots := 0, locals := 0 }) (va_Pc [.int p0] (fun U => U.heap.size = sz ∧ va_P (dC, dI) vwCl [] U.heap ∧ va_K (dC, dI) vwCl [] U ∧ va_D (fun _ => True) [])) (va_Qi (fun (r : Int32) (u : Unit) => r = yYes p0) (fun (u : Unit) (t : State) => va_P (dC, dI) vwCl [] t.heap ∧ va_K (dC, dI) vwCl [] t ∧ va_D (va_A [] sz) []) (va_A [] sz)) 0 0 (va_A [] sz) := by
  refine Met.ofW (cc := cX0_yesMask) (maxL := 1) (ret := (some .int)) (by decide) rfl ?_
  intro p e s m args below meth c s₁ B hml hv
  obtain ⟨rfl, hsz, hP, hK, hD0⟩ := hv
  have hx := B.exec
  have hb := B.bytes
  have hr := B.returns
  have hts := atoms_spec (ws := wsX0_yesMask) B.pre
  have htA : ∀ w ∈ wsA, w.before _ s = true := fun w h => hts w (List.mem_cons_of_mem _ h)
  have hown : s.vm.findClass RX0 = some m.cls := findClass_of_methodNamed B.named
  have hlocks := B.notSynchronized
  subst hsz
  have hD := hD0.self (sz := s.heap.size)
  generalize hAe : va_A [] s.heap.size = A at hD ⊢
  have hA : ∀ q : Nat, s.heap.size ≤ q → A q := fun q h => by rw [← hAe]; exact Or.inr h
  have hS : va_S A s.heap s.heap [] := va_S.rf
  have hP : va_P (dC, dI) vwCl [] s.heap := hP
  have hl := lv_entry ([.int p0]) (n := 1) (Nat.le_of_ble_eq_true rfl)
  rw [lg_entry_eq]
  generalize (lg_sl ([.int p0]) ++ List.replicate (1 - (lg_sl ([.int p0])).length) Slot.unset).toArray = ls at hl ⊢
  have hl : lv_has ls 1 [(0, .int p0)] := hl
  refine lv_iload_n hx hb dX0_yesMask_0 rfl (lv_at hl 0 rfl) ?_
  refine lv_if_le (tgt := 12) hx hb dX0_yesMask_1 (by decide) (fun cb_4 => ?_) (fun cb_4 => ?_)
  · refine lv_iconst (v := 0) hx hb dX0_yesMask_12 (by decide) ?_
    exact W.iret (v := 0) hx hb hr (fun t ht hW => ⟨⟨0, (), rfl, (if_neg (Int32.not_lt.mpr cb_4)).symm, by rw [ht]; exact hP, va_K.moved hW.alike hK, hD⟩, hS.F ht⟩) hS.2.2 dX0_yesMask_13
  · refine lv_iconst (v := 1) hx hb dX0_yesMask_4 (by decide) ?_
    refine lv_iload_n hx hb dX0_yesMask_5 rfl (lv_at hl 0 rfl) ?_
    refine lv_iconst (v := 1) hx hb dX0_yesMask_6 (by decide) ?_
    refine lv_isub hx hb dX0_yesMask_7 ?_
    refine lv_ishl hx hb dX0_yesMask_8 ?_
    refine lv_goto (tgt := 13) hx hb dX0_yesMask_9 (by decide) ?_
    exact W.iret (v := (1 : Int32) <<< ((p0 - 1) &&& 31)) hx hb hr (fun t ht hW => ⟨⟨(1 : Int32) <<< ((p0 - 1) &&& 31), (), rfl, (if_pos (Int32.not_le.mp cb_4)).symm, by rw [ht]; exact hP, va_K.moved hW.alike hK, hD⟩, hS.F ht⟩) hS.2.2 dX0_yesMask_13
set_option maxHeartbeats 4000000 in
set_option maxRecDepth 100000 in
theorem c_noMask (l : Launch) (dC : Nat → ClassId) (dI : Nat → Nat → Nat) (p0 : Int32) (sz : Nat)  : Met l yX0_noMask wsX0_noMask ({ frames := 0, cells := 0, slots := 0, locals := 0 }) (va_Pc [.int p0] (fun U => U.heap.size = sz ∧ va_P (dC, dI) vwCl [] U.heap ∧ va_K (dC, dI) vwCl [] U ∧ va_D (fun _ => True) [])) (va_Qi (fun (r : Int32) (u : Unit) => r = yNo p0) (fun (u : Unit) (t : State) => va_P (dC, dI) vwCl [] t.heap ∧ va_K (dC, dI) vwCl [] t ∧ va_D (va_A [] sz) []) (va_A [] sz)) 0 0 (va_A [] sz) := by
  refine Met.ofW (cc := cX0_noMask) (maxL := 1) (ret := (some .int)) (by decide) rfl ?_
  intro p e s m args below meth c s₁ B hml hv
  obtain ⟨rfl, hsz, hP, hK, hD0⟩ := hv
  have hx := B.exec
  have hb := B.bytes
  have hr := B.returns
  have hts := atoms_spec (ws := wsX0_noMask) B.pre
  have htA : ∀ w ∈ wsA, w.before _ s = true := fun w h => hts w (List.mem_cons_of_mem _ h)
  have hown : s.vm.findClass RX0 = some m.cls := findClass_of_methodNamed B.named
  have hlocks := B.notSynchronized
  subst hsz
  have hD := hD0.self (sz := s.heap.size)
  generalize hAe : va_A [] s.heap.size = A at hD ⊢
  have hA : ∀ q : Nat, s.heap.size ≤ q → A q := fun q h => by rw [← hAe]; exact Or.inr h
  have hS : va_S A s.heap s.heap [] := va_S.rf
  have hP : va_P (dC, dI) vwCl [] s.heap := hP
  have hl := lv_entry ([.int p0]) (n := 1) (Nat.le_of_ble_eq_true rfl)
  rw [lg_entry_eq]
  generalize (lg_sl ([.int p0]) ++ List.replicate (1 - (lg_sl ([.int p0])).length) Slot.unset).toArray = ls at hl ⊢
  have hl : lv_has ls 1 [(0, .int p0)] := hl
  refine lv_iload_n hx hb dX0_noMask_0 rfl (lv_at hl 0 rfl) ?_
  refine lv_if_ge (tgt := 13) hx hb dX0_noMask_1 (by decide) (fun cb_5 => ?_) (fun cb_5 => ?_)
  · refine lv_iconst (v := 0) hx hb dX0_noMask_13 (by decide) ?_
    exact W.iret (v := 0) hx hb hr (fun t ht hW => ⟨⟨0, (), rfl, (if_neg (Int32.not_lt.mpr cb_5)).symm, by rw [ht]; exact hP, va_K.moved hW.alike hK, hD⟩, hS.F ht⟩) hS.2.2 dX0_noMask_14
  · refine lv_iconst (v := 1) hx hb dX0_noMask_4 (by decide) ?_
    refine lv_iload_n hx hb dX0_noMask_5 rfl (lv_at hl 0 rfl) ?_
    refine lv_ineg hx hb dX0_noMask_6 ?_
    refine lv_iconst (v := 1) hx hb dX0_noMask_7 (by decide) ?_
    refine lv_isub hx hb dX0_noMask_8 ?_
    refine lv_ishl hx hb dX0_noMask_9 ?_
    refine lv_goto (tgt := 14) hx hb dX0_noMask_10 (by decide) ?_
    exact W.iret (v := (1 : Int32) <<< (((-p0) - 1) &&& 31)) hx hb hr (fun t ht hW => ⟨⟨(1 : Int32) <<< (((-p0) - 1) &&& 31), (), rfl, (if_pos (Int32.not_le.mp cb_5)).symm, by rw [ht]; exact hP, va_K.moved hW.alike hK, hD⟩, hS.F ht⟩) hS.2.2 dX0_noMask_14
set_option maxHeartbeats 4000000 in
set_option maxRecDepth 100000 in
theorem c_ntz32 (l : Launch) (dC : Nat → ClassId) (dI : Nat → Nat → Nat) (x : Int32) (t0 : Nat) (sz : Nat) (ht0 : t0 < 32) (h1 : yb x t0 = true) (h0 : ∀ j, j < t0 → yb x j = false) : Met l yJI_numberOfTrailingZeros wsJI_numberOfTrailingZeros ({ frames := 0, cells := 0, slots := 0, locals := 0 }) (va_Pc [.int x] (fun U => U.heap.size = sz ∧ va_P (dC, dI) vwCl [] U.heap ∧ va_K (dC, dI) vwCl [] U ∧ va_D (fun _ => True) [])) (va_Qi (fun (r : Int32) (u : Unit) => r = nI t0) (fun (u : Unit) (t : State) => va_P (dC, dI) vwCl [] t.heap ∧ va_K (dC, dI) vwCl [] t ∧ va_D (va_A [] sz) []) (va_A [] sz)) 0 0 (va_A [] sz) := by
  refine Met.ofW (cc := cJI_numberOfTrailingZeros) (maxL := 2) (ret := (some .int)) (by decide) rfl ?_
  intro p e s m args below meth c s₁ B hml hv
  obtain ⟨rfl, hsz, hP, hK, hD0⟩ := hv
  have hx := B.exec
  have hb := B.bytes
  have hr := B.returns
  have hts := atoms_spec (ws := wsJI_numberOfTrailingZeros) B.pre
  have htA : ∀ w ∈ wsA, w.before _ s = true := fun w h => hts w (List.mem_cons_of_mem _ h)
  have hown : s.vm.findClass RJI = some m.cls := findClass_of_methodNamed B.named
  have hlocks := B.notSynchronized
  subst hsz
  have hD := hD0.self (sz := s.heap.size)
  generalize hAe : va_A [] s.heap.size = A at hD ⊢
  have hA : ∀ q : Nat, s.heap.size ≤ q → A q := fun q h => by rw [← hAe]; exact Or.inr h
  have hS : va_S A s.heap s.heap [] := va_S.rf
  have hP : va_P (dC, dI) vwCl [] s.heap := hP
  have hl := lv_entry ([.int x]) (n := 2) (Nat.le_of_ble_eq_true rfl)
  rw [lg_entry_eq]
  generalize (lg_sl ([.int x]) ++ List.replicate (2 - (lg_sl ([.int x])).length) Slot.unset).toArray = ls at hl ⊢
  have hl : lv_has ls 2 [(0, .int x)] := hl
  refine lv_iload_n hx hb dJI_numberOfTrailingZeros_0 rfl (lv_at hl 0 rfl) ?_
  refine lv_iconst (v := (-1)) hx hb dJI_numberOfTrailingZeros_1 (by decide) ?_
  refine lv_ixor hx hb dJI_numberOfTrailingZeros_2 ?_
  refine lv_iload_n hx hb dJI_numberOfTrailingZeros_3 rfl (lv_at hl 0 rfl) ?_
  refine lv_iconst (v := 1) hx hb dJI_numberOfTrailingZeros_4 (by decide) ?_
  refine lv_isub hx hb dJI_numberOfTrailingZeros_5 ?_
  refine lv_iand hx hb dJI_numberOfTrailingZeros_6 ?_
  refine W.eq (g2 := F0 m 7 ls [.int (nI (2 ^ t0 - 1))]) (by rw [y_low1 h1 h0]) ?_
  refine lv_istore_n (lv' := [(0, .int (nI (2 ^ t0 - 1)))]) hx hb dJI_numberOfTrailingZeros_7 rfl hl (by decide) rfl (fun ls hl => ?_)
  refine lv_iload_n hx hb dJI_numberOfTrailingZeros_8 rfl (lv_at hl 0 rfl) ?_
  refine lv_if_gt (tgt := 17) hx hb dJI_numberOfTrailingZeros_9 (by decide) (fun cb_6 => ?_) (fun cb_6 => ?_)
  · refine lv_iconst (v := 1) hx hb dJI_numberOfTrailingZeros_17 (by decide) ?_
    refine lv_istore_n (lv' := [(1, .int 1), (0, .int (nI (2 ^ t0 - 1)))]) hx hb dJI_numberOfTrailingZeros_18 rfl hl (by decide) rfl (fun ls hl => ?_)
    refine lv_iload_n hx hb dJI_numberOfTrailingZeros_19 rfl (lv_at hl 1 rfl) ?_
    refine lv_ldcw (own := RJI) (v := 65536) hx hb hown (htA _ lkJI_264) dJI_numberOfTrailingZeros_20 ?_
    refine lv_icmp_le (tgt := 34) hx hb dJI_numberOfTrailingZeros_23 (by decide) (fun cb_7 => ?_) (fun cb_7 => ?_)
    · refine lv_iload_n hx hb dJI_numberOfTrailingZeros_34 rfl (lv_at hl 1 rfl) ?_
      refine lv_sipush (v := 256) hx hb dJI_numberOfTrailingZeros_35 (by decide) ?_
      refine lv_icmp_le (tgt := 49) hx hb dJI_numberOfTrailingZeros_38 (by decide) (fun cb_8 => ?_) (fun cb_8 => ?_)
      · refine lv_iload_n hx hb dJI_numberOfTrailingZeros_49 rfl (lv_at hl 1 rfl) ?_
        refine lv_bipush (v := 16) hx hb dJI_numberOfTrailingZeros_50 (by decide) ?_
        refine lv_icmp_le (tgt := 62) hx hb dJI_numberOfTrailingZeros_52 (by decide) (fun cb_9 => ?_) (fun cb_9 => ?_)
        · refine lv_iload_n hx hb dJI_numberOfTrailingZeros_62 rfl (lv_at hl 1 rfl) ?_
          refine lv_iconst (v := 4) hx hb dJI_numberOfTrailingZeros_63 (by decide) ?_
          refine lv_icmp_le (tgt := 74) hx hb dJI_numberOfTrailingZeros_64 (by decide) (fun cb_10 => ?_) (fun cb_10 => ?_)
          · refine lv_iload_n hx hb dJI_numberOfTrailingZeros_74 rfl (lv_at hl 0 rfl) ?_
            refine lv_iload_n hx hb dJI_numberOfTrailingZeros_75 rfl (lv_at hl 1 rfl) ?_
            refine lv_iconst (v := 1) hx hb dJI_numberOfTrailingZeros_76 (by decide) ?_
            refine lv_iushr (v := ((nI (2 ^ t0 - 1)).toUInt32 >>> ((1 : Int32).toUInt32 &&& Int32.toUInt32 31)).toInt32) hx hb dJI_numberOfTrailingZeros_77 rfl ?_
            refine lv_iadd hx hb dJI_numberOfTrailingZeros_78 ?_
            exact W.iret (v := 1 + (((nI (2 ^ t0 - 1)).toUInt32 >>> ((1 : Int32).toUInt32 &&& Int32.toUInt32 31)).toInt32)) hx hb hr (fun t ht hW => ⟨⟨1 + (((nI (2 ^ t0 - 1)).toUInt32 >>> ((1 : Int32).toUInt32 &&& Int32.toUInt32 31)).toInt32), (), rfl, (by decide +kernel : ∀ t0, t0 < 32 → (0 < nI (2 ^ t0 - 1) ∧ (nI (2 ^ t0 - 1)) ≤ 65536 ∧ (nI (2 ^ t0 - 1)) ≤ 256 ∧ (nI (2 ^ t0 - 1)) ≤ 16 ∧ (nI (2 ^ t0 - 1)) ≤ 4) → 1 + (((nI (2 ^ t0 - 1)).toUInt32 >>> ((1 : Int32).toUInt32 &&& Int32.toUInt32 31)).toInt32) = nI t0) t0 ht0 ⟨cb_6, cb_7, cb_8, cb_9, cb_10⟩, by rw [ht]; exact hP, va_K.moved hW.alike hK, hD⟩, hS.F ht⟩) hS.2.2 dJI_numberOfTrailingZeros_79
          · refine lv_iinc (v := 1 + 2) (lv' := [(1, .int (1 + 2)), (0, .int (nI (2 ^ t0 - 1)))]) hx hb dJI_numberOfTrailingZeros_67 hl (k := 0) rfl rfl (by decide) rfl (fun ls hl => ?_)
            refine lv_iload_n hx hb dJI_numberOfTrailingZeros_70 rfl (lv_at hl 1 rfl) ?_
            refine lv_iconst (v := 2) hx hb dJI_numberOfTrailingZeros_71 (by decide) ?_
            refine lv_iushr (v := ((nI (2 ^ t0 - 1)).toUInt32 >>> ((2 : Int32).toUInt32 &&& Int32.toUInt32 31)).toInt32) hx hb dJI_numberOfTrailingZeros_72 rfl ?_
            refine lv_istore_n (lv' := [(0, .int (((nI (2 ^ t0 - 1)).toUInt32 >>> ((2 : Int32).toUInt32 &&& Int32.toUInt32 31)).toInt32)), (1, .int (1 + 2))]) hx hb dJI_numberOfTrailingZeros_73 rfl hl (by decide) rfl (fun ls hl => ?_)
            refine lv_iload_n hx hb dJI_numberOfTrailingZeros_74 rfl (lv_at hl 1 rfl) ?_
            refine lv_iload_n hx hb dJI_numberOfTrailingZeros_75 rfl (lv_at hl 0 rfl) ?_
            refine lv_iconst (v := 1) hx hb dJI_numberOfTrailingZeros_76 (by decide) ?_
            refine lv_iushr (v := ((((nI (2 ^ t0 - 1)).toUInt32 >>> ((2 : Int32).toUInt32 &&& Int32.toUInt32 31)).toInt32).toUInt32 >>> ((1 : Int32).toUInt32 &&& Int32.toUInt32 31)).toInt32) hx hb dJI_numberOfTrailingZeros_77 rfl ?_
            refine lv_iadd hx hb dJI_numberOfTrailingZeros_78 ?_
            exact W.iret (v := (1 + 2) + (((((nI (2 ^ t0 - 1)).toUInt32 >>> ((2 : Int32).toUInt32 &&& Int32.toUInt32 31)).toInt32).toUInt32 >>> ((1 : Int32).toUInt32 &&& Int32.toUInt32 31)).toInt32)) hx hb hr (fun t ht hW => ⟨⟨(1 + 2) + (((((nI (2 ^ t0 - 1)).toUInt32 >>> ((2 : Int32).toUInt32 &&& Int32.toUInt32 31)).toInt32).toUInt32 >>> ((1 : Int32).toUInt32 &&& Int32.toUInt32 31)).toInt32), (), rfl, (by decide +kernel : ∀ t0, t0 < 32 → (0 < nI (2 ^ t0 - 1) ∧ (nI (2 ^ t0 - 1)) ≤ 65536 ∧ (nI (2 ^ t0 - 1)) ≤ 256 ∧ (nI (2 ^ t0 - 1)) ≤ 16 ∧ ¬ (nI (2 ^ t0 - 1)) ≤ 4) → (1 + 2) + (((((nI (2 ^ t0 - 1)).toUInt32 >>> ((2 : Int32).toUInt32 &&& Int32.toUInt32 31)).toInt32).toUInt32 >>> ((1 : Int32).toUInt32 &&& Int32.toUInt32 31)).toInt32) = nI t0) t0 ht0 ⟨cb_6, cb_7, cb_8, cb_9, cb_10⟩, by rw [ht]; exact hP, va_K.moved hW.alike hK, hD⟩, hS.F ht⟩) hS.2.2 dJI_numberOfTrailingZeros_79
        · refine lv_iinc (v := 1 + 4) (lv' := [(1, .int (1 + 4)), (0, .int (nI (2 ^ t0 - 1)))]) hx hb dJI_numberOfTrailingZeros_55 hl (k := 0) rfl rfl (by decide) rfl (fun ls hl => ?_)
          refine lv_iload_n hx hb dJI_numberOfTrailingZeros_58 rfl (lv_at hl 1 rfl) ?_
          refine lv_iconst (v := 4) hx hb dJI_numberOfTrailingZeros_59 (by decide) ?_
          refine lv_iushr (v := ((nI (2 ^ t0 - 1)).toUInt32 >>> ((4 : Int32).toUInt32 &&& Int32.toUInt32 31)).toInt32) hx hb dJI_numberOfTrailingZeros_60 rfl ?_
          refine lv_istore_n (lv' := [(0, .int (((nI (2 ^ t0 - 1)).toUInt32 >>> ((4 : Int32).toUInt32 &&& Int32.toUInt32 31)).toInt32)), (1, .int (1 + 4))]) hx hb dJI_numberOfTrailingZeros_61 rfl hl (by decide) rfl (fun ls hl => ?_)
          refine lv_iload_n hx hb dJI_numberOfTrailingZeros_62 rfl (lv_at hl 0 rfl) ?_
          refine lv_iconst (v := 4) hx hb dJI_numberOfTrailingZeros_63 (by decide) ?_
          refine lv_icmp_le (tgt := 74) hx hb dJI_numberOfTrailingZeros_64 (by decide) (fun cb_11 => ?_) (fun cb_11 => ?_)
          · refine lv_iload_n hx hb dJI_numberOfTrailingZeros_74 rfl (lv_at hl 1 rfl) ?_
            refine lv_iload_n hx hb dJI_numberOfTrailingZeros_75 rfl (lv_at hl 0 rfl) ?_
            refine lv_iconst (v := 1) hx hb dJI_numberOfTrailingZeros_76 (by decide) ?_
            refine lv_iushr (v := ((((nI (2 ^ t0 - 1)).toUInt32 >>> ((4 : Int32).toUInt32 &&& Int32.toUInt32 31)).toInt32).toUInt32 >>> ((1 : Int32).toUInt32 &&& Int32.toUInt32 31)).toInt32) hx hb dJI_numberOfTrailingZeros_77 rfl ?_
            refine lv_iadd hx hb dJI_numberOfTrailingZeros_78 ?_
            exact W.iret (v := (1 + 4) + (((((nI (2 ^ t0 - 1)).toUInt32 >>> ((4 : Int32).toUInt32 &&& Int32.toUInt32 31)).toInt32).toUInt32 >>> ((1 : Int32).toUInt32 &&& Int32.toUInt32 31)).toInt32)) hx hb hr (fun t ht hW => ⟨⟨(1 + 4) + (((((nI (2 ^ t0 - 1)).toUInt32 >>> ((4 : Int32).toUInt32 &&& Int32.toUInt32 31)).toInt32).toUInt32 >>> ((1 : Int32).toUInt32 &&& Int32.toUInt32 31)).toInt32), (), rfl, (by decide +kernel : ∀ t0, t0 < 32 → (0 < nI (2 ^ t0 - 1) ∧ (nI (2 ^ t0 - 1)) ≤ 65536 ∧ (nI (2 ^ t0 - 1)) ≤ 256 ∧ ¬ (nI (2 ^ t0 - 1)) ≤ 16 ∧ (((nI (2 ^ t0 - 1)).toUInt32 >>> ((4 : Int32).toUInt32 &&& Int32.toUInt32 31)).toInt32) ≤ 4) → (1 + 4) + (((((nI (2 ^ t0 - 1)).toUInt32 >>> ((4 : Int32).toUInt32 &&& Int32.toUInt32 31)).toInt32).toUInt32 >>> ((1 : Int32).toUInt32 &&& Int32.toUInt32 31)).toInt32) = nI t0) t0 ht0 ⟨cb_6, cb_7, cb_8, cb_9, cb_11⟩, by rw [ht]; exact hP, va_K.moved hW.alike hK, hD⟩, hS.F ht⟩) hS.2.2 dJI_numberOfTrailingZeros_79
          · refine lv_iinc (v := (1 + 4) + 2) (lv' := [(1, .int ((1 + 4) + 2)), (0, .int (((nI (2 ^ t0 - 1)).toUInt32 >>> ((4 : Int32).toUInt32 &&& Int32.toUInt32 31)).toInt32))]) hx hb dJI_numberOfTrailingZeros_67 hl (k := 1) rfl rfl (by decide) rfl (fun ls hl => ?_)
            refine lv_iload_n hx hb dJI_numberOfTrailingZeros_70 rfl (lv_at hl 1 rfl) ?_
            refine lv_iconst (v := 2) hx hb dJI_numberOfTrailingZeros_71 (by decide) ?_
            refine lv_iushr (v := ((((nI (2 ^ t0 - 1)).toUInt32 >>> ((4 : Int32).toUInt32 &&& Int32.toUInt32 31)).toInt32).toUInt32 >>> ((2 : Int32).toUInt32 &&& Int32.toUInt32 31)).toInt32) hx hb dJI_numberOfTrailingZeros_72 rfl ?_
            refine lv_istore_n (lv' := [(0, .int (((((nI (2 ^ t0 - 1)).toUInt32 >>> ((4 : Int32).toUInt32 &&& Int32.toUInt32 31)).toInt32).toUInt32 >>> ((2 : Int32).toUInt32 &&& Int32.toUInt32 31)).toInt32)), (1, .int ((1 + 4) + 2))]) hx hb dJI_numberOfTrailingZeros_73 rfl hl (by decide) rfl (fun ls hl => ?_)
            refine lv_iload_n hx hb dJI_numberOfTrailingZeros_74 rfl (lv_at hl 1 rfl) ?_
            refine lv_iload_n hx hb dJI_numberOfTrailingZeros_75 rfl (lv_at hl 0 rfl) ?_
            refine lv_iconst (v := 1) hx hb dJI_numberOfTrailingZeros_76 (by decide) ?_
            refine lv_iushr (v := ((((((nI (2 ^ t0 - 1)).toUInt32 >>> ((4 : Int32).toUInt32 &&& Int32.toUInt32 31)).toInt32).toUInt32 >>> ((2 : Int32).toUInt32 &&& Int32.toUInt32 31)).toInt32).toUInt32 >>> ((1 : Int32).toUInt32 &&& Int32.toUInt32 31)).toInt32) hx hb dJI_numberOfTrailingZeros_77 rfl ?_
            refine lv_iadd hx hb dJI_numberOfTrailingZeros_78 ?_
            exact W.iret (v := ((1 + 4) + 2) + (((((((nI (2 ^ t0 - 1)).toUInt32 >>> ((4 : Int32).toUInt32 &&& Int32.toUInt32 31)).toInt32).toUInt32 >>> ((2 : Int32).toUInt32 &&& Int32.toUInt32 31)).toInt32).toUInt32 >>> ((1 : Int32).toUInt32 &&& Int32.toUInt32 31)).toInt32)) hx hb hr (fun t ht hW => ⟨⟨((1 + 4) + 2) + (((((((nI (2 ^ t0 - 1)).toUInt32 >>> ((4 : Int32).toUInt32 &&& Int32.toUInt32 31)).toInt32).toUInt32 >>> ((2 : Int32).toUInt32 &&& Int32.toUInt32 31)).toInt32).toUInt32 >>> ((1 : Int32).toUInt32 &&& Int32.toUInt32 31)).toInt32), (), rfl, (by decide +kernel : ∀ t0, t0 < 32 → (0 < nI (2 ^ t0 - 1) ∧ (nI (2 ^ t0 - 1)) ≤ 65536 ∧ (nI (2 ^ t0 - 1)) ≤ 256 ∧ ¬ (nI (2 ^ t0 - 1)) ≤ 16 ∧ ¬ (((nI (2 ^ t0 - 1)).toUInt32 >>> ((4 : Int32).toUInt32 &&& Int32.toUInt32 31)).toInt32) ≤ 4) → ((1 + 4) + 2) + (((((((nI (2 ^ t0 - 1)).toUInt32 >>> ((4 : Int32).toUInt32 &&& Int32.toUInt32 31)).toInt32).toUInt32 >>> ((2 : Int32).toUInt32 &&& Int32.toUInt32 31)).toInt32).toUInt32 >>> ((1 : Int32).toUInt32 &&& Int32.toUInt32 31)).toInt32) = nI t0) t0 ht0 ⟨cb_6, cb_7, cb_8, cb_9, cb_11⟩, by rw [ht]; exact hP, va_K.moved hW.alike hK, hD⟩, hS.F ht⟩) hS.2.2 dJI_numberOfTrailingZeros_79
      · refine lv_iinc (v := 1 + 8) (lv' := [(1, .int (1 + 8)), (0, .int (nI (2 ^ t0 - 1)))]) hx hb dJI_numberOfTrailingZeros_41 hl (k := 0) rfl rfl (by decide) rfl (fun ls hl => ?_)
        refine lv_iload_n hx hb dJI_numberOfTrailingZeros_44 rfl (lv_at hl 1 rfl) ?_
        refine lv_bipush (v := 8) hx hb dJI_numberOfTrailingZeros_45 (by decide) ?_
        refine lv_iushr (v := ((nI (2 ^ t0 - 1)).toUInt32 >>> ((8 : Int32).toUInt32 &&& Int32.toUInt32 31)).toInt32) hx hb dJI_numberOfTrailingZeros_47 rfl ?_
        refine lv_istore_n (lv' := [(0, .int (((nI (2 ^ t0 - 1)).toUInt32 >>> ((8 : Int32).toUInt32 &&& Int32.toUInt32 31)).toInt32)), (1, .int (1 + 8))]) hx hb dJI_numberOfTrailingZeros_48 rfl hl (by decide) rfl (fun ls hl => ?_)
        refine lv_iload_n hx hb dJI_numberOfTrailingZeros_49 rfl (lv_at hl 0 rfl) ?_
        refine lv_bipush (v := 16) hx hb dJI_numberOfTrailingZeros_50 (by decide) ?_
        refine lv_icmp_le (tgt := 62) hx hb dJI_numberOfTrailingZeros_52 (by decide) (fun cb_12 => ?_) (fun cb_12 => ?_)
        · refine lv_iload_n hx hb dJI_numberOfTrailingZeros_62 rfl (lv_at hl 0 rfl) ?_
          refine lv_iconst (v := 4) hx hb dJI_numberOfTrailingZeros_63 (by decide) ?_
          refine lv_icmp_le (tgt := 74) hx hb dJI_numberOfTrailingZeros_64 (by decide) (fun cb_13 => ?_) (fun cb_13 => ?_)
          · refine lv_iload_n hx hb dJI_numberOfTrailingZeros_74 rfl (lv_at hl 1 rfl) ?_
            refine lv_iload_n hx hb dJI_numberOfTrailingZeros_75 rfl (lv_at hl 0 rfl) ?_
            refine lv_iconst (v := 1) hx hb dJI_numberOfTrailingZeros_76 (by decide) ?_
            refine lv_iushr (v := ((((nI (2 ^ t0 - 1)).toUInt32 >>> ((8 : Int32).toUInt32 &&& Int32.toUInt32 31)).toInt32).toUInt32 >>> ((1 : Int32).toUInt32 &&& Int32.toUInt32 31)).toInt32) hx hb dJI_numberOfTrailingZeros_77 rfl ?_
            refine lv_iadd hx hb dJI_numberOfTrailingZeros_78 ?_
            exact W.iret (v := (1 + 8) + (((((nI (2 ^ t0 - 1)).toUInt32 >>> ((8 : Int32).toUInt32 &&& Int32.toUInt32 31)).toInt32).toUInt32 >>> ((1 : Int32).toUInt32 &&& Int32.toUInt32 31)).toInt32)) hx hb hr (fun t ht hW => ⟨⟨(1 + 8) + (((((nI (2 ^ t0 - 1)).toUInt32 >>> ((8 : Int32).toUInt32 &&& Int32.toUInt32 31)).toInt32).toUInt32 >>> ((1 : Int32).toUInt32 &&& Int32.toUInt32 31)).toInt32), (), rfl, (by decide +kernel : ∀ t0, t0 < 32 → (0 < nI (2 ^ t0 - 1) ∧ (nI (2 ^ t0 - 1)) ≤ 65536 ∧ ¬ (nI (2 ^ t0 - 1)) ≤ 256 ∧ (((nI (2 ^ t0 - 1)).toUInt32 >>> ((8 : Int32).toUInt32 &&& Int32.toUInt32 31)).toInt32) ≤ 16 ∧ (((nI (2 ^ t0 - 1)).toUInt32 >>> ((8 : Int32).toUInt32 &&& Int32.toUInt32 31)).toInt32) ≤ 4) → (1 + 8) + (((((nI (2 ^ t0 - 1)).toUInt32 >>> ((8 : Int32).toUInt32 &&& Int32.toUInt32 31)).toInt32).toUInt32 >>> ((1 : Int32).toUInt32 &&& Int32.toUInt32 31)).toInt32) = nI t0) t0 ht0 ⟨cb_6, cb_7, cb_8, cb_12, cb_13⟩, by rw [ht]; exact hP, va_K.moved hW.alike hK, hD⟩, hS.F ht⟩) hS.2.2 dJI_numberOfTrailingZeros_79
          · refine lv_iinc (v := (1 + 8) + 2) (lv' := [(1, .int ((1 + 8) + 2)), (0, .int (((nI (2 ^ t0 - 1)).toUInt32 >>> ((8 : Int32).toUInt32 &&& Int32.toUInt32 31)).toInt32))]) hx hb dJI_numberOfTrailingZeros_67 hl (k := 1) rfl rfl (by decide) rfl (fun ls hl => ?_)
            refine lv_iload_n hx hb dJI_numberOfTrailingZeros_70 rfl (lv_at hl 1 rfl) ?_
            refine lv_iconst (v := 2) hx hb dJI_numberOfTrailingZeros_71 (by decide) ?_
            refine lv_iushr (v := ((((nI (2 ^ t0 - 1)).toUInt32 >>> ((8 : Int32).toUInt32 &&& Int32.toUInt32 31)).toInt32).toUInt32 >>> ((2 : Int32).toUInt32 &&& Int32.toUInt32 31)).toInt32) hx hb dJI_numberOfTrailingZeros_72 rfl ?_
            refine lv_istore_n (lv' := [(0, .int (((((nI (2 ^ t0 - 1)).toUInt32 >>> ((8 : Int32).toUInt32 &&& Int32.toUInt32 31)).toInt32).toUInt32 >>> ((2 : Int32).toUInt32 &&& Int32.toUInt32 31)).toInt32)), (1, .int ((1 + 8) + 2))]) hx hb dJI_numberOfTrailingZeros_73 rfl hl (by decide) rfl (fun ls hl => ?_)
            refine lv_iload_n hx hb dJI_numberOfTrailingZeros_74 rfl (lv_at hl 1 rfl) ?_
            refine lv_iload_n hx hb dJI_numberOfTrailingZeros_75 rfl (lv_at hl 0 rfl) ?_
            refine lv_iconst (v := 1) hx hb dJI_numberOfTrailingZeros_76 (by decide) ?_
            refine lv_iushr (v := ((((((nI (2 ^ t0 - 1)).toUInt32 >>> ((8 : Int32).toUInt32 &&& Int32.toUInt32 31)).toInt32).toUInt32 >>> ((2 : Int32).toUInt32 &&& Int32.toUInt32 31)).toInt32).toUInt32 >>> ((1 : Int32).toUInt32 &&& Int32.toUInt32 31)).toInt32) hx hb dJI_numberOfTrailingZeros_77 rfl ?_
            refine lv_iadd hx hb dJI_numberOfTrailingZeros_78 ?_
            exact W.iret (v := ((1 + 8) + 2) + (((((((nI (2 ^ t0 - 1)).toUInt32 >>> ((8 : Int32).toUInt32 &&& Int32.toUInt32 31)).toInt32).toUInt32 >>> ((2 : Int32).toUInt32 &&& Int32.toUInt32 31)).toInt32).toUInt32 >>> ((1 : Int32).toUInt32 &&& Int32.toUInt32 31)).toInt32)) hx hb hr (fun t ht hW => ⟨⟨((1 + 8) + 2) + (((((((nI (2 ^ t0 - 1)).toUInt32 >>> ((8 : Int32).toUInt32 &&& Int32.toUInt32 31)).toInt32).toUInt32 >>> ((2 : Int32).toUInt32 &&& Int32.toUInt32 31)).toInt32).toUInt32 >>> ((1 : Int32).toUInt32 &&& Int32.toUInt32 31)).toInt32), (), rfl, (by decide +kernel : ∀ t0, t0 < 32 → (0 < nI (2 ^ t0 - 1) ∧ (nI (2 ^ t0 - 1)) ≤ 65536 ∧ ¬ (nI (2 ^ t0 - 1)) ≤ 256 ∧ (((nI (2 ^ t0 - 1)).toUInt32 >>> ((8 : Int32).toUInt32 &&& Int32.toUInt32 31)).toInt32) ≤ 16 ∧ ¬ (((nI (2 ^ t0 - 1)).toUInt32 >>> ((8 : Int32).toUInt32 &&& Int32.toUInt32 31)).toInt32) ≤ 4) → ((1 + 8) + 2) + (((((((nI (2 ^ t0 - 1)).toUInt32 >>> ((8 : Int32).toUInt32 &&& Int32.toUInt32 31)).toInt32).toUInt32 >>> ((2 : Int32).toUInt32 &&& Int32.toUInt32 31)).toInt32).toUInt32 >>> ((1 : Int32).toUInt32 &&& Int32.toUInt32 31)).toInt32) = nI t0) t0 ht0 ⟨cb_6, cb_7, cb_8, cb_12, cb_13⟩, by rw [ht]; exact hP, va_K.moved hW.alike hK, hD⟩, hS.F ht⟩) hS.2.2 dJI_numberOfTrailingZeros_79
        · refine lv_iinc (v := (1 + 8) + 4) (lv' := [(1, .int ((1 + 8) + 4)), (0, .int (((nI (2 ^ t0 - 1)).toUInt32 >>> ((8 : Int32).toUInt32 &&& Int32.toUInt32 31)).toInt32))]) hx hb dJI_numberOfTrailingZeros_55 hl (k := 1) rfl rfl (by decide) rfl (fun ls hl => ?_)
          refine lv_iload_n hx hb dJI_numberOfTrailingZeros_58 rfl (lv_at hl 1 rfl) ?_
          refine lv_iconst (v := 4) hx hb dJI_numberOfTrailingZeros_59 (by decide) ?_
          refine lv_iushr (v := ((((nI (2 ^ t0 - 1)).toUInt32 >>> ((8 : Int32).toUInt32 &&& Int32.toUInt32 31)).toInt32).toUInt32 >>> ((4 : Int32).toUInt32 &&& Int32.toUInt32 31)).toInt32) hx hb dJI_numberOfTrailingZeros_60 rfl ?_
          refine lv_istore_n (lv' := [(0, .int (((((nI (2 ^ t0 - 1)).toUInt32 >>> ((8 : Int32).toUInt32 &&& Int32.toUInt32 31)).toInt32).toUInt32 >>> ((4 : Int32).toUInt32 &&& Int32.toUInt32 31)).toInt32)), (1, .int ((1 + 8) + 4))]) hx hb dJI_numberOfTrailingZeros_61 rfl hl (by decide) rfl (fun ls hl => ?_)
          refine lv_iload_n hx hb dJI_numberOfTrailingZeros_62 rfl (lv_at hl 0 rfl) ?_
          refine lv_iconst (v := 4) hx hb dJI_numberOfTrailingZeros_63 (by decide) ?_
          refine lv_icmp_le (tgt := 74) hx hb dJI_numberOfTrailingZeros_64 (by decide) (fun cb_14 => ?_) (fun cb_14 => ?_)
          · refine lv_iload_n hx hb dJI_numberOfTrailingZeros_74 rfl (lv_at hl 1 rfl) ?_
            refine lv_iload_n hx hb dJI_numberOfTrailingZeros_75 rfl (lv_at hl 0 rfl) ?_
            refine lv_iconst (v := 1) hx hb dJI_numberOfTrailingZeros_76 (by decide) ?_
            refine lv_iushr (v := ((((((nI (2 ^ t0 - 1)).toUInt32 >>> ((8 : Int32).toUInt32 &&& Int32.toUInt32 31)).toInt32).toUInt32 >>> ((4 : Int32).toUInt32 &&& Int32.toUInt32 31)).toInt32).toUInt32 >>> ((1 : Int32).toUInt32 &&& Int32.toUInt32 31)).toInt32) hx hb dJI_numberOfTrailingZeros_77 rfl ?_
            refine lv_iadd hx hb dJI_numberOfTrailingZeros_78 ?_
            exact W.iret (v := ((1 + 8) + 4) + (((((((nI (2 ^ t0 - 1)).toUInt32 >>> ((8 : Int32).toUInt32 &&& Int32.toUInt32 31)).toInt32).toUInt32 >>> ((4 : Int32).toUInt32 &&& Int32.toUInt32 31)).toInt32).toUInt32 >>> ((1 : Int32).toUInt32 &&& Int32.toUInt32 31)).toInt32)) hx hb hr (fun t ht hW => ⟨⟨((1 + 8) + 4) + (((((((nI (2 ^ t0 - 1)).toUInt32 >>> ((8 : Int32).toUInt32 &&& Int32.toUInt32 31)).toInt32).toUInt32 >>> ((4 : Int32).toUInt32 &&& Int32.toUInt32 31)).toInt32).toUInt32 >>> ((1 : Int32).toUInt32 &&& Int32.toUInt32 31)).toInt32), (), rfl, (by decide +kernel : ∀ t0, t0 < 32 → (0 < nI (2 ^ t0 - 1) ∧ (nI (2 ^ t0 - 1)) ≤ 65536 ∧ ¬ (nI (2 ^ t0 - 1)) ≤ 256 ∧ ¬ (((nI (2 ^ t0 - 1)).toUInt32 >>> ((8 : Int32).toUInt32 &&& Int32.toUInt32 31)).toInt32) ≤ 16 ∧ (((((nI (2 ^ t0 - 1)).toUInt32 >>> ((8 : Int32).toUInt32 &&& Int32.toUInt32 31)).toInt32).toUInt32 >>> ((4 : Int32).toUInt32 &&& Int32.toUInt32 31)).toInt32) ≤ 4) → ((1 + 8) + 4) + (((((((nI (2 ^ t0 - 1)).toUInt32 >>> ((8 : Int32).toUInt32 &&& Int32.toUInt32 31)).toInt32).toUInt32 >>> ((4 : Int32).toUInt32 &&& Int32.toUInt32 31)).toInt32).toUInt32 >>> ((1 : Int32).toUInt32 &&& Int32.toUInt32 31)).toInt32) = nI t0) t0 ht0 ⟨cb_6, cb_7, cb_8, cb_12, cb_14⟩, by rw [ht]; exact hP, va_K.moved hW.alike hK, hD⟩, hS.F ht⟩) hS.2.2 dJI_numberOfTrailingZeros_79
          · refine lv_iinc (v := ((1 + 8) + 4) + 2) (lv' := [(1, .int (((1 + 8) + 4) + 2)), (0, .int (((((nI (2 ^ t0 - 1)).toUInt32 >>> ((8 : Int32).toUInt32 &&& Int32.toUInt32 31)).toInt32).toUInt32 >>> ((4 : Int32).toUInt32 &&& Int32.toUInt32 31)).toInt32))]) hx hb dJI_numberOfTrailingZeros_67 hl (k := 1) rfl rfl (by decide) rfl (fun ls hl => ?_)
            refine lv_iload_n hx hb dJI_numberOfTrailingZeros_70 rfl (lv_at hl 1 rfl) ?_
            refine lv_iconst (v := 2) hx hb dJI_numberOfTrailingZeros_71 (by decide) ?_
            refine lv_iushr (v := ((((((nI (2 ^ t0 - 1)).toUInt32 >>> ((8 : Int32).toUInt32 &&& Int32.toUInt32 31)).toInt32).toUInt32 >>> ((4 : Int32).toUInt32 &&& Int32.toUInt32 31)).toInt32).toUInt32 >>> ((2 : Int32).toUInt32 &&& Int32.toUInt32 31)).toInt32) hx hb dJI_numberOfTrailingZeros_72 rfl ?_
            refine lv_istore_n (lv' := [(0, .int (((((((nI (2 ^ t0 - 1)).toUInt32 >>> ((8 : Int32).toUInt32 &&& Int32.toUInt32 31)).toInt32).toUInt32 >>> ((4 : Int32).toUInt32 &&& Int32.toUInt32 31)).toInt32).toUInt32 >>> ((2 : Int32).toUInt32 &&& Int32.toUInt32 31)).toInt32)), (1, .int (((1 + 8) + 4) + 2))]) hx hb dJI_numberOfTrailingZeros_73 rfl hl (by decide) rfl (fun ls hl => ?_)
            refine lv_iload_n hx hb dJI_numberOfTrailingZeros_74 rfl (lv_at hl 1 rfl) ?_
            refine lv_iload_n hx hb dJI_numberOfTrailingZeros_75 rfl (lv_at hl 0 rfl) ?_
            refine lv_iconst (v := 1) hx hb dJI_numberOfTrailingZeros_76 (by decide) ?_
            refine lv_iushr (v := ((((((((nI (2 ^ t0 - 1)).toUInt32 >>> ((8 : Int32).toUInt32 &&& Int32.toUInt32 31)).toInt32).toUInt32 >>> ((4 : Int32).toUInt32 &&& Int32.toUInt32 31)).toInt32).toUInt32 >>> ((2 : Int32).toUInt32 &&& Int32.toUInt32 31)).toInt32).toUInt32 >>> ((1 : Int32).toUInt32 &&& Int32.toUInt32 31)).toInt32) hx hb dJI_numberOfTrailingZeros_77 rfl ?_
            refine lv_iadd hx hb dJI_numberOfTrailingZeros_78 ?_
            exact W.iret (v := (((1 + 8) + 4) + 2) + (((((((((nI (2 ^ t0 - 1)).toUInt32 >>> ((8 : Int32).toUInt32 &&& Int32.toUInt32 31)).toInt32).toUInt32 >>> ((4 : Int32).toUInt32 &&& Int32.toUInt32 31)).toInt32).toUInt32 >>> ((2 : Int32).toUInt32 &&& Int32.toUInt32 31)).toInt32).toUInt32 >>> ((1 : Int32).toUInt32 &&& Int32.toUInt32 31)).toInt32)) hx hb hr (fun t ht hW => ⟨⟨(((1 + 8) + 4) + 2) + (((((((((nI (2 ^ t0 - 1)).toUInt32 >>> ((8 : Int32).toUInt32 &&& Int32.toUInt32 31)).toInt32).toUInt32 >>> ((4 : Int32).toUInt32 &&& Int32.toUInt32 31)).toInt32).toUInt32 >>> ((2 : Int32).toUInt32 &&& Int32.toUInt32 31)).toInt32).toUInt32 >>> ((1 : Int32).toUInt32 &&& Int32.toUInt32 31)).toInt32), (), rfl, (by decide +kernel : ∀ t0, t0 < 32 → (0 < nI (2 ^ t0 - 1) ∧ (nI (2 ^ t0 - 1)) ≤ 65536 ∧ ¬ (nI (2 ^ t0 - 1)) ≤ 256 ∧ ¬ (((nI (2 ^ t0 - 1)).toUInt32 >>> ((8 : Int32).toUInt32 &&& Int32.toUInt32 31)).toInt32) ≤ 16 ∧ ¬ (((((nI (2 ^ t0 - 1)).toUInt32 >>> ((8 : Int32).toUInt32 &&& Int32.toUInt32 31)).toInt32).toUInt32 >>> ((4 : Int32).toUInt32 &&& Int32.toUInt32 31)).toInt32) ≤ 4) → (((1 + 8) + 4) + 2) + (((((((((nI (2 ^ t0 - 1)).toUInt32 >>> ((8 : Int32).toUInt32 &&& Int32.toUInt32 31)).toInt32).toUInt32 >>> ((4 : Int32).toUInt32 &&& Int32.toUInt32 31)).toInt32).toUInt32 >>> ((2 : Int32).toUInt32 &&& Int32.toUInt32 31)).toInt32).toUInt32 >>> ((1 : Int32).toUInt32 &&& Int32.toUInt32 31)).toInt32) = nI t0) t0 ht0 ⟨cb_6, cb_7, cb_8, cb_12, cb_14⟩, by rw [ht]; exact hP, va_K.moved hW.alike hK, hD⟩, hS.F ht⟩) hS.2.2 dJI_numberOfTrailingZeros_79
    · refine lv_iinc (v := 1 + 16) (lv' := [(1, .int (1 + 16)), (0, .int (nI (2 ^ t0 - 1)))]) hx hb dJI_numberOfTrailingZeros_26 hl (k := 0) rfl rfl (by decide) rfl (fun ls hl => ?_)
      refine lv_iload_n hx hb dJI_numberOfTrailingZeros_29 rfl (lv_at hl 1 rfl) ?_
      refine lv_bipush (v := 16) hx hb dJI_numberOfTrailingZeros_30 (by decide) ?_
      refine lv_iushr (v := ((nI (2 ^ t0 - 1)).toUInt32 >>> ((16 : Int32).toUInt32 &&& Int32.toUInt32 31)).toInt32) hx hb dJI_numberOfTrailingZeros_32 rfl ?_
      refine lv_istore_n (lv' := [(0, .int (((nI (2 ^ t0 - 1)).toUInt32 >>> ((16 : Int32).toUInt32 &&& Int32.toUInt32 31)).toInt32)), (1, .int (1 + 16))]) hx hb dJI_numberOfTrailingZeros_33 rfl hl (by decide) rfl (fun ls hl => ?_)
      refine lv_iload_n hx hb dJI_numberOfTrailingZeros_34 rfl (lv_at hl 0 rfl) ?_
      refine lv_sipush (v := 256) hx hb dJI_numberOfTrailingZeros_35 (by decide) ?_
      refine lv_icmp_le (tgt := 49) hx hb dJI_numberOfTrailingZeros_38 (by decide) (fun cb_15 => ?_) (fun cb_15 => ?_)
      · refine lv_iload_n hx hb dJI_numberOfTrailingZeros_49 rfl (lv_at hl 0 rfl) ?_
        refine lv_bipush (v := 16) hx hb dJI_numberOfTrailingZeros_50 (by decide) ?_
        refine lv_icmp_le (tgt := 62) hx hb dJI_numberOfTrailingZeros_52 (by decide) (fun cb_16 => ?_) (fun cb_16 => ?_)
        · refine lv_iload_n hx hb dJI_numberOfTrailingZeros_62 rfl (lv_at hl 0 rfl) ?_
          refine lv_iconst (v := 4) hx hb dJI_numberOfTrailingZeros_63 (by decide) ?_
          refine lv_icmp_le (tgt := 74) hx hb dJI_numberOfTrailingZeros_64 (by decide) (fun cb_17 => ?_) (fun cb_17 => ?_)
          · refine lv_iload_n hx hb dJI_numberOfTrailingZeros_74 rfl (lv_at hl 1 rfl) ?_
            refine lv_iload_n hx hb dJI_numberOfTrailingZeros_75 rfl (lv_at hl 0 rfl) ?_
            refine lv_iconst (v := 1) hx hb dJI_numberOfTrailingZeros_76 (by decide) ?_
            refine lv_iushr (v := ((((nI (2 ^ t0 - 1)).toUInt32 >>> ((16 : Int32).toUInt32 &&& Int32.toUInt32 31)).toInt32).toUInt32 >>> ((1 : Int32).toUInt32 &&& Int32.toUInt32 31)).toInt32) hx hb dJI_numberOfTrailingZeros_77 rfl ?_
            refine lv_iadd hx hb dJI_numberOfTrailingZeros_78 ?_
            exact W.iret (v := (1 + 16) + (((((nI (2 ^ t0 - 1)).toUInt32 >>> ((16 : Int32).toUInt32 &&& Int32.toUInt32 31)).toInt32).toUInt32 >>> ((1 : Int32).toUInt32 &&& Int32.toUInt32 31)).toInt32)) hx hb hr (fun t ht hW => ⟨⟨(1 + 16) + (((((nI (2 ^ t0 - 1)).toUInt32 >>> ((16 : Int32).toUInt32 &&& Int32.toUInt32 31)).toInt32).toUInt32 >>> ((1 : Int32).toUInt32 &&& Int32.toUInt32 31)).toInt32), (), rfl, (by decide +kernel : ∀ t0, t0 < 32 → (0 < nI (2 ^ t0 - 1) ∧ ¬ (nI (2 ^ t0 - 1)) ≤ 65536 ∧ (((nI (2 ^ t0 - 1)).toUInt32 >>> ((16 : Int32).toUInt32 &&& Int32.toUInt32 31)).toInt32) ≤ 256 ∧ (((nI (2 ^ t0 - 1)).toUInt32 >>> ((16 : Int32).toUInt32 &&& Int32.toUInt32 31)).toInt32) ≤ 16 ∧ (((nI (2 ^ t0 - 1)).toUInt32 >>> ((16 : Int32).toUInt32 &&& Int32.toUInt32 31)).toInt32) ≤ 4) → (1 + 16) + (((((nI (2 ^ t0 - 1)).toUInt32 >>> ((16 : Int32).toUInt32 &&& Int32.toUInt32 31)).toInt32).toUInt32 >>> ((1 : Int32).toUInt32 &&& Int32.toUInt32 31)).toInt32) = nI t0) t0 ht0 ⟨cb_6, cb_7, cb_15, cb_16, cb_17⟩, by rw [ht]; exact hP, va_K.moved hW.alike hK, hD⟩, hS.F ht⟩) hS.2.2 dJI_numberOfTrailingZeros_79
          · refine lv_iinc (v := (1 + 16) + 2) (lv' := [(1, .int ((1 + 16) + 2)), (0, .int (((nI (2 ^ t0 - 1)).toUInt32 >>> ((16 : Int32).toUInt32 &&& Int32.toUInt32 31)).toInt32))]) hx hb dJI_numberOfTrailingZeros_67 hl (k := 1) rfl rfl (by decide) rfl (fun ls hl => ?_)
            refine lv_iload_n hx hb dJI_numberOfTrailingZeros_70 rfl (lv_at hl 1 rfl) ?_
            refine lv_iconst (v := 2) hx hb dJI_numberOfTrailingZeros_71 (by decide) ?_
            refine lv_iushr (v := ((((nI (2 ^ t0 - 1)).toUInt32 >>> ((16 : Int32).toUInt32 &&& Int32.toUInt32 31)).toInt32).toUInt32 >>> ((2 : Int32).toUInt32 &&& Int32.toUInt32 31)).toInt32) hx hb dJI_numberOfTrailingZeros_72 rfl ?_
            refine lv_istore_n (lv' := [(0, .int (((((nI (2 ^ t0 - 1)).toUInt32 >>> ((16 : Int32).toUInt32 &&& Int32.toUInt32 31)).toInt32).toUInt32 >>> ((2 : Int32).toUInt32 &&& Int32.toUInt32 31)).toInt32)), (1, .int ((1 + 16) + 2))]) hx hb dJI_numberOfTrailingZeros_73 rfl hl (by decide) rfl (fun ls hl => ?_)
            refine lv_iload_n hx hb dJI_numberOfTrailingZeros_74 rfl (lv_at hl 1 rfl) ?_
            refine lv_iload_n hx hb dJI_numberOfTrailingZeros_75 rfl (lv_at hl 0 rfl) ?_
            refine lv_iconst (v := 1) hx hb dJI_numberOfTrailingZeros_76 (by decide) ?_
            refine lv_iushr (v := ((((((nI (2 ^ t0 - 1)).toUInt32 >>> ((16 : Int32).toUInt32 &&& Int32.toUInt32 31)).toInt32).toUInt32 >>> ((2 : Int32).toUInt32 &&& Int32.toUInt32 31)).toInt32).toUInt32 >>> ((1 : Int32).toUInt32 &&& Int32.toUInt32 31)).toInt32) hx hb dJI_numberOfTrailingZeros_77 rfl ?_
            refine lv_iadd hx hb dJI_numberOfTrailingZeros_78 ?_
            exact W.iret (v := ((1 + 16) + 2) + (((((((nI (2 ^ t0 - 1)).toUInt32 >>> ((16 : Int32).toUInt32 &&& Int32.toUInt32 31)).toInt32).toUInt32 >>> ((2 : Int32).toUInt32 &&& Int32.toUInt32 31)).toInt32).toUInt32 >>> ((1 : Int32).toUInt32 &&& Int32.toUInt32 31)).toInt32)) hx hb hr (fun t ht hW => ⟨⟨((1 + 16) + 2) + (((((((nI (2 ^ t0 - 1)).toUInt32 >>> ((16 : Int32).toUInt32 &&& Int32.toUInt32 31)).toInt32).toUInt32 >>> ((2 : Int32).toUInt32 &&& Int32.toUInt32 31)).toInt32).toUInt32 >>> ((1 : Int32).toUInt32 &&& Int32.toUInt32 31)).toInt32), (), rfl, (by decide +kernel : ∀ t0, t0 < 32 → (0 < nI (2 ^ t0 - 1) ∧ ¬ (nI (2 ^ t0 - 1)) ≤ 65536 ∧ (((nI (2 ^ t0 - 1)).toUInt32 >>> ((16 : Int32).toUInt32 &&& Int32.toUInt32 31)).toInt32) ≤ 256 ∧ (((nI (2 ^ t0 - 1)).toUInt32 >>> ((16 : Int32).toUInt32 &&& Int32.toUInt32 31)).toInt32) ≤ 16 ∧ ¬ (((nI (2 ^ t0 - 1)).toUInt32 >>> ((16 : Int32).toUInt32 &&& Int32.toUInt32 31)).toInt32) ≤ 4) → ((1 + 16) + 2) + (((((((nI (2 ^ t0 - 1)).toUInt32 >>> ((16 : Int32).toUInt32 &&& Int32.toUInt32 31)).toInt32).toUInt32 >>> ((2 : Int32).toUInt32 &&& Int32.toUInt32 31)).toInt32).toUInt32 >>> ((1 : Int32).toUInt32 &&& Int32.toUInt32 31)).toInt32) = nI t0) t0 ht0 ⟨cb_6, cb_7, cb_15, cb_16, cb_17⟩, by rw [ht]; exact hP, va_K.moved hW.alike hK, hD⟩, hS.F ht⟩) hS.2.2 dJI_numberOfTrailingZeros_79
        · refine lv_iinc (v := (1 + 16) + 4) (lv' := [(1, .int ((1 + 16) + 4)), (0, .int (((nI (2 ^ t0 - 1)).toUInt32 >>> ((16 : Int32).toUInt32 &&& Int32.toUInt32 31)).toInt32))]) hx hb dJI_numberOfTrailingZeros_55 hl (k := 1) rfl rfl (by decide) rfl (fun ls hl => ?_)
          refine lv_iload_n hx hb dJI_numberOfTrailingZeros_58 rfl (lv_at hl 1 rfl) ?_
          refine lv_iconst (v := 4) hx hb dJI_numberOfTrailingZeros_59 (by decide) ?_
          refine lv_iushr (v := ((((nI (2 ^ t0 - 1)).toUInt32 >>> ((16 : Int32).toUInt32 &&& Int32.toUInt32 31)).toInt32).toUInt32 >>> ((4 : Int32).toUInt32 &&& Int32.toUInt32 31)).toInt32) hx hb dJI_numberOfTrailingZeros_60 rfl ?_
          refine lv_istore_n (lv' := [(0, .int (((((nI (2 ^ t0 - 1)).toUInt32 >>> ((16 : Int32).toUInt32 &&& Int32.toUInt32 31)).toInt32).toUInt32 >>> ((4 : Int32).toUInt32 &&& Int32.toUInt32 31)).toInt32)), (1, .int ((1 + 16) + 4))]) hx hb dJI_numberOfTrailingZeros_61 rfl hl (by decide) rfl (fun ls hl => ?_)
          refine lv_iload_n hx hb dJI_numberOfTrailingZeros_62 rfl (lv_at hl 0 rfl) ?_
          refine lv_iconst (v := 4) hx hb dJI_numberOfTrailingZeros_63 (by decide) ?_
          refine lv_icmp_le (tgt := 74) hx hb dJI_numberOfTrailingZeros_64 (by decide) (fun cb_18 => ?_) (fun cb_18 => ?_)
          · refine lv_iload_n hx hb dJI_numberOfTrailingZeros_74 rfl (lv_at hl 1 rfl) ?_
            refine lv_iload_n hx hb dJI_numberOfTrailingZeros_75 rfl (lv_at hl 0 rfl) ?_
            refine lv_iconst (v := 1) hx hb dJI_numberOfTrailingZeros_76 (by decide) ?_
            refine lv_iushr (v := ((((((nI (2 ^ t0 - 1)).toUInt32 >>> ((16 : Int32).toUInt32 &&& Int32.toUInt32 31)).toInt32).toUInt32 >>> ((4 : Int32).toUInt32 &&& Int32.toUInt32 31)).toInt32).toUInt32 >>> ((1 : Int32).toUInt32 &&& Int32.toUInt32 31)).toInt32) hx hb dJI_numberOfTrailingZeros_77 rfl ?_
            refine lv_iadd hx hb dJI_numberOfTrailingZeros_78 ?_
            exact W.iret (v := ((1 + 16) + 4) + (((((((nI (2 ^ t0 - 1)).toUInt32 >>> ((16 : Int32).toUInt32 &&& Int32.toUInt32 31)).toInt32).toUInt32 >>> ((4 : Int32).toUInt32 &&& Int32.toUInt32 31)).toInt32).toUInt32 >>> ((1 : Int32).toUInt32 &&& Int32.toUInt32 31)).toInt32)) hx hb hr (fun t ht hW => ⟨⟨((1 + 16) + 4) + (((((((nI (2 ^ t0 - 1)).toUInt32 >>> ((16 : Int32).toUInt32 &&& Int32.toUInt32 31)).toInt32).toUInt32 >>> ((4 : Int32).toUInt32 &&& Int32.toUInt32 31)).toInt32).toUInt32 >>> ((1 : Int32).toUInt32 &&& Int32.toUInt32 31)).toInt32), (), rfl, (by decide +kernel : ∀ t0, t0 < 32 → (0 < nI (2 ^ t0 - 1) ∧ ¬ (nI (2 ^ t0 - 1)) ≤ 65536 ∧ (((nI (2 ^ t0 - 1)).toUInt32 >>> ((16 : Int32).toUInt32 &&& Int32.toUInt32 31)).toInt32) ≤ 256 ∧ ¬ (((nI (2 ^ t0 - 1)).toUInt32 >>> ((16 : Int32).toUInt32 &&& Int32.toUInt32 31)).toInt32) ≤ 16 ∧ (((((nI (2 ^ t0 - 1)).toUInt32 >>> ((16 : Int32).toUInt32 &&& Int32.toUInt32 31)).toInt32).toUInt32 >>> ((4 : Int32).toUInt32 &&& Int32.toUInt32 31)).toInt32) ≤ 4) → ((1 + 16) + 4) + (((((((nI (2 ^ t0 - 1)).toUInt32 >>> ((16 : Int32).toUInt32 &&& Int32.toUInt32 31)).toInt32).toUInt32 >>> ((4 : Int32).toUInt32 &&& Int32.toUInt32 31)).toInt32).toUInt32 >>> ((1 : Int32).toUInt32 &&& Int32.toUInt32 31)).toInt32) = nI t0) t0 ht0 ⟨cb_6, cb_7, cb_15, cb_16, cb_18⟩, by rw [ht]; exact hP, va_K.moved hW.alike hK, hD⟩, hS.F ht⟩) hS.2.2 dJI_numberOfTrailingZeros_79
          · refine lv_iinc (v := ((1 + 16) + 4) + 2) (lv' := [(1, .int (((1 + 16) + 4) + 2)), (0, .int (((((nI (2 ^ t0 - 1)).toUInt32 >>> ((16 : Int32).toUInt32 &&& Int32.toUInt32 31)).toInt32).toUInt32 >>> ((4 : Int32).toUInt32 &&& Int32.toUInt32 31)).toInt32))]) hx hb dJI_numberOfTrailingZeros_67 hl (k := 1) rfl rfl (by decide) rfl (fun ls hl => ?_)
            refine lv_iload_n hx hb dJI_numberOfTrailingZeros_70 rfl (lv_at hl 1 rfl) ?_
            refine lv_iconst (v := 2) hx hb dJI_numberOfTrailingZeros_71 (by decide) ?_
            refine lv_iushr (v := ((((((nI (2 ^ t0 - 1)).toUInt32 >>> ((16 : Int32).toUInt32 &&& Int32.toUInt32 31)).toInt32).toUInt32 >>> ((4 : Int32).toUInt32 &&& Int32.toUInt32 31)).toInt32).toUInt32 >>> ((2 : Int32).toUInt32 &&& Int32.toUInt32 31)).toInt32) hx hb dJI_numberOfTrailingZeros_72 rfl ?_
            refine lv_istore_n (lv' := [(0, .int (((((((nI (2 ^ t0 - 1)).toUInt32 >>> ((16 : Int32).toUInt32 &&& Int32.toUInt32 31)).toInt32).toUInt32 >>> ((4 : Int32).toUInt32 &&& Int32.toUInt32 31)).toInt32).toUInt32 >>> ((2 : Int32).toUInt32 &&& Int32.toUInt32 31)).toInt32)), (1, .int (((1 + 16) + 4) + 2))]) hx hb dJI_numberOfTrailingZeros_73 rfl hl (by decide) rfl (fun ls hl => ?_)
            refine lv_iload_n hx hb dJI_numberOfTrailingZeros_74 rfl (lv_at hl 1 rfl) ?_
            refine lv_iload_n hx hb dJI_numberOfTrailingZeros_75 rfl (lv_at hl 0 rfl) ?_
            refine lv_iconst (v := 1) hx hb dJI_numberOfTrailingZeros_76 (by decide) ?_
            refine lv_iushr (v := ((((((((nI (2 ^ t0 - 1)).toUInt32 >>> ((16 : Int32).toUInt32 &&& Int32.toUInt32 31)).toInt32).toUInt32 >>> ((4 : Int32).toUInt32 &&& Int32.toUInt32 31)).toInt32).toUInt32 >>> ((2 : Int32).toUInt32 &&& Int32.toUInt32 31)).toInt32).toUInt32 >>> ((1 : Int32).toUInt32 &&& Int32.toUInt32 31)).toInt32) hx hb dJI_numberOfTrailingZeros_77 rfl ?_
            refine lv_iadd hx hb dJI_numberOfTrailingZeros_78 ?_
            exact W.iret (v := (((1 + 16) + 4) + 2) + (((((((((nI (2 ^ t0 - 1)).toUInt32 >>> ((16 : Int32).toUInt32 &&& Int32.toUInt32 31)).toInt32).toUInt32 >>> ((4 : Int32).toUInt32 &&& Int32.toUInt32 31)).toInt32).toUInt32 >>> ((2 : Int32).toUInt32 &&& Int32.toUInt32 31)).toInt32).toUInt32 >>> ((1 : Int32).toUInt32 &&& Int32.toUInt32 31)).toInt32)) hx hb hr (fun t ht hW => ⟨⟨(((1 + 16) + 4) + 2) + (((((((((nI (2 ^ t0 - 1)).toUInt32 >>> ((16 : Int32).toUInt32 &&& Int32.toUInt32 31)).toInt32).toUInt32 >>> ((4 : Int32).toUInt32 &&& Int32.toUInt32 31)).toInt32).toUInt32 >>> ((2 : Int32).toUInt32 &&& Int32.toUInt32 31)).toInt32).toUInt32 >>> ((1 : Int32).toUInt32 &&& Int32.toUInt32 31)).toInt32), (), rfl, (by decide +kernel : ∀ t0, t0 < 32 → (0 < nI (2 ^ t0 - 1) ∧ ¬ (nI (2 ^ t0 - 1)) ≤ 65536 ∧ (((nI (2 ^ t0 - 1)).toUInt32 >>> ((16 : Int32).toUInt32 &&& Int32.toUInt32 31)).toInt32) ≤ 256 ∧ ¬ (((nI (2 ^ t0 - 1)).toUInt32 >>> ((16 : Int32).toUInt32 &&& Int32.toUInt32 31)).toInt32) ≤ 16 ∧ ¬ (((((nI (2 ^ t0 - 1)).toUInt32 >>> ((16 : Int32).toUInt32 &&& Int32.toUInt32 31)).toInt32).toUInt32 >>> ((4 : Int32).toUInt32 &&& Int32.toUInt32 31)).toInt32) ≤ 4) → (((1 + 16) + 4) + 2) + (((((((((nI (2 ^ t0 - 1)).toUInt32 >>> ((16 : Int32).toUInt32 &&& Int32.toUInt32 31)).toInt32).toUInt32 >>> ((4 : Int32).toUInt32 &&& Int32.toUInt32 31)).toInt32).toUInt32 >>> ((2 : Int32).toUInt32 &&& Int32.toUInt32 31)).toInt32).toUInt32 >>> ((1 : Int32).toUInt32 &&& Int32.toUInt32 31)).toInt32) = nI t0) t0 ht0 ⟨cb_6, cb_7, cb_15, cb_16, cb_18⟩, by rw [ht]; exact hP, va_K.moved hW.alike hK, hD⟩, hS.F ht⟩) hS.2.2 dJI_numberOfTrailingZeros_79
      · refine lv_iinc (v := (1 + 16) + 8) (lv' := [(1, .int ((1 + 16) + 8)), (0, .int (((nI (2 ^ t0 - 1)).toUInt32 >>> ((16 : Int32).toUInt32 &&& Int32.toUInt32 31)).toInt32))]) hx hb dJI_numberOfTrailingZeros_41 hl (k := 1) rfl rfl (by decide) rfl (fun ls hl => ?_)
        refine lv_iload_n hx hb dJI_numberOfTrailingZeros_44 rfl (lv_at hl 1 rfl) ?_
        refine lv_bipush (v := 8) hx hb dJI_numberOfTrailingZeros_45 (by decide) ?_
        refine lv_iushr (v := ((((nI (2 ^ t0 - 1)).toUInt32 >>> ((16 : Int32).toUInt32 &&& Int32.toUInt32 31)).toInt32).toUInt32 >>> ((8 : Int32).toUInt32 &&& Int32.toUInt32 31)).toInt32) hx hb dJI_numberOfTrailingZeros_47 rfl ?_
        refine lv_istore_n (lv' := [(0, .int (((((nI (2 ^ t0 - 1)).toUInt32 >>> ((16 : Int32).toUInt32 &&& Int32.toUInt32 31)).toInt32).toUInt32 >>> ((8 : Int32).toUInt32 &&& Int32.toUInt32 31)).toInt32)), (1, .int ((1 + 16) + 8))]) hx hb dJI_numberOfTrailingZeros_48 rfl hl (by decide) rfl (fun ls hl => ?_)
        refine lv_iload_n hx hb dJI_numberOfTrailingZeros_49 rfl (lv_at hl 0 rfl) ?_
        refine lv_bipush (v := 16) hx hb dJI_numberOfTrailingZeros_50 (by decide) ?_
        refine lv_icmp_le (tgt := 62) hx hb dJI_numberOfTrailingZeros_52 (by decide) (fun cb_19 => ?_) (fun cb_19 => ?_)
        · refine lv_iload_n hx hb dJI_numberOfTrailingZeros_62 rfl (lv_at hl 0 rfl) ?_
          refine lv_iconst (v := 4) hx hb dJI_numberOfTrailingZeros_63 (by decide) ?_
          refine lv_icmp_le (tgt := 74) hx hb dJI_numberOfTrailingZeros_64 (by decide) (fun cb_20 => ?_) (fun cb_20 => ?_)
          · refine lv_iload_n hx hb dJI_numberOfTrailingZeros_74 rfl (lv_at hl 1 rfl) ?_
            refine lv_iload_n hx hb dJI_numberOfTrailingZeros_75 rfl (lv_at hl 0 rfl) ?_
            refine lv_iconst (v := 1) hx hb dJI_numberOfTrailingZeros_76 (by decide) ?_
            refine lv_iushr (v := ((((((nI (2 ^ t0 - 1)).toUInt32 >>> ((16 : Int32).toUInt32 &&& Int32.toUInt32 31)).toInt32).toUInt32 >>> ((8 : Int32).toUInt32 &&& Int32.toUInt32 31)).toInt32).toUInt32 >>> ((1 : Int32).toUInt32 &&& Int32.toUInt32 31)).toInt32) hx hb dJI_numberOfTrailingZeros_77 rfl ?_
            refine lv_iadd hx hb dJI_numberOfTrailingZeros_78 ?_
            exact W.iret (v := ((1 + 16) + 8) + (((((((nI (2 ^ t0 - 1)).toUInt32 >>> ((16 : Int32).toUInt32 &&& Int32.toUInt32 31)).toInt32).toUInt32 >>> ((8 : Int32).toUInt32 &&& Int32.toUInt32 31)).toInt32).toUInt32 >>> ((1 : Int32).toUInt32 &&& Int32.toUInt32 31)).toInt32)) hx hb hr (fun t ht hW => ⟨⟨((1 + 16) + 8) + (((((((nI (2 ^ t0 - 1)).toUInt32 >>> ((16 : Int32).toUInt32 &&& Int32.toUInt32 31)).toInt32).toUInt32 >>> ((8 : Int32).toUInt32 &&& Int32.toUInt32 31)).toInt32).toUInt32 >>> ((1 : Int32).toUInt32 &&& Int32.toUInt32 31)).toInt32), (), rfl, (by decide +kernel : ∀ t0, t0 < 32 → (0 < nI (2 ^ t0 - 1) ∧ ¬ (nI (2 ^ t0 - 1)) ≤ 65536 ∧ ¬ (((nI (2 ^ t0 - 1)).toUInt32 >>> ((16 : Int32).toUInt32 &&& Int32.toUInt32 31)).toInt32) ≤ 256 ∧ (((((nI (2 ^ t0 - 1)).toUInt32 >>> ((16 : Int32).toUInt32 &&& Int32.toUInt32 31)).toInt32).toUInt32 >>> ((8 : Int32).toUInt32 &&& Int32.toUInt32 31)).toInt32) ≤ 16 ∧ (((((nI (2 ^ t0 - 1)).toUInt32 >>> ((16 : Int32).toUInt32 &&& Int32.toUInt32 31)).toInt32).toUInt32 >>> ((8 : Int32).toUInt32 &&& Int32.toUInt32 31)).toInt32) ≤ 4) → ((1 + 16) + 8) + (((((((nI (2 ^ t0 - 1)).toUInt32 >>> ((16 : Int32).toUInt32 &&& Int32.toUInt32 31)).toInt32).toUInt32 >>> ((8 : Int32).toUInt32 &&& Int32.toUInt32 31)).toInt32).toUInt32 >>> ((1 : Int32).toUInt32 &&& Int32.toUInt32 31)).toInt32) = nI t0) t0 ht0 ⟨cb_6, cb_7, cb_15, cb_19, cb_20⟩, by rw [ht]; exact hP, va_K.moved hW.alike hK, hD⟩, hS.F ht⟩) hS.2.2 dJI_numberOfTrailingZeros_79
          · refine lv_iinc (v := ((1 + 16) + 8) + 2) (lv' := [(1, .int (((1 + 16) + 8) + 2)), (0, .int (((((nI (2 ^ t0 - 1)).toUInt32 >>> ((16 : Int32).toUInt32 &&& Int32.toUInt32 31)).toInt32).toUInt32 >>> ((8 : Int32).toUInt32 &&& Int32.toUInt32 31)).toInt32))]) hx hb dJI_numberOfTrailingZeros_67 hl (k := 1) rfl rfl (by decide) rfl (fun ls hl => ?_)
            refine lv_iload_n hx hb dJI_numberOfTrailingZeros_70 rfl (lv_at hl 1 rfl) ?_
            refine lv_iconst (v := 2) hx hb dJI_numberOfTrailingZeros_71 (by decide) ?_
            refine lv_iushr (v := ((((((nI (2 ^ t0 - 1)).toUInt32 >>> ((16 : Int32).toUInt32 &&& Int32.toUInt32 31)).toInt32).toUInt32 >>> ((8 : Int32).toUInt32 &&& Int32.toUInt32 31)).toInt32).toUInt32 >>> ((2 : Int32).toUInt32 &&& Int32.toUInt32 31)).toInt32) hx hb dJI_numberOfTrailingZeros_72 rfl ?_
            refine lv_istore_n (lv' := [(0, .int (((((((nI (2 ^ t0 - 1)).toUInt32 >>> ((16 : Int32).toUInt32 &&& Int32.toUInt32 31)).toInt32).toUInt32 >>> ((8 : Int32).toUInt32 &&& Int32.toUInt32 31)).toInt32).toUInt32 >>> ((2 : Int32).toUInt32 &&& Int32.toUInt32 31)).toInt32)), (1, .int (((1 + 16) + 8) + 2))]) hx hb dJI_numberOfTrailingZeros_73 rfl hl (by decide) rfl (fun ls hl => ?_)
            refine lv_iload_n hx hb dJI_numberOfTrailingZeros_74 rfl (lv_at hl 1 rfl) ?_
            refine lv_iload_n hx hb dJI_numberOfTrailingZeros_75 rfl (lv_at hl 0 rfl) ?_
            refine lv_iconst (v := 1) hx hb dJI_numberOfTrailingZeros_76 (by decide) ?_
            refine lv_iushr (v := ((((((((nI (2 ^ t0 - 1)).toUInt32 >>> ((16 : Int32).toUInt32 &&& Int32.toUInt32 31)).toInt32).toUInt32 >>> ((8 : Int32).toUInt32 &&& Int32.toUInt32 31)).toInt32).toUInt32 >>> ((2 : Int32).toUInt32 &&& Int32.toUInt32 31)).toInt32).toUInt32 >>> ((1 : Int32).toUInt32 &&& Int32.toUInt32 31)).toInt32) hx hb dJI_numberOfTrailingZeros_77 rfl ?_
            refine lv_iadd hx hb dJI_numberOfTrailingZeros_78 ?_
            exact W.iret (v := (((1 + 16) + 8) + 2) + (((((((((nI (2 ^ t0 - 1)).toUInt32 >>> ((16 : Int32).toUInt32 &&& Int32.toUInt32 31)).toInt32).toUInt32 >>> ((8 : Int32).toUInt32 &&& Int32.toUInt32 31)).toInt32).toUInt32 >>> ((2 : Int32).toUInt32 &&& Int32.toUInt32 31)).toInt32).toUInt32 >>> ((1 : Int32).toUInt32 &&& Int32.toUInt32 31)).toInt32)) hx hb hr (fun t ht hW => ⟨⟨(((1 + 16) + 8) + 2) + (((((((((nI (2 ^ t0 - 1)).toUInt32 >>> ((16 : Int32).toUInt32 &&& Int32.toUInt32 31)).toInt32).toUInt32 >>> ((8 : Int32).toUInt32 &&& Int32.toUInt32 31)).toInt32).toUInt32 >>> ((2 : Int32).toUInt32 &&& Int32.toUInt32 31)).toInt32).toUInt32 >>> ((1 : Int32).toUInt32 &&& Int32.toUInt32 31)).toInt32), (), rfl, (by decide +kernel : ∀ t0, t0 < 32 → (0 < nI (2 ^ t0 - 1) ∧ ¬ (nI (2 ^ t0 - 1)) ≤ 65536 ∧ ¬ (((nI (2 ^ t0 - 1)).toUInt32 >>> ((16 : Int32).toUInt32 &&& Int32.toUInt32 31)).toInt32) ≤ 256 ∧ (((((nI (2 ^ t0 - 1)).toUInt32 >>> ((16 : Int32).toUInt32 &&& Int32.toUInt32 31)).toInt32).toUInt32 >>> ((8 : Int32).toUInt32 &&& Int32.toUInt32 31)).toInt32) ≤ 16 ∧ ¬ (((((nI (2 ^ t0 - 1)).toUInt32 >>> ((16 : Int32).toUInt32 &&& Int32.toUInt32 31)).toInt32).toUInt32 >>> ((8 : Int32).toUInt32 &&& Int32.toUInt32 31)).toInt32) ≤ 4) → (((1 + 16) + 8) + 2) + (((((((((nI (2 ^ t0 - 1)).toUInt32 >>> ((16 : Int32).toUInt32 &&& Int32.toUInt32 31)).toInt32).toUInt32 >>> ((8 : Int32).toUInt32 &&& Int32.toUInt32 31)).toInt32).toUInt32 >>> ((2 : Int32).toUInt32 &&& Int32.toUInt32 31)).toInt32).toUInt32 >>> ((1 : Int32).toUInt32 &&& Int32.toUInt32 31)).toInt32) = nI t0) t0 ht0 ⟨cb_6, cb_7, cb_15, cb_19, cb_20⟩, by rw [ht]; exact hP, va_K.moved hW.alike hK, hD⟩, hS.F ht⟩) hS.2.2 dJI_numberOfTrailingZeros_79
        · refine lv_iinc (v := ((1 + 16) + 8) + 4) (lv' := [(1, .int (((1 + 16) + 8) + 4)), (0, .int (((((nI (2 ^ t0 - 1)).toUInt32 >>> ((16 : Int32).toUInt32 &&& Int32.toUInt32 31)).toInt32).toUInt32 >>> ((8 : Int32).toUInt32 &&& Int32.toUInt32 31)).toInt32))]) hx hb dJI_numberOfTrailingZeros_55 hl (k := 1) rfl rfl (by decide) rfl (fun ls hl => ?_)
          refine lv_iload_n hx hb dJI_numberOfTrailingZeros_58 rfl (lv_at hl 1 rfl) ?_
          refine lv_iconst (v := 4) hx hb dJI_numberOfTrailingZeros_59 (by decide) ?_
          refine lv_iushr (v := ((((((nI (2 ^ t0 - 1)).toUInt32 >>> ((16 : Int32).toUInt32 &&& Int32.toUInt32 31)).toInt32).toUInt32 >>> ((8 : Int32).toUInt32 &&& Int32.toUInt32 31)).toInt32).toUInt32 >>> ((4 : Int32).toUInt32 &&& Int32.toUInt32 31)).toInt32) hx hb dJI_numberOfTrailingZeros_60 rfl ?_
          refine lv_istore_n (lv' := [(0, .int (((((((nI (2 ^ t0 - 1)).toUInt32 >>> ((16 : Int32).toUInt32 &&& Int32.toUInt32 31)).toInt32).toUInt32 >>> ((8 : Int32).toUInt32 &&& Int32.toUInt32 31)).toInt32).toUInt32 >>> ((4 : Int32).toUInt32 &&& Int32.toUInt32 31)).toInt32)), (1, .int (((1 + 16) + 8) + 4))]) hx hb dJI_numberOfTrailingZeros_61 rfl hl (by decide) rfl (fun ls hl => ?_)
          refine lv_iload_n hx hb dJI_numberOfTrailingZeros_62 rfl (lv_at hl 0 rfl) ?_
          refine lv_iconst (v := 4) hx hb dJI_numberOfTrailingZeros_63 (by decide) ?_
          refine lv_icmp_le (tgt := 74) hx hb dJI_numberOfTrailingZeros_64 (by decide) (fun cb_21 => ?_) (fun cb_21 => ?_)
          · refine lv_iload_n hx hb dJI_numberOfTrailingZeros_74 rfl (lv_at hl 1 rfl) ?_
            refine lv_iload_n hx hb dJI_numberOfTrailingZeros_75 rfl (lv_at hl 0 rfl) ?_
            refine lv_iconst (v := 1) hx hb dJI_numberOfTrailingZeros_76 (by decide) ?_
            refine lv_iushr (v := ((((((((nI (2 ^ t0 - 1)).toUInt32 >>> ((16 : Int32).toUInt32 &&& Int32.toUInt32 31)).toInt32).toUInt32 >>> ((8 : Int32).toUInt32 &&& Int32.toUInt32 31)).toInt32).toUInt32 >>> ((4 : Int32).toUInt32 &&& Int32.toUInt32 31)).toInt32).toUInt32 >>> ((1 : Int32).toUInt32 &&& Int32.toUInt32 31)).toInt32) hx hb dJI_numberOfTrailingZeros_77 rfl ?_
            refine lv_iadd hx hb dJI_numberOfTrailingZeros_78 ?_
            exact W.iret (v := (((1 + 16) + 8) + 4) + (((((((((nI (2 ^ t0 - 1)).toUInt32 >>> ((16 : Int32).toUInt32 &&& Int32.toUInt32 31)).toInt32).toUInt32 >>> ((8 : Int32).toUInt32 &&& Int32.toUInt32 31)).toInt32).toUInt32 >>> ((4 : Int32).toUInt32 &&& Int32.toUInt32 31)).toInt32).toUInt32 >>> ((1 : Int32).toUInt32 &&& Int32.toUInt32 31)).toInt32)) hx hb hr (fun t ht hW => ⟨⟨(((1 + 16) + 8) + 4) + (((((((((nI (2 ^ t0 - 1)).toUInt32 >>> ((16 : Int32).toUInt32 &&& Int32.toUInt32 31)).toInt32).toUInt32 >>> ((8 : Int32).toUInt32 &&& Int32.toUInt32 31)).toInt32).toUInt32 >>> ((4 : Int32).toUInt32 &&& Int32.toUInt32 31)).toInt32).toUInt32 >>> ((1 : Int32).toUInt32 &&& Int32.toUInt32 31)).toInt32), (), rfl, (by decide +kernel : ∀ t0, t0 < 32 → (0 < nI (2 ^ t0 - 1) ∧ ¬ (nI (2 ^ t0 - 1)) ≤ 65536 ∧ ¬ (((nI (2 ^ t0 - 1)).toUInt32 >>> ((16 : Int32).toUInt32 &&& Int32.toUInt32 31)).toInt32) ≤ 256 ∧ ¬ (((((nI (2 ^ t0 - 1)).toUInt32 >>> ((16 : Int32).toUInt32 &&& Int32.toUInt32 31)).toInt32).toUInt32 >>> ((8 : Int32).toUInt32 &&& Int32.toUInt32 31)).toInt32) ≤ 16 ∧ (((((((nI (2 ^ t0 - 1)).toUInt32 >>> ((16 : Int32).toUInt32 &&& Int32.toUInt32 31)).toInt32).toUInt32 >>> ((8 : Int32).toUInt32 &&& Int32.toUInt32 31)).toInt32).toUInt32 >>> ((4 : Int32).toUInt32 &&& Int32.toUInt32 31)).toInt32) ≤ 4) → (((1 + 16) + 8) + 4) + (((((((((nI (2 ^ t0 - 1)).toUInt32 >>> ((16 : Int32).toUInt32 &&& Int32.toUInt32 31)).toInt32).toUInt32 >>> ((8 : Int32).toUInt32 &&& Int32.toUInt32 31)).toInt32).toUInt32 >>> ((4 : Int32).toUInt32 &&& Int32.toUInt32 31)).toInt32).toUInt32 >>> ((1 : Int32).toUInt32 &&& Int32.toUInt32 31)).toInt32) = nI t0) t0 ht0 ⟨cb_6, cb_7, cb_15, cb_19, cb_21⟩, by rw [ht]; exact hP, va_K.moved hW.alike hK, hD⟩, hS.F ht⟩) hS.2.2 dJI_numberOfTrailingZeros_79
          · refine lv_iinc (v := (((1 + 16) + 8) + 4) + 2) (lv' := [(1, .int ((((1 + 16) + 8) + 4) + 2)), (0, .int (((((((nI (2 ^ t0 - 1)).toUInt32 >>> ((16 : Int32).toUInt32 &&& Int32.toUInt32 31)).toInt32).toUInt32 >>> ((8 : Int32).toUInt32 &&& Int32.toUInt32 31)).toInt32).toUInt32 >>> ((4 : Int32).toUInt32 &&& Int32.toUInt32 31)).toInt32))]) hx hb dJI_numberOfTrailingZeros_67 hl (k := 1) rfl rfl (by decide) rfl (fun ls hl => ?_)
            refine lv_iload_n hx hb dJI_numberOfTrailingZeros_70 rfl (lv_at hl 1 rfl) ?_
            refine lv_iconst (v := 2) hx hb dJI_numberOfTrailingZeros_71 (by decide) ?_
            refine lv_iushr (v := ((((((((nI (2 ^ t0 - 1)).toUInt32 >>> ((16 : Int32).toUInt32 &&& Int32.toUInt32 31)).toInt32).toUInt32 >>> ((8 : Int32).toUInt32 &&& Int32.toUInt32 31)).toInt32).toUInt32 >>> ((4 : Int32).toUInt32 &&& Int32.toUInt32 31)).toInt32).toUInt32 >>> ((2 : Int32).toUInt32 &&& Int32.toUInt32 31)).toInt32) hx hb dJI_numberOfTrailingZeros_72 rfl ?_
            refine lv_istore_n (lv' := [(0, .int (((((((((nI (2 ^ t0 - 1)).toUInt32 >>> ((16 : Int32).toUInt32 &&& Int32.toUInt32 31)).toInt32).toUInt32 >>> ((8 : Int32).toUInt32 &&& Int32.toUInt32 31)).toInt32).toUInt32 >>> ((4 : Int32).toUInt32 &&& Int32.toUInt32 31)).toInt32).toUInt32 >>> ((2 : Int32).toUInt32 &&& Int32.toUInt32 31)).toInt32)), (1, .int ((((1 + 16) + 8) + 4) + 2))]) hx hb dJI_numberOfTrailingZeros_73 rfl hl (by decide) rfl (fun ls hl => ?_)
            refine lv_iload_n hx hb dJI_numberOfTrailingZeros_74 rfl (lv_at hl 1 rfl) ?_
            refine lv_iload_n hx hb dJI_numberOfTrailingZeros_75 rfl (lv_at hl 0 rfl) ?_
            refine lv_iconst (v := 1) hx hb dJI_numberOfTrailingZeros_76 (by decide) ?_
            refine lv_iushr (v := ((((((((((nI (2 ^ t0 - 1)).toUInt32 >>> ((16 : Int32).toUInt32 &&& Int32.toUInt32 31)).toInt32).toUInt32 >>> ((8 : Int32).toUInt32 &&& Int32.toUInt32 31)).toInt32).toUInt32 >>> ((4 : Int32).toUInt32 &&& Int32.toUInt32 31)).toInt32).toUInt32 >>> ((2 : Int32).toUInt32 &&& Int32.toUInt32 31)).toInt32).toUInt32 >>> ((1 : Int32).toUInt32 &&& Int32.toUInt32 31)).toInt32) hx hb dJI_numberOfTrailingZeros_77 rfl ?_
            refine lv_iadd hx hb dJI_numberOfTrailingZeros_78 ?_
            exact W.iret (v := ((((1 + 16) + 8) + 4) + 2) + (((((((((((nI (2 ^ t0 - 1)).toUInt32 >>> ((16 : Int32).toUInt32 &&& Int32.toUInt32 31)).toInt32).toUInt32 >>> ((8 : Int32).toUInt32 &&& Int32.toUInt32 31)).toInt32).toUInt32 >>> ((4 : Int32).toUInt32 &&& Int32.toUInt32 31)).toInt32).toUInt32 >>> ((2 : Int32).toUInt32 &&& Int32.toUInt32 31)).toInt32).toUInt32 >>> ((1 : Int32).toUInt32 &&& Int32.toUInt32 31)).toInt32)) hx hb hr (fun t ht hW => ⟨⟨((((1 + 16) + 8) + 4) + 2) + (((((((((((nI (2 ^ t0 - 1)).toUInt32 >>> ((16 : Int32).toUInt32 &&& Int32.toUInt32 31)).toInt32).toUInt32 >>> ((8 : Int32).toUInt32 &&& Int32.toUInt32 31)).toInt32).toUInt32 >>> ((4 : Int32).toUInt32 &&& Int32.toUInt32 31)).toInt32).toUInt32 >>> ((2 : Int32).toUInt32 &&& Int32.toUInt32 31)).toInt32).toUInt32 >>> ((1 : Int32).toUInt32 &&& Int32.toUInt32 31)).toInt32), (), rfl, (by decide +kernel : ∀ t0, t0 < 32 → (0 < nI (2 ^ t0 - 1) ∧ ¬ (nI (2 ^ t0 - 1)) ≤ 65536 ∧ ¬ (((nI (2 ^ t0 - 1)).toUInt32 >>> ((16 : Int32).toUInt32 &&& Int32.toUInt32 31)).toInt32) ≤ 256 ∧ ¬ (((((nI (2 ^ t0 - 1)).toUInt32 >>> ((16 : Int32).toUInt32 &&& Int32.toUInt32 31)).toInt32).toUInt32 >>> ((8 : Int32).toUInt32 &&& Int32.toUInt32 31)).toInt32) ≤ 16 ∧ ¬ (((((((nI (2 ^ t0 - 1)).toUInt32 >>> ((16 : Int32).toUInt32 &&& Int32.toUInt32 31)).toInt32).toUInt32 >>> ((8 : Int32).toUInt32 &&& Int32.toUInt32 31)).toInt32).toUInt32 >>> ((4 : Int32).toUInt32 &&& Int32.toUInt32 31)).toInt32) ≤ 4) → ((((1 + 16) + 8) + 4) + 2) + (((((((((((nI (2 ^ t0 - 1)).toUInt32 >>> ((16 : Int32).toUInt32 &&& Int32.toUInt32 31)).toInt32).toUInt32 >>> ((8 : Int32).toUInt32 &&& Int32.toUInt32 31)).toInt32).toUInt32 >>> ((4 : Int32).toUInt32 &&& Int32.toUInt32 31)).toInt32).toUInt32 >>> ((2 : Int32).toUInt32 &&& Int32.toUInt32 31)).toInt32).toUInt32 >>> ((1 : Int32).toUInt32 &&& Int32.toUInt32 31)).toInt32) = nI t0) t0 ht0 ⟨cb_6, cb_7, cb_15, cb_19, cb_21⟩, by rw [ht]; exact hP, va_K.moved hW.alike hK, hD⟩, hS.F ht⟩) hS.2.2 dJI_numberOfTrailingZeros_79
  · refine lv_iload_n hx hb dJI_numberOfTrailingZeros_12 rfl (lv_at hl 0 rfl) ?_
    refine lv_bipush (v := 32) hx hb dJI_numberOfTrailingZeros_13 (by decide) ?_
    refine lv_iand hx hb dJI_numberOfTrailingZeros_15 ?_
    exact W.iret (v := (nI (2 ^ t0 - 1)) &&& 32) hx hb hr (fun t ht hW => ⟨⟨(nI (2 ^ t0 - 1)) &&& 32, (), rfl, (by decide +kernel : ∀ t0, t0 < 32 → (¬ 0 < nI (2 ^ t0 - 1)) → (nI (2 ^ t0 - 1)) &&& 32 = nI t0) t0 ht0 cb_6, by rw [ht]; exact hP, va_K.moved hW.alike hK, hD⟩, hS.F ht⟩) hS.2.2 dJI_numberOfTrailingZeros_16
set_option maxHeartbeats 4000000 in
set_option maxRecDepth 100000 in
theorem c_ntz64 (l : Launch) (dC : Nat → ClassId) (dI : Nat → Nat → Nat) (x : Int64) (t0 : Nat) (sz : Nat) (ht0 : t0 < 64) (h1 : zb x t0 = true) (h0 : ∀ j, j < t0 → zb x j = false) : Met l yJL_numberOfTrailingZeros wsJL_numberOfTrailingZeros ({ frames := 1, cells := 0, slots := 0, locals := 30 }) (va_Pc [.long x] (fun U => U.heap.size = sz ∧ va_P (dC, dI) vwCl [] U.heap ∧ va_K (dC, dI) vwCl [] U ∧ va_D (fun _ => True) [])) (va_Qi (fun (r : Int32) (u : Unit) => r = nI t0) (fun (u : Unit) (t : State) => va_P (dC, dI) vwCl [] t.heap ∧ va_K (dC, dI) vwCl [] t ∧ va_D (va_A [] sz) []) (va_A [] sz)) 0 0 (va_A [] sz) := by
  refine Met.ofW (cc := cJL_numberOfTrailingZeros) (maxL := 3) (ret := (some .int)) (by decide) rfl ?_
  intro p e s m args below meth c s₁ B hml hv
  obtain ⟨rfl, hsz, hP, hK, hD0⟩ := hv
  have hx := B.exec
  have hb := B.bytes
  have hr := B.returns
  have hts := atoms_spec (ws := wsJL_numberOfTrailingZeros) B.pre
  have htA : ∀ w ∈ wsA, w.before _ s = true := fun w h => hts w (List.mem_cons_of_mem _ h)
  have hown : s.vm.findClass RJL = some m.cls := findClass_of_methodNamed B.named
  have hlocks := B.notSynchronized
  subst hsz
  have hD := hD0.self (sz := s.heap.size)
  generalize hAe : va_A [] s.heap.size = A at hD ⊢
  have hA : ∀ q : Nat, s.heap.size ≤ q → A q := fun q h => by rw [← hAe]; exact Or.inr h
  have hS : va_S A s.heap s.heap [] := va_S.rf
  have hP : va_P (dC, dI) vwCl [] s.heap := hP
  have hl := lv_entry ([.long x]) (n := 3) (Nat.le_of_ble_eq_true rfl)
  rw [lg_entry_eq]
  generalize (lg_sl ([.long x]) ++ List.replicate (3 - (lg_sl ([.long x])).length) Slot.unset).toArray = ls at hl ⊢
  have hl : lv_has ls 3 [(0, .long x)] := hl
  refine lv_lload_n hx hb dJL_numberOfTrailingZeros_0 rfl (lv_at hl 0 rfl) ?_
  refine lv_l2i (v := x.toInt32) hx hb dJL_numberOfTrailingZeros_1 rfl ?_
  refine lv_istore_n (lv' := [(2, .int x.toInt32), (0, .long x)]) hx hb dJL_numberOfTrailingZeros_2 rfl hl (by decide) rfl (fun ls hl => ?_)
  refine lv_iload_n hx hb dJL_numberOfTrailingZeros_3 rfl (lv_at hl 0 rfl) ?_
  refine lv_if_ne (tgt := 21) hx hb dJL_numberOfTrailingZeros_4 (by decide) (fun cb_22 => ?_) (fun cb_22 => ?_)
  · have ht2 : t0 < 32 := by
      rcases Nat.lt_or_ge t0 32 with q | q
      · exact q
      · exact absurd (yb_z.mpr (fun i hi => by rw [yb_lo _ hi]; exact h0 i (by omega))) cb_22
    refine lv_iload_n hx hb dJL_numberOfTrailingZeros_21 rfl (lv_at hl 0 rfl) ?_
    have hPc := hP.sub (ws' := []) [] rfl
    have hDc := hD.sub (ws' := []) [] (by decide) rfl
    have hKc := hK.sub (tys' := []) [] rfl
    have hFc := va_free (wc := []) hD hS hA [] rfl
    refine va_calli (va_runS (As := [.int x.toInt32]) (rest := []) ⟨hx, hb, hml, hown, htA⟩ (c_ntz32 l dC dI x.toInt32 t0 s.heap.size ht2 (by rw [yb_lo _ ht2]; exact h1) (fun j hj => by rw [yb_lo _ (by omega)]; exact h0 j hj)) (va_cwS 1 htA gJL_311 rfl rfl rfl (by decide +kernel) ⟨Nat.le_of_ble_eq_true rfl, Nat.le_of_ble_eq_true rfl⟩) ⟨fun a U g mk q => by obtain ⟨q0, q1, qP, qK, qD⟩ := q; exact ⟨q0, q1, qP, va_K.moved (u := U) (U := U.calling g mk a) (Vm.Alike.refl U.vm) qK, qD⟩, fun U hU hW => ⟨rfl, by rw [hU], by rw [hU]; exact hPc, va_K.moved hW.alike hKc, hDc.weaken (fun _ _ _ _ => trivial)⟩⟩ rfl rfl hl.1 rfl (lv_room (Nat.le_of_ble_eq_true rfl)) dJL_numberOfTrailingZeros_22 ⟨Nat.zero_le _, Nat.zero_le _⟩) hS (fun q _ h => hFc q h) hFc (fun r9 u t H1 locs ht hvm hw hB hz1 hk1 hS => ?_)
    obtain ⟨hP1, hK1, hD1⟩ := hB
    rw [ht] at hP1
    try dsimp only at hw hP1 hD1
    obtain ⟨hP, hD⟩ := va_join (wr := []) (w1 := []) hP hD [] [] rfl rfl (by decide) (by decide) hk1 hFc hP1 hD1
    generalize H1 = H at hP hS ⊢
    have hP : va_P (dC, dI) vwCl [] H := hP.sub [] rfl
    have hD : va_D A [] := hD.sub [] (by decide) rfl
    exact W.iret (v := r9) hx hb hr (fun t ht hW => ⟨⟨r9, (), rfl, hw, by rw [ht]; exact hP, va_K.moved hW.alike hK, hD⟩, hS.F ht⟩) hS.2.2 dJL_numberOfTrailingZeros_25
  · have ht2 : 32 ≤ t0 := by
      rcases Nat.lt_or_ge t0 32 with q | q
      · have := yb_z.mp cb_22 t0 q
        rw [yb_lo _ q, h1] at this
        cases this
      · exact q
    refine lv_bipush (v := 32) hx hb dJL_numberOfTrailingZeros_7 (by decide) ?_
    refine lv_lload_n hx hb dJL_numberOfTrailingZeros_9 rfl (lv_at hl 1 rfl) ?_
    refine lv_bipush (v := 32) hx hb dJL_numberOfTrailingZeros_10 (by decide) ?_
    refine lv_lushr (v := (x.toUInt64 >>> ((32 : Int32).toInt64.toUInt64 &&& Int64.toUInt64 63)).toInt64) hx hb dJL_numberOfTrailingZeros_12 rfl ?_
    refine lv_l2i (v := ((x.toUInt64 >>> ((32 : Int32).toInt64.toUInt64 &&& Int64.toUInt64 63)).toInt64).toInt32) hx hb dJL_numberOfTrailingZeros_13 rfl ?_
    have hPc := hP.sub (ws' := []) [] rfl
    have hDc := hD.sub (ws' := []) [] (by decide) rfl
    have hKc := hK.sub (tys' := []) [] rfl
    have hFc := va_free (wc := []) hD hS hA [] rfl
    refine va_calli (va_runS (As := [.int (((x.toUInt64 >>> ((32 : Int32).toInt64.toUInt64 &&& Int64.toUInt64 63)).toInt64).toInt32)]) (rest := [.int 32]) ⟨hx, hb, hml, hown, htA⟩ (c_ntz32 l dC dI (((x.toUInt64 >>> ((32 : Int32).toInt64.toUInt64 &&& Int64.toUInt64 63)).toInt64).toInt32) (t0 - 32) s.heap.size (by omega) (by rw [yb_hi _ (by omega), show 32 + (t0 - 32) = t0 by omega]; exact h1) (fun j hj => by rw [yb_hi _ (by omega)]; exact h0 _ (by omega))) (va_cwS 1 htA gJL_311 rfl rfl rfl (by decide +kernel) ⟨Nat.le_of_ble_eq_true rfl, Nat.le_of_ble_eq_true rfl⟩) ⟨fun a U g mk q => by obtain ⟨q0, q1, qP, qK, qD⟩ := q; exact ⟨q0, q1, qP, va_K.moved (u := U) (U := U.calling g mk a) (Vm.Alike.refl U.vm) qK, qD⟩, fun U hU hW => ⟨rfl, by rw [hU], by rw [hU]; exact hPc, va_K.moved hW.alike hKc, hDc.weaken (fun _ _ _ _ => trivial)⟩⟩ rfl rfl hl.1 rfl (lv_room (Nat.le_of_ble_eq_true rfl)) dJL_numberOfTrailingZeros_14 ⟨Nat.zero_le _, Nat.zero_le _⟩) hS (fun q _ h => hFc q h) hFc (fun r9 u t H1 locs ht hvm hw hB hz1 hk1 hS => ?_)
    obtain ⟨hP1, hK1, hD1⟩ := hB
    rw [ht] at hP1
    try dsimp only at hw hP1 hD1
    obtain ⟨hP, hD⟩ := va_join (wr := []) (w1 := []) hP hD [] [] rfl rfl (by decide) (by decide) hk1 hFc hP1 hD1
    generalize H1 = H at hP hS ⊢
    have hP : va_P (dC, dI) vwCl [] H := hP.sub [] rfl
    have hD : va_D A [] := hD.sub [] (by decide) rfl
    obtain rfl := hw
    refine lv_iadd hx hb dJL_numberOfTrailingZeros_17 ?_
    refine W.eq (g2 := F0 m 18 ls [.int (nI t0)]) (by rw [show (32 : Int32) + nI (t0 - 32) = nI t0 from by rw [show (32 : Int32) = nI 32 from rfl, nI_add, show 32 + (t0 - 32) = t0 by omega]]) ?_
    refine lv_goto (tgt := 25) hx hb dJL_numberOfTrailingZeros_18 (by decide) ?_
    exact W.iret (v := nI t0) hx hb hr (fun t ht hW => ⟨⟨nI t0, (), rfl, rfl, by rw [ht]; exact hP, va_K.moved hW.alike hK, hD⟩, hS.F ht⟩) hS.2.2 dJL_numberOfTrailingZeros_25
set_option maxHeartbeats 4000000 in
set_option maxRecDepth 100000 in
theorem c_bitCount (l : Launch) (dC : Nat → ClassId) (dI : Nat → Nat → Nat) (x : Int64) (sz : Nat)  : Met l yJL_bitCount wsJL_bitCount ({ frames := 0, cells := 0, slots := 0, locals := 0 }) (va_Pc [.long x] (fun U => U.heap.size = sz ∧ va_P (dC, dI) vwCl [] U.heap ∧ va_K (dC, dI) vwCl [] U ∧ va_D (fun _ => True) [])) (va_Qi (fun (r : Int32) (u : Unit) => r = nI (cb (zn x) 64)) (fun (u : Unit) (t : State) => va_P (dC, dI) vwCl [] t.heap ∧ va_K (dC, dI) vwCl [] t ∧ va_D (va_A [] sz) []) (va_A [] sz)) 0 0 (va_A [] sz) := by
  refine Met.ofW (cc := cJL_bitCount) (maxL := 2) (ret := (some .int)) (by decide) rfl ?_
  intro p e s m args below meth c s₁ B hml hv
  obtain ⟨rfl, hsz, hP, hK, hD0⟩ := hv
  have hx := B.exec
  have hb := B.bytes
  have hr := B.returns
  have hts := atoms_spec (ws := wsJL_bitCount) B.pre
  have htA : ∀ w ∈ wsA, w.before _ s = true := fun w h => hts w (List.mem_cons_of_mem _ h)
  have hown : s.vm.findClass RJL = some m.cls := findClass_of_methodNamed B.named
  have hlocks := B.notSynchronized
  subst hsz
  have hD := hD0.self (sz := s.heap.size)
  generalize hAe : va_A [] s.heap.size = A at hD ⊢
  have hA : ∀ q : Nat, s.heap.size ≤ q → A q := fun q h => by rw [← hAe]; exact Or.inr h
  have hS : va_S A s.heap s.heap [] := va_S.rf
  have hP : va_P (dC, dI) vwCl [] s.heap := hP
  have hl := lv_entry ([.long x]) (n := 2) (Nat.le_of_ble_eq_true rfl)
  rw [lg_entry_eq]
  generalize (lg_sl ([.long x]) ++ List.replicate (2 - (lg_sl ([.long x])).length) Slot.unset).toArray = ls at hl ⊢
  have hl : lv_has ls 2 [(0, .long x)] := hl
  refine lv_lload_n hx hb dJL_bitCount_0 rfl (lv_at hl 0 rfl) ?_
  refine lv_lload_n hx hb dJL_bitCount_1 rfl (lv_at hl 0 rfl) ?_
  refine lv_iconst (v := 1) hx hb dJL_bitCount_2 (by decide) ?_
  refine lv_lushr (v := (x.toUInt64 >>> ((1 : Int32).toInt64.toUInt64 &&& Int64.toUInt64 63)).toInt64) hx hb dJL_bitCount_3 rfl ?_
  refine lv_ldc2 (own := RJL) (v := 6148914691236517205) hx hb hown (htA _ lkJL_314) dJL_bitCount_4 ?_
  refine lv_land hx hb dJL_bitCount_7 ?_
  refine lv_lsub hx hb dJL_bitCount_8 ?_
  refine lv_topl (fun x1 e1 => ?_)
  refine lv_lstore_n (lv' := [(0, .long x1)]) hx hb dJL_bitCount_9 rfl hl (by decide) rfl (fun ls hl => ?_)
  refine lv_lload_n hx hb dJL_bitCount_10 rfl (lv_at hl 0 rfl) ?_
  refine lv_ldc2 (own := RJL) (v := 3689348814741910323) hx hb hown (htA _ lkJL_316) dJL_bitCount_11 ?_
  refine lv_land hx hb dJL_bitCount_14 ?_
  refine lv_lload_n hx hb dJL_bitCount_15 rfl (lv_at hl 0 rfl) ?_
  refine lv_iconst (v := 2) hx hb dJL_bitCount_16 (by decide) ?_
  refine lv_lushr (v := (x1.toUInt64 >>> ((2 : Int32).toInt64.toUInt64 &&& Int64.toUInt64 63)).toInt64) hx hb dJL_bitCount_17 rfl ?_
  refine lv_ldc2 (own := RJL) (v := 3689348814741910323) hx hb hown (htA _ lkJL_316) dJL_bitCount_18 ?_
  refine lv_land hx hb dJL_bitCount_21 ?_
  refine lv_ladd hx hb dJL_bitCount_22 ?_
  refine lv_topl (fun x2 e2 => ?_)
  refine lv_lstore_n (lv' := [(0, .long x2)]) hx hb dJL_bitCount_23 rfl hl (by decide) rfl (fun ls hl => ?_)
  refine lv_lload_n hx hb dJL_bitCount_24 rfl (lv_at hl 0 rfl) ?_
  refine lv_lload_n hx hb dJL_bitCount_25 rfl (lv_at hl 0 rfl) ?_
  refine lv_iconst (v := 4) hx hb dJL_bitCount_26 (by decide) ?_
  refine lv_lushr (v := (x2.toUInt64 >>> ((4 : Int32).toInt64.toUInt64 &&& Int64.toUInt64 63)).toInt64) hx hb dJL_bitCount_27 rfl ?_
  refine lv_ladd hx hb dJL_bitCount_28 ?_
  refine lv_ldc2 (own := RJL) (v := 1085102592571150095) hx hb hown (htA _ lkJL_318) dJL_bitCount_29 ?_
  refine lv_land hx hb dJL_bitCount_32 ?_
  refine lv_topl (fun x3 e3 => ?_)
  refine lv_lstore_n (lv' := [(0, .long x3)]) hx hb dJL_bitCount_33 rfl hl (by decide) rfl (fun ls hl => ?_)
  refine lv_lload_n hx hb dJL_bitCount_34 rfl (lv_at hl 0 rfl) ?_
  refine lv_lload_n hx hb dJL_bitCount_35 rfl (lv_at hl 0 rfl) ?_
  refine lv_bipush (v := 8) hx hb dJL_bitCount_36 (by decide) ?_
  refine lv_lushr (v := (x3.toUInt64 >>> ((8 : Int32).toInt64.toUInt64 &&& Int64.toUInt64 63)).toInt64) hx hb dJL_bitCount_38 rfl ?_
  refine lv_ladd hx hb dJL_bitCount_39 ?_
  refine lv_topl (fun x4 e4 => ?_)
  refine lv_lstore_n (lv' := [(0, .long x4)]) hx hb dJL_bitCount_40 rfl hl (by decide) rfl (fun ls hl => ?_)
  refine lv_lload_n hx hb dJL_bitCount_41 rfl (lv_at hl 0 rfl) ?_
  refine lv_lload_n hx hb dJL_bitCount_42 rfl (lv_at hl 0 rfl) ?_
  refine lv_bipush (v := 16) hx hb dJL_bitCount_43 (by decide) ?_
  refine lv_lushr (v := (x4.toUInt64 >>> ((16 : Int32).toInt64.toUInt64 &&& Int64.toUInt64 63)).toInt64) hx hb dJL_bitCount_45 rfl ?_
  refine lv_ladd hx hb dJL_bitCount_46 ?_
  refine lv_topl (fun x5 e5 => ?_)
  refine lv_lstore_n (lv' := [(0, .long x5)]) hx hb dJL_bitCount_47 rfl hl (by decide) rfl (fun ls hl => ?_)
  refine lv_lload_n hx hb dJL_bitCount_48 rfl (lv_at hl 0 rfl) ?_
  refine lv_lload_n hx hb dJL_bitCount_49 rfl (lv_at hl 0 rfl) ?_
  refine lv_bipush (v := 32) hx hb dJL_bitCount_50 (by decide) ?_
  refine lv_lushr (v := (x5.toUInt64 >>> ((32 : Int32).toInt64.toUInt64 &&& Int64.toUInt64 63)).toInt64) hx hb dJL_bitCount_52 rfl ?_
  refine lv_ladd hx hb dJL_bitCount_53 ?_
  refine lv_topl (fun x6 e6 => ?_)
  refine lv_lstore_n (lv' := [(0, .long x6)]) hx hb dJL_bitCount_54 rfl hl (by decide) rfl (fun ls hl => ?_)
  refine lv_lload_n hx hb dJL_bitCount_55 rfl (lv_at hl 0 rfl) ?_
  refine lv_l2i (v := x6.toInt32) hx hb dJL_bitCount_56 rfl ?_
  refine lv_bipush (v := 127) hx hb dJL_bitCount_57 (by decide) ?_
  refine lv_iand hx hb dJL_bitCount_59 ?_
  exact W.iret (v := x6.toInt32 &&& 127) hx hb hr (fun t ht hW => ⟨⟨x6.toInt32 &&& 127, (), rfl, y_bitCount e1 e2 e3 e4 e5 e6, by rw [ht]; exact hP, va_K.moved hW.alike hK, hD⟩, hS.F ht⟩) hS.2.2 dJL_bitCount_60
set_option maxHeartbeats 4000000 in
set_option maxRecDepth 100000 in
theorem c_nextBlock (l : Launch) (dC : Nat → ClassId) (dI : Nat → Nat → Nat) (c0 : Nat) (sz : Nat) (hc0 : c0 < 262144) : Met l yX2_nextBlock wsX2_nextBlock ({ frames := 0, cells := 0, slots := 0, locals := 0 }) (va_Pc [.int (nI c0)] (fun U => U.heap.size = sz ∧ va_P (dC, dI) vwCl [] U.heap ∧ va_K (dC, dI) vwCl [] U ∧ va_D (fun _ => True) [])) (va_Qi (fun (r : Int32) (u : Unit) => r = nI (64 * (c0 / 64) + 64)) (fun (u : Unit) (t : State) => va_P (dC, dI) vwCl [] t.heap ∧ va_K (dC, dI) vwCl [] t ∧ va_D (va_A [] sz) []) (va_A [] sz)) 0 0 (va_A [] sz) := by
  refine Met.ofW (cc := cX2_nextBlock) (maxL := 1) (ret := (some .int)) (by decide) rfl ?_
  intro p e s m args below meth c s₁ B hml hv
  obtain ⟨rfl, hsz, hP, hK, hD0⟩ := hv
  have hx := B.exec
  have hb := B.bytes
  have hr := B.returns
  have hts := atoms_spec (ws := wsX2_nextBlock) B.pre
  have htA : ∀ w ∈ wsA, w.before _ s = true := fun w h => hts w (List.mem_cons_of_mem _ h)
  have hown : s.vm.findClass RX2 = some m.cls := findClass_of_methodNamed B.named
  have hlocks := B.notSynchronized
  subst hsz
  have hD := hD0.self (sz := s.heap.size)
  generalize hAe : va_A [] s.heap.size = A at hD ⊢
  have hA : ∀ q : Nat, s.heap.size ≤ q → A q := fun q h => by rw [← hAe]; exact Or.inr h
  have hS : va_S A s.heap s.heap [] := va_S.rf
  have hP : va_P (dC, dI) vwCl [] s.heap := hP
  have hl := lv_entry ([.int (nI c0)]) (n := 1) (Nat.le_of_ble_eq_true rfl)
  rw [lg_entry_eq]
  generalize (lg_sl ([.int (nI c0)]) ++ List.replicate (1 - (lg_sl ([.int (nI c0)])).length) Slot.unset).toArray = ls at hl ⊢
  have hl : lv_has ls 1 [(0, .int (nI c0))] := hl
  refine lv_iload_n hx hb dX2_nextBlock_0 rfl (lv_at hl 0 rfl) ?_
  refine lv_bipush (v := (-64)) hx hb dX2_nextBlock_1 (by decide) ?_
  refine lv_iand hx hb dX2_nextBlock_3 ?_
  refine lv_bipush (v := 64) hx hb dX2_nextBlock_4 (by decide) ?_
  refine lv_iadd hx hb dX2_nextBlock_6 ?_
  exact W.iret (v := ((nI c0) &&& (-64)) + 64) hx hb hr (fun t ht hW => ⟨⟨((nI c0) &&& (-64)) + 64, (), rfl, y_nblk hc0, by rw [ht]; exact hP, va_K.moved hW.alike hK, hD⟩, hS.F ht⟩) hS.2.2 dX2_nextBlock_7
set_option maxHeartbeats 4000000 in
set_option maxRecDepth 100000 in
theorem c_foundIn (l : Launch) (dC : Nat → ClassId) (dI : Nat → Nat → Nat) (hs : Nat) (q1 : Nat) (q2 : Nat) (q7 : Nat) (q5 : Nat) (q6 : Nat) (bY : Int32) (bN : Int32) (fd : Int64) (sz : Nat)  : Met l yX2_foundInBlock wsX2_foundInBlock ({ frames := 1, cells := 0, slots := 0, locals := 30 }) (va_Pc [.ref hs] (fun U => U.heap.size = sz ∧ va_P (dC, dI) vwCl [sO hs q1 q2 q7 q5 q6 bY bN fd] U.heap ∧ va_K (dC, dI) vwCl [] U ∧ va_D (fun _ => True) [sO hs q1 q2 q7 q5 q6 bY bN fd])) (va_Qi (fun (r : Int32) (u : Unit) => r = nI (cb (zn fd) 64)) (fun (u : Unit) (t : State) => va_P (dC, dI) vwCl [sO hs q1 q2 q7 q5 q6 bY bN fd] t.heap ∧ va_K (dC, dI) vwCl [] t ∧ va_D (va_A [sO hs q1 q2 q7 q5 q6 bY bN fd] sz) [sO hs q1 q2 q7 q5 q6 bY bN fd]) (va_A [sO hs q1 q2 q7 q5 q6 bY bN fd] sz)) 0 0 (va_A [sO hs q1 q2 q7 q5 q6 bY bN fd] sz) := by
  refine Met.ofW (cc := cX2_foundInBlock) (maxL := 1) (ret := (some .int)) (by decide) rfl ?_
  intro p e s m args below meth c s₁ B hml hv
  obtain ⟨rfl, hsz, hP, hK, hD0⟩ := hv
  have hx := B.exec
  have hb := B.bytes
  have hr := B.returns
  have hts := atoms_spec (ws := wsX2_foundInBlock) B.pre
  have htA : ∀ w ∈ wsA, w.before _ s = true := fun w h => hts w (List.mem_cons_of_mem _ h)
  have hown : s.vm.findClass RX2 = some m.cls := findClass_of_methodNamed B.named
  have hlocks := B.notSynchronized
  subst hsz
  have hD := hD0.self (sz := s.heap.size)
  generalize hAe : va_A [sO hs q1 q2 q7 q5 q6 bY bN fd] s.heap.size = A at hD ⊢
  have hA : ∀ q : Nat, s.heap.size ≤ q → A q := fun q h => by rw [← hAe]; exact Or.inr h
  have hS : va_S A s.heap s.heap [] := va_S.rf
  have hP : va_P (dC, dI) vwCl [sO hs q1 q2 q7 q5 q6 bY bN fd] s.heap := hP
  have hl := lv_entry ([.ref hs]) (n := 1) (Nat.le_of_ble_eq_true rfl)
  rw [lg_entry_eq]
  generalize (lg_sl ([.ref hs]) ++ List.replicate (1 - (lg_sl ([.ref hs])).length) Slot.unset).toArray = ls at hl ⊢
  have hl : lv_has ls 1 [(0, .ref hs)] := hl
  refine lv_aload_n hx hb dX2_foundInBlock_0 rfl (lv_at hl 0 rfl) ?_
  refine va_get (D := (dC, dI)) (ci := 2) (v := .long fd) (C := RX2) (T := TX2) (N := 8) hx hb htA inX2 hown hK hP 0 rfl rfl 7 (by decide) (htA _ lkX2_52) (fun _ h9 => h9) rfl dX2_foundInBlock_1 ?_
  have hPc := hP.sub (ws' := []) [] rfl
  have hDc := hD.sub (ws' := []) [] (by decide) rfl
  have hKc := hK.sub (tys' := []) [] rfl
  have hFc := va_free (wc := []) hD hS hA [] rfl
  refine va_calli (va_runS (As := [.long fd]) (rest := []) ⟨hx, hb, hml, hown, htA⟩ (c_bitCount l dC dI fd s.heap.size) (va_cwS 1 htA gX2_69 rfl rfl rfl (by decide +kernel) ⟨Nat.le_of_ble_eq_true rfl, Nat.le_of_ble_eq_true rfl⟩) ⟨fun a U g mk q => by obtain ⟨q0, q1, qP, qK, qD⟩ := q; exact ⟨q0, q1, qP, va_K.moved (u := U) (U := U.calling g mk a) (Vm.Alike.refl U.vm) qK, qD⟩, fun U hU hW => ⟨rfl, by rw [hU], by rw [hU]; exact hPc, va_K.moved hW.alike hKc, hDc.weaken (fun _ _ _ _ => trivial)⟩⟩ rfl rfl hl.1 rfl (lv_room (Nat.le_of_ble_eq_true rfl)) dX2_foundInBlock_4 ⟨Nat.zero_le _, Nat.zero_le _⟩) hS (fun q _ h => hFc q h) hFc (fun r9 u t H1 locs ht hvm hw hB hz1 hk1 hS => ?_)
  obtain ⟨hP1, hK1, hD1⟩ := hB
  rw [ht] at hP1
  try dsimp only at hw hP1 hD1
  obtain ⟨hP, hD⟩ := va_join (wr := [sO hs q1 q2 q7 q5 q6 bY bN fd]) (w1 := []) hP hD [] [0] rfl rfl (by decide) (by decide) hk1 hFc hP1 hD1
  generalize H1 = H at hP hS ⊢
  have hP : va_P (dC, dI) vwCl [sO hs q1 q2 q7 q5 q6 bY bN fd] H := hP.sub [0] rfl
  have hD : va_D A [sO hs q1 q2 q7 q5 q6 bY bN fd] := hD.sub [0] (by decide) rfl
  exact W.iret (v := r9) hx hb hr (fun t ht hW => ⟨⟨r9, (), rfl, hw, by rw [ht]; exact hP, va_K.moved hW.alike hK, hD⟩, hS.F ht⟩) hS.2.2 dX2_foundInBlock_7
set_option maxHeartbeats 4000000 in
set_option maxRecDepth 100000 in
theorem c_writeParts (l : Launch) (dC : Nat → ClassId) (dI : Nat → Nat → Nat) (hs : Nat) (q1 : Nat) (q2 : Nat) (q7 : Nat) (q5 : Nat) (q6 : Nat) (k1 : ClassId) (k2 : ClassId) (k7 : ClassId) (f1 : Nat → Int32) (f2 : Nat → Int32) (f7 : Nat → Int64) (bY : Int32) (bN : Int32) (fd : Int64) (k : Nat) (y : Int32) (n : Int32) (w : Int64) (sz : Nat) (hk : k < 420) : Met l yX2_writeParts wsX2_writeParts ({ frames := 0, cells := 0, slots := 0, locals := 0 }) (va_Pc [.ref hs, .int (nI k), .int y, .int n, .long w] (fun U => U.heap.size = sz ∧ va_P (dC, dI) vwCl [sO hs q1 q2 q7 q5 q6 bY bN fd, (q1, .inl (k1, 420, .inl f1)), (q2, .inl (k2, 420, .inl f2)), (q7, .inl (k7, 420, .inr (.inl f7)))] U.heap ∧ va_K (dC, dI) vwCl [(k1, .int), (k2, .int), (k7, .long)] U ∧ va_D (fun _ => True) [sO hs q1 q2 q7 q5 q6 bY bN fd, (q1, .inl (k1, 420, .inl f1)), (q2, .inl (k2, 420, .inl f2)), (q7, .inl (k7, 420, .inr (.inl f7)))])) (va_Qv (fun (u : (Nat → Int32) × (Nat → Int32) × (Nat → Int64)) => u.1 = upd f1 k y ∧ u.2.1 = upd f2 k n ∧ u.2.2 = vp_updL f7 k w) (fun (u : (Nat → Int32) × (Nat → Int32) × (Nat → Int64)) (t : State) => va_P (dC, dI) vwCl [sO hs q1 q2 q7 q5 q6 bY bN fd, (q1, .inl (k1, 420, .inl u.1)), (q2, .inl (k2, 420, .inl u.2.1)), (q7, .inl (k7, 420, .inr (.inl u.2.2)))] t.heap ∧ va_K (dC, dI) vwCl [(k1, .int), (k2, .int), (k7, .long)] t ∧ va_D (va_A [sO hs q1 q2 q7 q5 q6 bY bN fd, (q1, .inl (k1, 420, .inl f1)), (q2, .inl (k2, 420, .inl f2)), (q7, .inl (k7, 420, .inr (.inl f7)))] sz) [sO hs q1 q2 q7 q5 q6 bY bN fd, (q1, .inl (k1, 420, .inl u.1)), (q2, .inl (k2, 420, .inl u.2.1)), (q7, .inl (k7, 420, .inr (.inl u.2.2)))]) (va_A [sO hs q1 q2 q7 q5 q6 bY bN fd, (q1, .inl (k1, 420, .inl f1)), (q2, .inl (k2, 420, .inl f2)), (q7, .inl (k7, 420, .inr (.inl f7)))] sz)) 0 0 (va_A [sO hs q1 q2 q7 q5 q6 bY bN fd, (q1, .inl (k1, 420, .inl f1)), (q2, .inl (k2, 420, .inl f2)), (q7, .inl (k7, 420, .inr (.inl f7)))] sz) := by
  refine Met.ofW (cc := cX2_writeParts) (maxL := 6) (ret := none) (by decide) rfl ?_
  intro p e s m args below meth c s₁ B hml hv
  obtain ⟨rfl, hsz, hP, hK, hD0⟩ := hv
  have hx := B.exec
  have hb := B.bytes
  have hr := B.returns
  have hts := atoms_spec (ws := wsX2_writeParts) B.pre
  have htA : ∀ w ∈ wsA, w.before _ s = true := fun w h => hts w (List.mem_cons_of_mem _ h)
  have hown : s.vm.findClass RX2 = some m.cls := findClass_of_methodNamed B.named
  have hlocks := B.notSynchronized
  subst hsz
  have hD := hD0.self (sz := s.heap.size)
  generalize hAe : va_A [sO hs q1 q2 q7 q5 q6 bY bN fd, (q1, .inl (k1, 420, .inl f1)), (q2, .inl (k2, 420, .inl f2)), (q7, .inl (k7, 420, .inr (.inl f7)))] s.heap.size = A at hD ⊢
  have hA : ∀ q : Nat, s.heap.size ≤ q → A q := fun q h => by rw [← hAe]; exact Or.inr h
  have hS : va_S A s.heap s.heap [] := va_S.rf
  have hP : va_P (dC, dI) vwCl [sO hs q1 q2 q7 q5 q6 bY bN fd, (q1, .inl (k1, 420, .inl f1)), (q2, .inl (k2, 420, .inl f2)), (q7, .inl (k7, 420, .inr (.inl f7)))] s.heap := hP
  have hl := lv_entry ([.ref hs, .int (nI k), .int y, .int n, .long w]) (n := 6) (Nat.le_of_ble_eq_true rfl)
  rw [lg_entry_eq]
  generalize (lg_sl ([.ref hs, .int (nI k), .int y, .int n, .long w]) ++ List.replicate (6 - (lg_sl ([.ref hs, .int (nI k), .int y, .int n, .long w])).length) Slot.unset).toArray = ls at hl ⊢
  have hl : lv_has ls 6 [(0, .ref hs), (1, .int (nI k)), (2, .int y), (3, .int n), (4, .long w)] := hl
  refine lv_iload_n hx hb dX2_writeParts_0 rfl (lv_at hl 1 rfl) ?_
  refine lv_if_lt (tgt := 33) hx hb dX2_writeParts_1 (by decide) (fun cb_23 => ?_) (fun cb_23 => ?_)
  · exact absurd cb_23 (nI_pos (by omega))
  · refine lv_iload_n hx hb dX2_writeParts_4 rfl (lv_at hl 1 rfl) ?_
    refine lv_sipush (v := 420) hx hb dX2_writeParts_5 (by decide) ?_
    refine lv_icmp_ge (tgt := 33) hx hb dX2_writeParts_8 (by decide) (fun cb_24 => ?_) (fun cb_24 => ?_)
    · exact absurd cb_24 (nI_ge (b := 420) hk (by omega))
    · refine lv_aload_n hx hb dX2_writeParts_11 rfl (lv_at hl 0 rfl) ?_
      refine va_get (D := (dC, dI)) (ci := 2) (v := .ref q1) (C := RX2) (T := TX2) (N := 8) hx hb htA inX2 hown hK hP 0 rfl rfl 0 (by decide) (htA _ lkX2_11) (fun _ h9 => h9) rfl dX2_writeParts_12 ?_
      refine lv_iload_n hx hb dX2_writeParts_15 rfl (lv_at hl 1 rfl) ?_
      refine lv_iload_n hx hb dX2_writeParts_16 rfl (lv_at hl 2 rfl) ?_
      refine yv_iast hx hb hK hP hD hS 1 0 rfl rfl (k := k) hk (by decide) dX2_writeParts_17 (fun H locs hP hD hS => ?_)
      have hP : va_P (dC, dI) vwCl [sO hs q1 q2 q7 q5 q6 bY bN fd, (q1, .inl (k1, 420, .inl (upd f1 k y))), (q2, .inl (k2, 420, .inl f2)), (q7, .inl (k7, 420, .inr (.inl f7)))] H := hP
      have hD : va_D A [sO hs q1 q2 q7 q5 q6 bY bN fd, (q1, .inl (k1, 420, .inl (upd f1 k y))), (q2, .inl (k2, 420, .inl f2)), (q7, .inl (k7, 420, .inr (.inl f7)))] := hD
      refine lv_aload_n hx hb dX2_writeParts_18 rfl (lv_at hl 0 rfl) ?_
      refine va_get (D := (dC, dI)) (ci := 2) (v := .ref q2) (C := RX2) (T := TX2) (N := 8) hx hb htA inX2 hown hK hP 0 rfl rfl 1 (by decide) (htA _ lkX2_15) (fun _ h9 => h9) rfl dX2_writeParts_19 ?_
      refine lv_iload_n hx hb dX2_writeParts_22 rfl (lv_at hl 1 rfl) ?_
      refine lv_iload_n hx hb dX2_writeParts_23 rfl (lv_at hl 3 rfl) ?_
      refine yv_iast hx hb hK hP hD hS 2 1 rfl rfl (k := k) hk (by decide) dX2_writeParts_24 (fun H locs hP hD hS => ?_)
      have hP : va_P (dC, dI) vwCl [sO hs q1 q2 q7 q5 q6 bY bN fd, (q1, .inl (k1, 420, .inl (upd f1 k y))), (q2, .inl (k2, 420, .inl (upd f2 k n))), (q7, .inl (k7, 420, .inr (.inl f7)))] H := hP
      have hD : va_D A [sO hs q1 q2 q7 q5 q6 bY bN fd, (q1, .inl (k1, 420, .inl (upd f1 k y))), (q2, .inl (k2, 420, .inl (upd f2 k n))), (q7, .inl (k7, 420, .inr (.inl f7)))] := hD
      refine lv_aload_n hx hb dX2_writeParts_25 rfl (lv_at hl 0 rfl) ?_
      refine va_get (D := (dC, dI)) (ci := 2) (v := .ref q7) (C := RX2) (T := TX2) (N := 8) hx hb htA inX2 hown hK hP 0 rfl rfl 2 (by decide) (htA _ lkX2_18) (fun _ h9 => h9) rfl dX2_writeParts_26 ?_
      refine lv_iload_n hx hb dX2_writeParts_29 rfl (lv_at hl 1 rfl) ?_
      refine lv_lload hx hb dX2_writeParts_30 (lv_at hl 4 rfl) ?_
      refine yv_last hx hb hK hP hD hS 3 2 rfl rfl (k := k) hk (by decide) dX2_writeParts_32 (fun H locs hP hD hS => ?_)
      have hP : va_P (dC, dI) vwCl [sO hs q1 q2 q7 q5 q6 bY bN fd, (q1, .inl (k1, 420, .inl (upd f1 k y))), (q2, .inl (k2, 420, .inl (upd f2 k n))), (q7, .inl (k7, 420, .inr (.inl (vp_updL f7 k w))))] H := hP
      have hD : va_D A [sO hs q1 q2 q7 q5 q6 bY bN fd, (q1, .inl (k1, 420, .inl (upd f1 k y))), (q2, .inl (k2, 420, .inl (upd f2 k n))), (q7, .inl (k7, 420, .inr (.inl (vp_updL f7 k w))))] := hD
      exact W.vret hx hb hr (fun t ht hW => ⟨⟨(upd f1 k y, upd f2 k n, vp_updL f7 k w), rfl, ⟨rfl, rfl, rfl⟩, by rw [ht]; exact hP, va_K.moved hW.alike hK, hD⟩, hS.F ht⟩) hS.2.2 dX2_writeParts_33
end
section
set_option maxHeartbeats 4000000 in
set_option maxRecDepth 100000 in
theorem c_whereTrue (l : Launch) (dC : Nat → ClassId) (dI : Nat → Nat → Nat) (y : Int32) (n : Int32) (sz : Nat)  : Met l yX2_whereTrue wsX2_whereTrue ({ frames := 0, cells := 0, slots := 0, locals := 0 }) (va_Pc [.int y, .int n] (fun U => U.heap.size = sz ∧ va_P (dC, dI) vwCl [] U.heap ∧ va_K (dC, dI) vwCl [] U ∧ va_D (fun _ => True) [] ∧ yStat (va_A [] sz) U U.heap)) (va_Ql (fun (r : Int64) (u : Unit) => yLw 6 y n r) (fun (u : Unit) (t : State) => va_P (dC, dI) vwCl [] t.heap ∧ va_K (dC, dI) vwCl [] t ∧ va_D (va_A [] sz) []) (va_A [] sz)) 0 0 (va_A [] sz) := by
  refine Met.ofW (cc := cX2_whereTrue) (maxL := 5) (ret := (some .long)) (by decide) rfl ?_
  intro p e s m args below meth c s₁ B hml hv
  obtain ⟨rfl, hsz, hP, hK, hD0, hST⟩ := hv
  have hx := B.exec
  have hb := B.bytes
  have hr := B.returns
  have hts := atoms_spec (ws := wsX2_whereTrue) B.pre
  have htA : ∀ w ∈ wsA, w.before _ s = true := fun w h => hts w (List.mem_cons_of_mem _ h)
  have hown : s.vm.findClass RX2 = some m.cls := findClass_of_methodNamed B.named
  have hlocks := B.notSynchronized
  subst hsz
  have hD := hD0.self (sz := s.heap.size)
  generalize hAe : va_A [] s.heap.size = A at hD hST ⊢
  have hA : ∀ q : Nat, s.heap.size ≤ q → A q := fun q h => by rw [← hAe]; exact Or.inr h
  have hS : va_S A s.heap s.heap [] := va_S.rf
  have hP : va_P (dC, dI) vwCl [] s.heap := hP
  have hl := lv_entry ([.int y, .int n]) (n := 5) (Nat.le_of_ble_eq_true rfl)
  rw [lg_entry_eq]
  generalize (lg_sl ([.int y, .int n]) ++ List.replicate (5 - (lg_sl ([.int y, .int n])).length) Slot.unset).toArray = ls at hl ⊢
  have hl : lv_has ls 5 [(0, .int y), (1, .int n)] := hl
  obtain ⟨tw, hZ, hT⟩ := hST
  refine lv_lconst (v := 0) hx hb dX2_whereTrue_0 (by decide) ?_
  refine lv_lstore_n (lv' := [(2, .long 0), (0, .int y), (1, .int n)]) hx hb dX2_whereTrue_1 rfl hl (by decide) rfl (fun ls hl => ?_)
  refine lv_iconst (v := 0) hx hb dX2_whereTrue_2 (by decide) ?_
  refine lv_istore (lv' := [(4, .int 0), (2, .long 0), (0, .int y), (1, .int n)]) hx hb dX2_whereTrue_3 hl (by decide) rfl (fun ls hl => ?_)
  have loop : ∀ (fu v : Nat) (x2 : Int64), v ≤ 6 → 7 ≤ v + fu → yLw v y n x2 → ∀ (ls : Array Slot), lv_has ls 5 [(4, .int (nI v)), (2, .long x2), (0, .int y), (1, .int n)] → W p l e (headSpec wsX2_whereTrue ({ frames := 0, cells := 0, slots := 0, locals := 0 })).room s m ([.int y, .int n] : List Value).toArray below meth c s.heap [] 0 0 (MQ below (va_Ql (fun (r : Int64) (u : Unit) => yLw 6 y n r) (fun (u : Unit) (t : State) => va_P (dC, dI) vwCl [] t.heap ∧ va_K (dC, dI) vwCl [] t ∧ va_D A []) A) ([.int y, .int n] : List Value).toArray s 0 0 A) (F0 m 5 ls []) := by
    intro fu
    induction fu with
    | zero =>
      intro v x2 h1 h2
      exact absurd h2 (by omega)
    | succ fu ih =>
      intro v x2 hv hin hI ls hl
      refine lv_iload hx hb dX2_whereTrue_5 (lv_at hl 0 rfl) ?_
      refine va_gets (C := "ClauseYard$Search") (n := "WHERE_ONE") (d := "[J") (v := .ref tw) hx hb hZ hS hown (htA _ lkX2_72) (fun _ h9 => h9) dX2_whereTrue_7 ?_
      refine va_tlen hx hb hT hS (v := 6) rfl dX2_whereTrue_10 ?_
      refine lv_icmp_ge (tgt := 60) hx hb dX2_whereTrue_11 (by decide) (fun cb_25 => ?_) (fun cb_25 => ?_)
      · have hve : v = 6 := by
          rcases Nat.lt_or_ge v 6 with q | q
          · exact absurd cb_25 (nI_ge (b := 6) q (by omega))
          · omega
        subst hve
        refine lv_lload_n hx hb dX2_whereTrue_60 rfl (lv_at hl 1 rfl) ?_
        exact W.lret (v := x2) hx hb hr (fun t ht hW => ⟨⟨x2, (), rfl, hI, by rw [ht]; exact hP, va_K.moved hW.alike hK, hD⟩, hS.F ht⟩) hS.2.2 dX2_whereTrue_61
      · have hlt : v < 6 := by
          rcases Nat.lt_or_ge v 6 with q | q
          · exact q
          · exact absurd (nI_le (a := 6) q (by omega)) cb_25
        refine lv_iload_n hx hb dX2_whereTrue_14 rfl (lv_at hl 2 rfl) ?_
        refine lv_iload hx hb dX2_whereTrue_15 (lv_at hl 0 rfl) ?_
        refine lv_ishr hx hb dX2_whereTrue_17 ?_
        refine lv_iconst (v := 1) hx hb dX2_whereTrue_18 (by decide) ?_
        refine lv_iand hx hb dX2_whereTrue_19 ?_
        refine lv_if_eq (tgt := 32) hx hb dX2_whereTrue_20 (by decide) (fun cb_26 => ?_) (fun cb_26 => ?_)
        · have hy1 : yb y v = false := (y_shr1 (by omega)).mp cb_26
          refine lv_iload_n hx hb dX2_whereTrue_32 rfl (lv_at hl 3 rfl) ?_
          refine lv_iload hx hb dX2_whereTrue_33 (lv_at hl 0 rfl) ?_
          refine lv_ishr hx hb dX2_whereTrue_35 ?_
          refine lv_iconst (v := 1) hx hb dX2_whereTrue_36 (by decide) ?_
          refine lv_iand hx hb dX2_whereTrue_37 ?_
          refine lv_if_eq (tgt := 54) hx hb dX2_whereTrue_38 (by decide) (fun cb_27 => ?_) (fun cb_27 => ?_)
          · have hn1 : yb n v = false := (y_shr1 (by omega)).mp cb_27
            refine lv_iinc (v := nI (v + 1)) (lv' := [(4, .int (nI (v + 1))), (2, .long x2), (0, .int y), (1, .int n)]) hx hb dX2_whereTrue_54 hl (k := 0) rfl (nI_1 _) (by decide) rfl (fun ls hl => ?_)
            refine lv_goto (tgt := 5) hx hb dX2_whereTrue_57 (by decide) ?_
            refine ih (v + 1) _ hlt (by omega) (yLw_s hI (fun k hk => ?_)) ls (lv_sub hl [0, 1, 2, 3] rfl)
            rw [hy1, hn1]
            cases k.testBit v <;> simp
          · have hn1 : yb n v = true := by
              cases q : yb n v
              · exact absurd ((y_shr1 (by omega)).mpr q) cb_27
              · rfl
            refine lv_lload_n hx hb dX2_whereTrue_41 rfl (lv_at hl 1 rfl) ?_
            refine va_gets (C := "ClauseYard$Search") (n := "WHERE_ONE") (d := "[J") (v := .ref tw) hx hb hZ hS hown (htA _ lkX2_72) (fun _ h9 => h9) dX2_whereTrue_42 ?_
            refine lv_iload hx hb dX2_whereTrue_45 (lv_at hl 0 rfl) ?_
            refine va_tl hx hb hT hS (vp_in_nI hlt (by decide)) (v := .long (wO v)) (by show Value.long (wO (nI v).toNatClampNeg) = _; rw [nI_clamp (by omega)]) dX2_whereTrue_47 ?_
            refine lv_ldc2 (own := RX2) (v := (-1)) hx hb hown (htA _ lkX2_42) dX2_whereTrue_48 ?_
            refine lv_lxor hx hb dX2_whereTrue_51 ?_
            refine lv_lor hx hb dX2_whereTrue_52 ?_
            refine lv_lstore_n (lv' := [(2, .long (x2 ||| ((wO v) ^^^ (-1)))), (4, .int (nI v)), (0, .int y), (1, .int n)]) hx hb dX2_whereTrue_53 rfl hl (by decide) rfl (fun ls hl => ?_)
            refine lv_iinc (v := nI (v + 1)) (lv' := [(4, .int (nI (v + 1))), (2, .long (x2 ||| ((wO v) ^^^ (-1)))), (0, .int y), (1, .int n)]) hx hb dX2_whereTrue_54 hl (k := 1) rfl (nI_1 _) (by decide) rfl (fun ls hl => ?_)
            refine lv_goto (tgt := 5) hx hb dX2_whereTrue_57 (by decide) ?_
            refine ih (v + 1) _ hlt (by omega) (yLw_s hI (fun k hk => ?_)) ls (lv_sub hl [0, 1, 2, 3] rfl)
            rw [zb_or, zb_not _ hk, wO_in v hlt k hk, hy1, hn1]
            cases k.testBit v <;> simp
        · have hy1 : yb y v = true := by
            cases q : yb y v
            · exact absurd ((y_shr1 (by omega)).mpr q) cb_26
            · rfl
          refine lv_lload_n hx hb dX2_whereTrue_23 rfl (lv_at hl 1 rfl) ?_
          refine va_gets (C := "ClauseYard$Search") (n := "WHERE_ONE") (d := "[J") (v := .ref tw) hx hb hZ hS hown (htA _ lkX2_72) (fun _ h9 => h9) dX2_whereTrue_24 ?_
          refine lv_iload hx hb dX2_whereTrue_27 (lv_at hl 0 rfl) ?_
          refine va_tl hx hb hT hS (vp_in_nI hlt (by decide)) (v := .long (wO v)) (by show Value.long (wO (nI v).toNatClampNeg) = _; rw [nI_clamp (by omega)]) dX2_whereTrue_29 ?_
          refine lv_lor hx hb dX2_whereTrue_30 ?_
          refine lv_lstore_n (lv' := [(2, .long (x2 ||| (wO v))), (4, .int (nI v)), (0, .int y), (1, .int n)]) hx hb dX2_whereTrue_31 rfl hl (by decide) rfl (fun ls hl => ?_)
          refine lv_iload_n hx hb dX2_whereTrue_32 rfl (lv_at hl 3 rfl) ?_
          refine lv_iload hx hb dX2_whereTrue_33 (lv_at hl 1 rfl) ?_
          refine lv_ishr hx hb dX2_whereTrue_35 ?_
          refine lv_iconst (v := 1) hx hb dX2_whereTrue_36 (by decide) ?_
          refine lv_iand hx hb dX2_whereTrue_37 ?_
          refine lv_if_eq (tgt := 54) hx hb dX2_whereTrue_38 (by decide) (fun cb_28 => ?_) (fun cb_28 => ?_)
          · have hn1 : yb n v = false := (y_shr1 (by omega)).mp cb_28
            refine lv_iinc (v := nI (v + 1)) (lv' := [(4, .int (nI (v + 1))), (2, .long (x2 ||| (wO v))), (0, .int y), (1, .int n)]) hx hb dX2_whereTrue_54 hl (k := 1) rfl (nI_1 _) (by decide) rfl (fun ls hl => ?_)
            refine lv_goto (tgt := 5) hx hb dX2_whereTrue_57 (by decide) ?_
            refine ih (v + 1) _ hlt (by omega) (yLw_s hI (fun k hk => ?_)) ls (lv_sub hl [0, 1, 2, 3] rfl)
            rw [zb_or, wO_in v hlt k hk, hy1, hn1]
            cases k.testBit v <;> simp
          · have hn1 : yb n v = true := by
              cases q : yb n v
              · exact absurd ((y_shr1 (by omega)).mpr q) cb_28
              · rfl
            refine lv_lload_n hx hb dX2_whereTrue_41 rfl (lv_at hl 0 rfl) ?_
            refine va_gets (C := "ClauseYard$Search") (n := "WHERE_ONE") (d := "[J") (v := .ref tw) hx hb hZ hS hown (htA _ lkX2_72) (fun _ h9 => h9) dX2_whereTrue_42 ?_
            refine lv_iload hx hb dX2_whereTrue_45 (lv_at hl 1 rfl) ?_
            refine va_tl hx hb hT hS (vp_in_nI hlt (by decide)) (v := .long (wO v)) (by show Value.long (wO (nI v).toNatClampNeg) = _; rw [nI_clamp (by omega)]) dX2_whereTrue_47 ?_
            refine lv_ldc2 (own := RX2) (v := (-1)) hx hb hown (htA _ lkX2_42) dX2_whereTrue_48 ?_
            refine lv_lxor hx hb dX2_whereTrue_51 ?_
            refine lv_lor hx hb dX2_whereTrue_52 ?_
            refine lv_lstore_n (lv' := [(2, .long ((x2 ||| (wO v)) ||| ((wO v) ^^^ (-1)))), (4, .int (nI v)), (0, .int y), (1, .int n)]) hx hb dX2_whereTrue_53 rfl hl (by decide) rfl (fun ls hl => ?_)
            refine lv_iinc (v := nI (v + 1)) (lv' := [(4, .int (nI (v + 1))), (2, .long ((x2 ||| (wO v)) ||| ((wO v) ^^^ (-1)))), (0, .int y), (1, .int n)]) hx hb dX2_whereTrue_54 hl (k := 1) rfl (nI_1 _) (by decide) rfl (fun ls hl => ?_)
            refine lv_goto (tgt := 5) hx hb dX2_whereTrue_57 (by decide) ?_
            refine ih (v + 1) _ hlt (by omega) (yLw_s hI (fun k hk => ?_)) ls (lv_sub hl [0, 1, 2, 3] rfl)
            rw [zb_or, zb_or, zb_not _ hk, wO_in v hlt k hk, hy1, hn1]
            cases k.testBit v <;> simp
  exact loop 7 0 0 (by omega) (by omega) yLw_0 ls hl
set_option maxHeartbeats 4000000 in
set_option maxRecDepth 100000 in
theorem c_write (l : Launch) (dC : Nat → ClassId) (dI : Nat → Nat → Nat) (hs : Nat) (q1 : Nat) (q2 : Nat) (q7 : Nat) (q5 : Nat) (q6 : Nat) (k1 : ClassId) (k2 : ClassId) (k7 : ClassId) (f1 : Nat → Int32) (f2 : Nat → Int32) (f7 : Nat → Int64) (bY : Int32) (bN : Int32) (fd : Int64) (k : Nat) (y : Int32) (n : Int32) (sz : Nat) (hk : k < 420) : Met l yX2_write wsX2_write ({ frames := 1, cells := 0, slots := 0, locals := 30 }) (va_Pc [.ref hs, .int (nI k), .int y, .int n] (fun U => U.heap.size = sz ∧ va_P (dC, dI) vwCl [sO hs q1 q2 q7 q5 q6 bY bN fd, (q1, .inl (k1, 420, .inl f1)), (q2, .inl (k2, 420, .inl f2)), (q7, .inl (k7, 420, .inr (.inl f7)))] U.heap ∧ va_K (dC, dI) vwCl [(k1, .int), (k2, .int), (k7, .long)] U ∧ va_D (fun _ => True) [sO hs q1 q2 q7 q5 q6 bY bN fd, (q1, .inl (k1, 420, .inl f1)), (q2, .inl (k2, 420, .inl f2)), (q7, .inl (k7, 420, .inr (.inl f7)))] ∧ yStat (va_A [sO hs q1 q2 q7 q5 q6 bY bN fd, (q1, .inl (k1, 420, .inl f1)), (q2, .inl (k2, 420, .inl f2)), (q7, .inl (k7, 420, .inr (.inl f7)))] sz) U U.heap)) (va_Qv (fun (u : (Nat → Int32) × (Nat → Int32) × (Nat → Int64)) => u.1 = upd f1 k (y &&& 262080) ∧ u.2.1 = upd f2 k (n &&& 262080) ∧ ∃ w, yLw 6 y n w ∧ u.2.2 = vp_updL f7 k w) (fun (u : (Nat → Int32) × (Nat → Int32) × (Nat → Int64)) (t : State) => va_P (dC, dI) vwCl [sO hs q1 q2 q7 q5 q6 bY bN fd, (q1, .inl (k1, 420, .inl u.1)), (q2, .inl (k2, 420, .inl u.2.1)), (q7, .inl (k7, 420, .inr (.inl u.2.2)))] t.heap ∧ va_K (dC, dI) vwCl [(k1, .int), (k2, .int), (k7, .long)] t ∧ va_D (va_A [sO hs q1 q2 q7 q5 q6 bY bN fd, (q1, .inl (k1, 420, .inl f1)), (q2, .inl (k2, 420, .inl f2)), (q7, .inl (k7, 420, .inr (.inl f7)))] sz) [sO hs q1 q2 q7 q5 q6 bY bN fd, (q1, .inl (k1, 420, .inl u.1)), (q2, .inl (k2, 420, .inl u.2.1)), (q7, .inl (k7, 420, .inr (.inl u.2.2)))]) (va_A [sO hs q1 q2 q7 q5 q6 bY bN fd, (q1, .inl (k1, 420, .inl f1)), (q2, .inl (k2, 420, .inl f2)), (q7, .inl (k7, 420, .inr (.inl f7)))] sz)) 0 0 (va_A [sO hs q1 q2 q7 q5 q6 bY bN fd, (q1, .inl (k1, 420, .inl f1)), (q2, .inl (k2, 420, .inl f2)), (q7, .inl (k7, 420, .inr (.inl f7)))] sz) := by
  refine Met.ofW (cc := cX2_write) (maxL := 4) (ret := none) (by decide) rfl ?_
  intro p e s m args below meth c s₁ B hml hv
  obtain ⟨rfl, hsz, hP, hK, hD0, hST⟩ := hv
  have hx := B.exec
  have hb := B.bytes
  have hr := B.returns
  have hts := atoms_spec (ws := wsX2_write) B.pre
  have htA : ∀ w ∈ wsA, w.before _ s = true := fun w h => hts w (List.mem_cons_of_mem _ h)
  have hown : s.vm.findClass RX2 = some m.cls := findClass_of_methodNamed B.named
  have hlocks := B.notSynchronized
  subst hsz
  have hD := hD0.self (sz := s.heap.size)
  generalize hAe : va_A [sO hs q1 q2 q7 q5 q6 bY bN fd, (q1, .inl (k1, 420, .inl f1)), (q2, .inl (k2, 420, .inl f2)), (q7, .inl (k7, 420, .inr (.inl f7)))] s.heap.size = A at hD hST ⊢
  have hA : ∀ q : Nat, s.heap.size ≤ q → A q := fun q h => by rw [← hAe]; exact Or.inr h
  have hS : va_S A s.heap s.heap [] := va_S.rf
  have hP : va_P (dC, dI) vwCl [sO hs q1 q2 q7 q5 q6 bY bN fd, (q1, .inl (k1, 420, .inl f1)), (q2, .inl (k2, 420, .inl f2)), (q7, .inl (k7, 420, .inr (.inl f7)))] s.heap := hP
  have hl := lv_entry ([.ref hs, .int (nI k), .int y, .int n]) (n := 4) (Nat.le_of_ble_eq_true rfl)
  rw [lg_entry_eq]
  generalize (lg_sl ([.ref hs, .int (nI k), .int y, .int n]) ++ List.replicate (4 - (lg_sl ([.ref hs, .int (nI k), .int y, .int n])).length) Slot.unset).toArray = ls at hl ⊢
  have hl : lv_has ls 4 [(0, .ref hs), (1, .int (nI k)), (2, .int y), (3, .int n)] := hl
  refine lv_aload_n hx hb dX2_write_0 rfl (lv_at hl 0 rfl) ?_
  refine lv_iload_n hx hb dX2_write_1 rfl (lv_at hl 1 rfl) ?_
  refine lv_iload_n hx hb dX2_write_2 rfl (lv_at hl 2 rfl) ?_
  refine lv_ldc (own := RX2) (v := 262080) hx hb hown (htA _ lkX2_28) dX2_write_3 ?_
  refine lv_iand hx hb dX2_write_5 ?_
  refine lv_iload_n hx hb dX2_write_6 rfl (lv_at hl 3 rfl) ?_
  refine lv_ldc (own := RX2) (v := 262080) hx hb hown (htA _ lkX2_28) dX2_write_7 ?_
  refine lv_iand hx hb dX2_write_9 ?_
  refine lv_iload_n hx hb dX2_write_10 rfl (lv_at hl 2 rfl) ?_
  refine lv_iload_n hx hb dX2_write_11 rfl (lv_at hl 3 rfl) ?_
  have hPc := hP.sub (ws' := []) [] rfl
  have hDc := hD.sub (ws' := []) [] (by decide) rfl
  have hKc := hK.sub (tys' := []) [] rfl
  have hFc := va_free (wc := []) hD hS hA [] rfl
  refine va_calll (va_runS (As := [.int y, .int n]) (rest := [.int (n &&& 262080), .int (y &&& 262080), .int (nI k), .ref hs]) ⟨hx, hb, hml, hown, htA⟩ (c_whereTrue l dC dI y n s.heap.size) (va_cwS 2 htA gX2_29 rfl rfl rfl (by decide +kernel) ⟨Nat.le_of_ble_eq_true rfl, Nat.le_of_ble_eq_true rfl⟩) ⟨fun a U g mk q => by obtain ⟨q0, q1, qP, qK, qD, qS⟩ := q; exact ⟨q0, q1, qP, va_K.moved (u := U) (U := U.calling g mk a) (Vm.Alike.refl U.vm) qK, qD, yStat.moved (u := U) (U := U.calling g mk a) (Vm.Alike.refl U.vm) qS⟩, fun U hU hW => ⟨rfl, by rw [hU], by rw [hU]; exact hPc, va_K.moved hW.alike hKc, hDc.weaken (fun _ _ _ _ => trivial), by rw [hU]; exact ((yStat.moved hW.alike hST).kept hS.2.1).narrow (fun q9 h9 => hFc q9 h9)⟩⟩ rfl rfl hl.1 rfl (lv_room (Nat.le_of_ble_eq_true rfl)) dX2_write_12 ⟨Nat.zero_le _, Nat.zero_le _⟩) hS (fun q _ h => hFc q h) hFc (fun rw9 u t H1 locs ht hvm hw hB hz1 hk1 hS => ?_)
  obtain ⟨hP1, hK1, hD1⟩ := hB
  rw [ht] at hP1
  try dsimp only at hw hP1 hD1
  obtain ⟨hP, hD⟩ := va_join (wr := [sO hs q1 q2 q7 q5 q6 bY bN fd, (q1, .inl (k1, 420, .inl f1)), (q2, .inl (k2, 420, .inl f2)), (q7, .inl (k7, 420, .inr (.inl f7)))]) (w1 := []) hP hD [] [0, 1, 2, 3] rfl rfl (by decide) (by decide) hk1 hFc hP1 hD1
  generalize H1 = H at hP hS ⊢
  have hP : va_P (dC, dI) vwCl [sO hs q1 q2 q7 q5 q6 bY bN fd, (q1, .inl (k1, 420, .inl f1)), (q2, .inl (k2, 420, .inl f2)), (q7, .inl (k7, 420, .inr (.inl f7)))] H := hP.sub [0, 1, 2, 3] rfl
  have hD : va_D A [sO hs q1 q2 q7 q5 q6 bY bN fd, (q1, .inl (k1, 420, .inl f1)), (q2, .inl (k2, 420, .inl f2)), (q7, .inl (k7, 420, .inr (.inl f7)))] := hD.sub [0, 1, 2, 3] (by decide) rfl
  have hw0 := hw
  have hPc := hP.sub (ws' := [sO hs q1 q2 q7 q5 q6 bY bN fd, (q1, .inl (k1, 420, .inl f1)), (q2, .inl (k2, 420, .inl f2)), (q7, .inl (k7, 420, .inr (.inl f7)))]) [0, 1, 2, 3] rfl
  have hDc := hD.sub (ws' := [sO hs q1 q2 q7 q5 q6 bY bN fd, (q1, .inl (k1, 420, .inl f1)), (q2, .inl (k2, 420, .inl f2)), (q7, .inl (k7, 420, .inr (.inl f7)))]) [0, 1, 2, 3] (by decide) rfl
  have hKc := hK.sub (tys' := [(k1, .int), (k2, .int), (k7, .long)]) [0, 1, 2] rfl
  have hFc := va_free (wc := [sO hs q1 q2 q7 q5 q6 bY bN fd, (q1, .inl (k1, 420, .inl f1)), (q2, .inl (k2, 420, .inl f2)), (q7, .inl (k7, 420, .inr (.inl f7)))]) hD hS hA [0, 1, 2, 3] rfl
  refine va_callv (va_runV (As := [.int (nI k), .int (y &&& 262080), .int (n &&& 262080), .long rw9]) (rest := []) ⟨hx, hb, hml, hown, htA⟩ (c_writeParts l dC dI hs q1 q2 q7 q5 q6 k1 k2 k7 f1 f2 f7 bY bN fd k (y &&& 262080) (n &&& 262080) rw9 H.size hk) (cwV 4 htA gX2_33 rfl rfl rfl (by decide +kernel) ⟨Nat.le_of_ble_eq_true rfl, Nat.le_of_ble_eq_true rfl⟩) ⟨fun a U g mk q => by obtain ⟨q0, q1, qP, qK, qD⟩ := q; exact ⟨q0, q1, qP, va_K.moved (u := U) (U := U.calling g mk a) (Vm.Alike.refl U.vm) qK, qD⟩, va_recv hKc hPc (ci := 2) (q0 := 0) rfl rfl, fun U hU hW => ⟨rfl, by rw [hU], by rw [hU]; exact hPc, va_K.moved hW.alike hKc, hDc.weaken (fun _ _ _ _ => trivial)⟩⟩ rfl rfl hl.1 rfl (lv_room (Nat.le_of_ble_eq_true rfl)) dX2_write_15 ⟨Nat.zero_le _, Nat.zero_le _⟩) hS (fun q _ h => hFc q h) hFc (fun u t H1 locs ht hvm hw hB hz1 hk1 hS => ?_)
  obtain ⟨d1, d2, d7⟩ := u
  obtain ⟨hP1, hK1, hD1⟩ := hB
  rw [ht] at hP1
  try dsimp only at hw hP1 hD1
  obtain ⟨hP, hD⟩ := va_join (wr := []) (w1 := [sO hs q1 q2 q7 q5 q6 bY bN fd, (q1, .inl (k1, 420, .inl d1)), (q2, .inl (k2, 420, .inl d2)), (q7, .inl (k7, 420, .inr (.inl d7)))]) hP hD [0, 1, 2, 3] [] rfl rfl (by decide) (by decide) hk1 hFc hP1 hD1
  generalize H1 = H at hP hS ⊢
  have hP : va_P (dC, dI) vwCl [sO hs q1 q2 q7 q5 q6 bY bN fd, (q1, .inl (k1, 420, .inl d1)), (q2, .inl (k2, 420, .inl d2)), (q7, .inl (k7, 420, .inr (.inl d7)))] H := hP.sub [0, 1, 2, 3] rfl
  have hD : va_D A [sO hs q1 q2 q7 q5 q6 bY bN fd, (q1, .inl (k1, 420, .inl d1)), (q2, .inl (k2, 420, .inl d2)), (q7, .inl (k7, 420, .inr (.inl d7)))] := hD.sub [0, 1, 2, 3] (by decide) rfl
  exact W.vret hx hb hr (fun t ht hW => ⟨⟨(d1, d2, d7), rfl, ⟨hw.1, hw.2.1, rw9, hw0, hw.2.2⟩, by rw [ht]; exact hP, va_K.moved hW.alike hK, hD⟩, hS.F ht⟩) hS.2.2 dX2_write_18
set_option maxHeartbeats 4000000 in
set_option maxRecDepth 100000 in
theorem c_giveReasons (l : Launch) (dC : Nat → ClassId) (dI : Nat → Nat → Nat) (hs : Nat) (q1 : Nat) (q2 : Nat) (q7 : Nat) (q5 : Nat) (q6 : Nat) (k5 : ClassId) (k6 : ClassId) (f5 : Nat → Int32) (f6 : Nat → Int32) (bY : Int32) (bN : Int32) (fd : Int64) (st : Nat) (sz : Nat)  : Met l yX2_giveReasonsOfStart wsX2_giveReasonsOfStart ({ frames := 0, cells := 0, slots := 0, locals := 0 }) (va_Pc [.ref hs, .int (nI st)] (fun U => U.heap.size = sz ∧ va_P (dC, dI) vwCl [sO hs q1 q2 q7 q5 q6 bY bN fd, (q5, .inl (k5, 18, .inl f5)), (q6, .inl (k6, 18, .inl f6))] U.heap ∧ va_K (dC, dI) vwCl [(k5, .int), (k6, .int)] U ∧ va_D (fun _ => True) [sO hs q1 q2 q7 q5 q6 bY bN fd, (q5, .inl (k5, 18, .inl f5)), (q6, .inl (k6, 18, .inl f6))])) (va_Qv (fun (u : (Nat → Int32) × (Nat → Int32)) => ∀ v, 6 ≤ v → v < 18 → u.1 v = (262143 &&& (nI st ^^^ (-1))) &&& ((-2 : Int32) <<< (nI v &&& 31)) ∧ u.2 v = (nI st ^^^ (-1)) &&& ((1 : Int32) <<< (nI v &&& 31))) (fun (u : (Nat → Int32) × (Nat → Int32)) (t : State) => va_P (dC, dI) vwCl [sO hs q1 q2 q7 q5 q6 bY bN fd, (q5, .inl (k5, 18, .inl u.1)), (q6, .inl (k6, 18, .inl u.2))] t.heap ∧ va_K (dC, dI) vwCl [(k5, .int), (k6, .int)] t ∧ va_D (va_A [sO hs q1 q2 q7 q5 q6 bY bN fd, (q5, .inl (k5, 18, .inl f5)), (q6, .inl (k6, 18, .inl f6))] sz) [sO hs q1 q2 q7 q5 q6 bY bN fd, (q5, .inl (k5, 18, .inl u.1)), (q6, .inl (k6, 18, .inl u.2))]) (va_A [sO hs q1 q2 q7 q5 q6 bY bN fd, (q5, .inl (k5, 18, .inl f5)), (q6, .inl (k6, 18, .inl f6))] sz)) 0 0 (va_A [sO hs q1 q2 q7 q5 q6 bY bN fd, (q5, .inl (k5, 18, .inl f5)), (q6, .inl (k6, 18, .inl f6))] sz) := by
  refine Met.ofW (cc := cX2_giveReasonsOfStart) (maxL := 3) (ret := none) (by decide) rfl ?_
  intro p e s m args below meth c s₁ B hml hv
  obtain ⟨rfl, hsz, hP, hK, hD0⟩ := hv
  have hx := B.exec
  have hb := B.bytes
  have hr := B.returns
  have hts := atoms_spec (ws := wsX2_giveReasonsOfStart) B.pre
  have htA : ∀ w ∈ wsA, w.before _ s = true := fun w h => hts w (List.mem_cons_of_mem _ h)
  have hown : s.vm.findClass RX2 = some m.cls := findClass_of_methodNamed B.named
  have hlocks := B.notSynchronized
  subst hsz
  have hD := hD0.self (sz := s.heap.size)
  generalize hAe : va_A [sO hs q1 q2 q7 q5 q6 bY bN fd, (q5, .inl (k5, 18, .inl f5)), (q6, .inl (k6, 18, .inl f6))] s.heap.size = A at hD ⊢
  have hA : ∀ q : Nat, s.heap.size ≤ q → A q := fun q h => by rw [← hAe]; exact Or.inr h
  have hS : va_S A s.heap s.heap [] := va_S.rf
  have hP : va_P (dC, dI) vwCl [sO hs q1 q2 q7 q5 q6 bY bN fd, (q5, .inl (k5, 18, .inl f5)), (q6, .inl (k6, 18, .inl f6))] s.heap := hP
  have hl := lv_entry ([.ref hs, .int (nI st)]) (n := 3) (Nat.le_of_ble_eq_true rfl)
  rw [lg_entry_eq]
  generalize (lg_sl ([.ref hs, .int (nI st)]) ++ List.replicate (3 - (lg_sl ([.ref hs, .int (nI st)])).length) Slot.unset).toArray = ls at hl ⊢
  have hl : lv_has ls 3 [(0, .ref hs), (1, .int (nI st))] := hl
  refine lv_bipush (v := 6) hx hb dX2_giveReasonsOfStart_0 (by decide) ?_
  refine lv_istore_n (lv' := [(2, .int 6), (0, .ref hs), (1, .int (nI st))]) hx hb dX2_giveReasonsOfStart_2 rfl hl (by decide) rfl (fun ls hl => ?_)
  have loop : ∀ (fu i : Nat) (g5 g6 : Nat → Int32), i ≤ 18 → 19 ≤ i + fu → (∀ v, 6 ≤ v → v < i → g5 v = (262143 &&& (nI st ^^^ (-1))) &&& ((-2 : Int32) <<< (nI v &&& 31)) ∧ g6 v = (nI st ^^^ (-1)) &&& ((1 : Int32) <<< (nI v &&& 31))) → ∀ (H : Heap) (locs : List Loc), va_P (dC, dI) vwCl [sO hs q1 q2 q7 q5 q6 bY bN fd, (q5, .inl (k5, 18, .inl g5)), (q6, .inl (k6, 18, .inl g6))] H → va_D A [sO hs q1 q2 q7 q5 q6 bY bN fd, (q5, .inl (k5, 18, .inl g5)), (q6, .inl (k6, 18, .inl g6))] → va_S A s.heap H locs → ∀ (ls : Array Slot), lv_has ls 3 [(2, .int (nI i)), (0, .ref hs), (1, .int (nI st))] → W p l e (headSpec wsX2_giveReasonsOfStart ({ frames := 0, cells := 0, slots := 0, locals := 0 })).room s m ([.ref hs, .int (nI st)] : List Value).toArray below meth c H locs 0 0 (MQ below (va_Qv (fun (u : (Nat → Int32) × (Nat → Int32)) => ∀ v, 6 ≤ v → v < 18 → u.1 v = (262143 &&& (nI st ^^^ (-1))) &&& ((-2 : Int32) <<< (nI v &&& 31)) ∧ u.2 v = (nI st ^^^ (-1)) &&& ((1 : Int32) <<< (nI v &&& 31))) (fun (u : (Nat → Int32) × (Nat → Int32)) (t : State) => va_P (dC, dI) vwCl [sO hs q1 q2 q7 q5 q6 bY bN fd, (q5, .inl (k5, 18, .inl u.1)), (q6, .inl (k6, 18, .inl u.2))] t.heap ∧ va_K (dC, dI) vwCl [(k5, .int), (k6, .int)] t ∧ va_D A [sO hs q1 q2 q7 q5 q6 bY bN fd, (q5, .inl (k5, 18, .inl u.1)), (q6, .inl (k6, 18, .inl u.2))]) A) ([.ref hs, .int (nI st)] : List Value).toArray s 0 0 A) (F0 m 3 ls []) := by
    intro fu
    induction fu with
    | zero =>
      intro i g5 g6 h1 h2
      exact absurd h2 (by omega)
    | succ fu ih =>
      intro i g5 g6 hi hin hI H locs hP hD hS ls hl
      refine lv_iload_n hx hb dX2_giveReasonsOfStart_3 rfl (lv_at hl 0 rfl) ?_
      refine lv_bipush (v := 18) hx hb dX2_giveReasonsOfStart_4 (by decide) ?_
      refine lv_icmp_ge (tgt := 45) hx hb dX2_giveReasonsOfStart_6 (by decide) (fun cb_30 => ?_) (fun cb_30 => ?_)
      · have hie : i = 18 := by
          rcases Nat.lt_or_ge i 18 with q | q
          · exact absurd cb_30 (nI_ge (b := 18) q (by omega))
          · omega
        subst hie
        exact W.vret hx hb hr (fun t ht hW => ⟨⟨(g5, g6), rfl, hI, by rw [ht]; exact hP, va_K.moved hW.alike hK, hD⟩, hS.F ht⟩) hS.2.2 dX2_giveReasonsOfStart_45
      · have hlt : i < 18 := by
          rcases Nat.lt_or_ge i 18 with q | q
          · exact q
          · exact absurd (nI_le (a := 18) q (by omega)) cb_30
        refine lv_aload_n hx hb dX2_giveReasonsOfStart_9 rfl (lv_at hl 1 rfl) ?_
        refine va_get (D := (dC, dI)) (ci := 2) (v := .ref q5) (C := RX2) (T := TX2) (N := 8) hx hb htA inX2 hown hK hP 0 rfl rfl 3 (by decide) (htA _ lkX2_22) (fun _ h9 => h9) rfl dX2_giveReasonsOfStart_10 ?_
        refine lv_iload_n hx hb dX2_giveReasonsOfStart_13 rfl (lv_at hl 0 rfl) ?_
        refine lv_ldc (own := RX2) (v := 262143) hx hb hown (htA _ lkX2_37) dX2_giveReasonsOfStart_14 ?_
        refine lv_iload_n hx hb dX2_giveReasonsOfStart_16 rfl (lv_at hl 2 rfl) ?_
        refine lv_iconst (v := (-1)) hx hb dX2_giveReasonsOfStart_17 (by decide) ?_
        refine lv_ixor hx hb dX2_giveReasonsOfStart_18 ?_
        refine lv_iand hx hb dX2_giveReasonsOfStart_19 ?_
        refine lv_bipush (v := (-2)) hx hb dX2_giveReasonsOfStart_20 (by decide) ?_
        refine lv_iload_n hx hb dX2_giveReasonsOfStart_22 rfl (lv_at hl 0 rfl) ?_
        refine lv_ishl hx hb dX2_giveReasonsOfStart_23 ?_
        refine lv_iand hx hb dX2_giveReasonsOfStart_24 ?_
        refine yv_iast hx hb hK hP hD hS 1 0 rfl rfl (k := i) hlt (by decide) dX2_giveReasonsOfStart_25 (fun H locs hP hD hS => ?_)
        have hP : va_P (dC, dI) vwCl [sO hs q1 q2 q7 q5 q6 bY bN fd, (q5, .inl (k5, 18, .inl (upd g5 i ((262143 &&& ((nI st) ^^^ (-1))) &&& ((-2 : Int32) <<< ((nI i) &&& 31)))))), (q6, .inl (k6, 18, .inl g6))] H := hP
        have hD : va_D A [sO hs q1 q2 q7 q5 q6 bY bN fd, (q5, .inl (k5, 18, .inl (upd g5 i ((262143 &&& ((nI st) ^^^ (-1))) &&& ((-2 : Int32) <<< ((nI i) &&& 31)))))), (q6, .inl (k6, 18, .inl g6))] := hD
        refine lv_aload_n hx hb dX2_giveReasonsOfStart_26 rfl (lv_at hl 1 rfl) ?_
        refine va_get (D := (dC, dI)) (ci := 2) (v := .ref q6) (C := RX2) (T := TX2) (N := 8) hx hb htA inX2 hown hK hP 0 rfl rfl 4 (by decide) (htA _ lkX2_25) (fun _ h9 => h9) rfl dX2_giveReasonsOfStart_27 ?_
        refine lv_iload_n hx hb dX2_giveReasonsOfStart_30 rfl (lv_at hl 0 rfl) ?_
        refine lv_iload_n hx hb dX2_giveReasonsOfStart_31 rfl (lv_at hl 2 rfl) ?_
        refine lv_iconst (v := (-1)) hx hb dX2_giveReasonsOfStart_32 (by decide) ?_
        refine lv_ixor hx hb dX2_giveReasonsOfStart_33 ?_
        refine lv_iconst (v := 1) hx hb dX2_giveReasonsOfStart_34 (by decide) ?_
        refine lv_iload_n hx hb dX2_giveReasonsOfStart_35 rfl (lv_at hl 0 rfl) ?_
        refine lv_ishl hx hb dX2_giveReasonsOfStart_36 ?_
        refine lv_iand hx hb dX2_giveReasonsOfStart_37 ?_
        refine yv_iast hx hb hK hP hD hS 2 1 rfl rfl (k := i) hlt (by decide) dX2_giveReasonsOfStart_38 (fun H locs hP hD hS => ?_)
        have hP : va_P (dC, dI) vwCl [sO hs q1 q2 q7 q5 q6 bY bN fd, (q5, .inl (k5, 18, .inl (upd g5 i ((262143 &&& ((nI st) ^^^ (-1))) &&& ((-2 : Int32) <<< ((nI i) &&& 31)))))), (q6, .inl (k6, 18, .inl (upd g6 i (((nI st) ^^^ (-1)) &&& ((1 : Int32) <<< ((nI i) &&& 31))))))] H := hP
        have hD : va_D A [sO hs q1 q2 q7 q5 q6 bY bN fd, (q5, .inl (k5, 18, .inl (upd g5 i ((262143 &&& ((nI st) ^^^ (-1))) &&& ((-2 : Int32) <<< ((nI i) &&& 31)))))), (q6, .inl (k6, 18, .inl (upd g6 i (((nI st) ^^^ (-1)) &&& ((1 : Int32) <<< ((nI i) &&& 31))))))] := hD
        refine lv_iinc (v := nI (i + 1)) (lv' := [(2, .int (nI (i + 1))), (0, .ref hs), (1, .int (nI st))]) hx hb dX2_giveReasonsOfStart_39 hl (k := 0) rfl (nI_1 _) (by decide) rfl (fun ls hl => ?_)
        refine lv_goto (tgt := 3) hx hb dX2_giveReasonsOfStart_42 (by decide) ?_
        refine ih (i + 1) _ _ hlt (by omega) ?_ _ _ hP hD hS ls (lv_sub hl [0, 1, 2] rfl)
        intro v hv6 hv
        by_cases e : v = i
        · subst e
          exact ⟨pk_us, pk_us⟩
        · rw [pk_un e, pk_un e]
          exact hI v hv6 (by omega)
  exact loop 19 6 f5 f6 (by omega) (by omega) (fun v hv6 hv => absurd hv (by omega)) _ _ hP hD hS ls hl
set_option maxHeartbeats 4000000 in
set_option maxRecDepth 100000 in
theorem c_goodByLow (l : Launch) (dC : Nat → ClassId) (dI : Nat → Nat → Nat) (hs : Nat) (q1 : Nat) (q2 : Nat) (q7 : Nat) (q5 : Nat) (q6 : Nat) (k1 : ClassId) (k2 : ClassId) (k7 : ClassId) (f1 : Nat → Int32) (f2 : Nat → Int32) (f7 : Nat → Int64) (bY : Int32) (bN : Int32) (fd : Int64) (rs : Nat) (sz : Nat) (hrs : rs ≤ 420) : Met l yX2_goodByLowAlone wsX2_goodByLowAlone ({ frames := 0, cells := 0, slots := 0, locals := 0 }) (va_Pc [.ref hs, .int (nI rs)] (fun U => U.heap.size = sz ∧ va_P (dC, dI) vwCl [sO hs q1 q2 q7 q5 q6 bY bN fd, (q1, .inl (k1, 420, .inl f1)), (q2, .inl (k2, 420, .inl f2)), (q7, .inl (k7, 420, .inr (.inl f7)))] U.heap ∧ va_K (dC, dI) vwCl [(k1, .int), (k2, .int), (k7, .long)] U ∧ va_D (fun _ => True) [sO hs q1 q2 q7 q5 q6 bY bN fd, (q1, .inl (k1, 420, .inl f1)), (q2, .inl (k2, 420, .inl f2)), (q7, .inl (k7, 420, .inr (.inl f7)))])) (va_Ql (fun (r : Int64) (u : Unit) => ∀ a, (∀ j, j < rs → scl (f1 j) (f2 j) (f7 j) a) → zb r (a % 64) = true) (fun (u : Unit) (t : State) => va_P (dC, dI) vwCl [sO hs q1 q2 q7 q5 q6 bY bN fd, (q1, .inl (k1, 420, .inl f1)), (q2, .inl (k2, 420, .inl f2)), (q7, .inl (k7, 420, .inr (.inl f7)))] t.heap ∧ va_K (dC, dI) vwCl [(k1, .int), (k2, .int), (k7, .long)] t ∧ va_D (va_A [sO hs q1 q2 q7 q5 q6 bY bN fd, (q1, .inl (k1, 420, .inl f1)), (q2, .inl (k2, 420, .inl f2)), (q7, .inl (k7, 420, .inr (.inl f7)))] sz) [sO hs q1 q2 q7 q5 q6 bY bN fd, (q1, .inl (k1, 420, .inl f1)), (q2, .inl (k2, 420, .inl f2)), (q7, .inl (k7, 420, .inr (.inl f7)))]) (va_A [sO hs q1 q2 q7 q5 q6 bY bN fd, (q1, .inl (k1, 420, .inl f1)), (q2, .inl (k2, 420, .inl f2)), (q7, .inl (k7, 420, .inr (.inl f7)))] sz)) 0 0 (va_A [sO hs q1 q2 q7 q5 q6 bY bN fd, (q1, .inl (k1, 420, .inl f1)), (q2, .inl (k2, 420, .inl f2)), (q7, .inl (k7, 420, .inr (.inl f7)))] sz) := by
  refine Met.ofW (cc := cX2_goodByLowAlone) (maxL := 5) (ret := (some .long)) (by decide) rfl ?_
  intro p e s m args below meth c s₁ B hml hv
  obtain ⟨rfl, hsz, hP, hK, hD0⟩ := hv
  have hx := B.exec
  have hb := B.bytes
  have hr := B.returns
  have hts := atoms_spec (ws := wsX2_goodByLowAlone) B.pre
  have htA : ∀ w ∈ wsA, w.before _ s = true := fun w h => hts w (List.mem_cons_of_mem _ h)
  have hown : s.vm.findClass RX2 = some m.cls := findClass_of_methodNamed B.named
  have hlocks := B.notSynchronized
  subst hsz
  have hD := hD0.self (sz := s.heap.size)
  generalize hAe : va_A [sO hs q1 q2 q7 q5 q6 bY bN fd, (q1, .inl (k1, 420, .inl f1)), (q2, .inl (k2, 420, .inl f2)), (q7, .inl (k7, 420, .inr (.inl f7)))] s.heap.size = A at hD ⊢
  have hA : ∀ q : Nat, s.heap.size ≤ q → A q := fun q h => by rw [← hAe]; exact Or.inr h
  have hS : va_S A s.heap s.heap [] := va_S.rf
  have hP : va_P (dC, dI) vwCl [sO hs q1 q2 q7 q5 q6 bY bN fd, (q1, .inl (k1, 420, .inl f1)), (q2, .inl (k2, 420, .inl f2)), (q7, .inl (k7, 420, .inr (.inl f7)))] s.heap := hP
  have hl := lv_entry ([.ref hs, .int (nI rs)]) (n := 5) (Nat.le_of_ble_eq_true rfl)
  rw [lg_entry_eq]
  generalize (lg_sl ([.ref hs, .int (nI rs)]) ++ List.replicate (5 - (lg_sl ([.ref hs, .int (nI rs)])).length) Slot.unset).toArray = ls at hl ⊢
  have hl : lv_has ls 5 [(0, .ref hs), (1, .int (nI rs))] := hl
  refine lv_ldc2 (own := RX2) (v := (-1)) hx hb hown (htA _ lkX2_42) dX2_goodByLowAlone_0 ?_
  refine lv_lstore_n (lv' := [(2, .long (-1)), (0, .ref hs), (1, .int (nI rs))]) hx hb dX2_goodByLowAlone_3 rfl hl (by decide) rfl (fun ls hl => ?_)
  refine lv_iconst (v := 0) hx hb dX2_goodByLowAlone_4 (by decide) ?_
  refine lv_istore (lv' := [(4, .int 0), (2, .long (-1)), (0, .ref hs), (1, .int (nI rs))]) hx hb dX2_goodByLowAlone_5 hl (by decide) rfl (fun ls hl => ?_)
  have loop : ∀ (fu i : Nat) (x2 : Int64), i ≤ rs → rs + 1 ≤ i + fu → (∀ a, (∀ j, j < rs → scl (f1 j) (f2 j) (f7 j) a) → zb x2 (a % 64) = true) → ∀ (ls : Array Slot), lv_has ls 5 [(4, .int (nI i)), (2, .long x2), (0, .ref hs), (1, .int (nI rs))] → W p l e (headSpec wsX2_goodByLowAlone ({ frames := 0, cells := 0, slots := 0, locals := 0 })).room s m ([.ref hs, .int (nI rs)] : List Value).toArray below meth c s.heap [] 0 0 (MQ below (va_Ql (fun (r : Int64) (u : Unit) => ∀ a, (∀ j, j < rs → scl (f1 j) (f2 j) (f7 j) a) → zb r (a % 64) = true) (fun (u : Unit) (t : State) => va_P (dC, dI) vwCl [sO hs q1 q2 q7 q5 q6 bY bN fd, (q1, .inl (k1, 420, .inl f1)), (q2, .inl (k2, 420, .inl f2)), (q7, .inl (k7, 420, .inr (.inl f7)))] t.heap ∧ va_K (dC, dI) vwCl [(k1, .int), (k2, .int), (k7, .long)] t ∧ va_D A [sO hs q1 q2 q7 q5 q6 bY bN fd, (q1, .inl (k1, 420, .inl f1)), (q2, .inl (k2, 420, .inl f2)), (q7, .inl (k7, 420, .inr (.inl f7)))]) A) ([.ref hs, .int (nI rs)] : List Value).toArray s 0 0 A) (F0 m 7 ls []) := by
    intro fu
    induction fu with
    | zero =>
      intro i x2 h1 h2
      exact absurd h2 (by omega)
    | succ fu ih =>
      intro i x2 hi hin hI ls hl
      refine lv_iload hx hb dX2_goodByLowAlone_7 (lv_at hl 0 rfl) ?_
      refine lv_iload_n hx hb dX2_goodByLowAlone_9 rfl (lv_at hl 3 rfl) ?_
      refine lv_icmp_ge (tgt := 55) hx hb dX2_goodByLowAlone_10 (by decide) (fun cb_31 => ?_) (fun cb_31 => ?_)
      · refine lv_lload_n hx hb dX2_goodByLowAlone_55 rfl (lv_at hl 1 rfl) ?_
        exact W.lret (v := x2) hx hb hr (fun t ht hW => ⟨⟨x2, (), rfl, hI, by rw [ht]; exact hP, va_K.moved hW.alike hK, hD⟩, hS.F ht⟩) hS.2.2 dX2_goodByLowAlone_56
      · have hir : i < rs := by
          rcases Nat.lt_or_ge i rs with q | q
          · exact q
          · exact absurd (nI_le q (by omega)) cb_31
        have hlt : i < 420 := by omega
        refine lv_iload hx hb dX2_goodByLowAlone_13 (lv_at hl 0 rfl) ?_
        refine lv_sipush (v := 420) hx hb dX2_goodByLowAlone_15 (by decide) ?_
        refine lv_icmp_ge (tgt := 55) hx hb dX2_goodByLowAlone_18 (by decide) (fun cb_32 => ?_) (fun cb_32 => ?_)
        · exact absurd cb_32 (nI_ge (b := 420) hlt (by omega))
        · refine lv_aload_n hx hb dX2_goodByLowAlone_21 rfl (lv_at hl 2 rfl) ?_
          refine va_get (D := (dC, dI)) (ci := 2) (v := .ref q1) (C := RX2) (T := TX2) (N := 8) hx hb htA inX2 hown hK hP 0 rfl rfl 0 (by decide) (htA _ lkX2_11) (fun _ h9 => h9) rfl dX2_goodByLowAlone_22 ?_
          refine lv_iload hx hb dX2_goodByLowAlone_25 (lv_at hl 0 rfl) ?_
          refine yv_iald hx hb hK hP 1 0 rfl rfl (k := i) hlt (by decide) dX2_goodByLowAlone_27 ?_
          refine lv_aload_n hx hb dX2_goodByLowAlone_28 rfl (lv_at hl 2 rfl) ?_
          refine va_get (D := (dC, dI)) (ci := 2) (v := .ref q2) (C := RX2) (T := TX2) (N := 8) hx hb htA inX2 hown hK hP 0 rfl rfl 1 (by decide) (htA _ lkX2_15) (fun _ h9 => h9) rfl dX2_goodByLowAlone_29 ?_
          refine lv_iload hx hb dX2_goodByLowAlone_32 (lv_at hl 0 rfl) ?_
          refine yv_iald hx hb hK hP 2 1 rfl rfl (k := i) hlt (by decide) dX2_goodByLowAlone_34 ?_
          refine lv_ior hx hb dX2_goodByLowAlone_35 ?_
          refine lv_if_ne (tgt := 49) hx hb dX2_goodByLowAlone_36 (by decide) (fun cb_33 => ?_) (fun cb_33 => ?_)
          · refine lv_iinc (v := nI (i + 1)) (lv' := [(4, .int (nI (i + 1))), (2, .long x2), (0, .ref hs), (1, .int (nI rs))]) hx hb dX2_goodByLowAlone_49 hl (k := 0) rfl (nI_1 _) (by decide) rfl (fun ls hl => ?_)
            refine lv_goto (tgt := 7) hx hb dX2_goodByLowAlone_52 (by decide) ?_
            exact ih (i + 1) x2 hir (by omega) hI ls (lv_sub hl [0, 1, 2, 3] rfl)
          · refine lv_lload_n hx hb dX2_goodByLowAlone_39 rfl (lv_at hl 1 rfl) ?_
            refine lv_aload_n hx hb dX2_goodByLowAlone_40 rfl (lv_at hl 2 rfl) ?_
            refine va_get (D := (dC, dI)) (ci := 2) (v := .ref q7) (C := RX2) (T := TX2) (N := 8) hx hb htA inX2 hown hK hP 0 rfl rfl 2 (by decide) (htA _ lkX2_18) (fun _ h9 => h9) rfl dX2_goodByLowAlone_41 ?_
            refine lv_iload hx hb dX2_goodByLowAlone_44 (lv_at hl 0 rfl) ?_
            refine yv_lald hx hb hK hP 3 2 rfl rfl (k := i) hlt (by decide) dX2_goodByLowAlone_46 ?_
            refine lv_land hx hb dX2_goodByLowAlone_47 ?_
            refine lv_lstore_n (lv' := [(2, .long (x2 &&& (f7 i))), (4, .int (nI i)), (0, .ref hs), (1, .int (nI rs))]) hx hb dX2_goodByLowAlone_48 rfl hl (by decide) rfl (fun ls hl => ?_)
            refine lv_iinc (v := nI (i + 1)) (lv' := [(4, .int (nI (i + 1))), (2, .long (x2 &&& (f7 i))), (0, .ref hs), (1, .int (nI rs))]) hx hb dX2_goodByLowAlone_49 hl (k := 1) rfl (nI_1 _) (by decide) rfl (fun ls hl => ?_)
            refine lv_goto (tgt := 7) hx hb dX2_goodByLowAlone_52 (by decide) ?_
            refine ih (i + 1) _ hir (by omega) (fun a ha => ?_) ls (lv_sub hl [0, 1, 2, 3] rfl)
            have h9 := ha i hir
            rw [(y_or0 cb_33).1, (y_or0 cb_33).2] at h9
            rw [zb_and, hI a ha, h9.resolve_left ycl_0]
            rfl
  exact loop (rs + 1) 0 (-1) (by omega) (by omega) (fun a _ => zb_m1 _ (by omega)) ls hl
set_option maxHeartbeats 4000000 in
set_option maxRecDepth 100000 in
theorem c_goodInBlock (l : Launch) (dC : Nat → ClassId) (dI : Nat → Nat → Nat) (hs : Nat) (q1 : Nat) (q2 : Nat) (q7 : Nat) (q5 : Nat) (q6 : Nat) (k1 : ClassId) (k2 : ClassId) (k7 : ClassId) (f1 : Nat → Int32) (f2 : Nat → Int32) (f7 : Nat → Int64) (bY : Int32) (bN : Int32) (fd : Int64) (b : Nat) (g0 : Int64) (rs : Nat) (sz : Nat) (hrs : rs ≤ 420) (hb0 : b % 64 = 0) (hm : ∀ j, j < rs → yh (f1 j) ∧ yh (f2 j)) (hg0 : ∀ a, (∀ j, j < rs → scl (f1 j) (f2 j) (f7 j) a) → zb g0 (a % 64) = true) : Met l yX2_goodInBlock wsX2_goodInBlock ({ frames := 0, cells := 0, slots := 0, locals := 0 }) (va_Pc [.ref hs, .int (nI b), .long g0, .int (nI rs)] (fun U => U.heap.size = sz ∧ va_P (dC, dI) vwCl [sO hs q1 q2 q7 q5 q6 bY bN fd, (q1, .inl (k1, 420, .inl f1)), (q2, .inl (k2, 420, .inl f2)), (q7, .inl (k7, 420, .inr (.inl f7)))] U.heap ∧ va_K (dC, dI) vwCl [(k1, .int), (k2, .int), (k7, .long)] U ∧ va_D (fun _ => True) [sO hs q1 q2 q7 q5 q6 bY bN fd, (q1, .inl (k1, 420, .inl f1)), (q2, .inl (k2, 420, .inl f2)), (q7, .inl (k7, 420, .inr (.inl f7)))])) (va_Ql (fun (r : Int64) (u : Int32 × Int32) => (r = 0 → yLI (fun a => ∀ j, j < rs → scl (f1 j) (f2 j) (f7 j) a) b 6 u.1 u.2) ∧ (¬ r = 0 → ∀ k, k < 64 → (zb r k = true ↔ ∀ j, j < rs → scl (f1 j) (f2 j) (f7 j) (b + k)))) (fun (u : Int32 × Int32) (t : State) => va_P (dC, dI) vwCl [sO hs q1 q2 q7 q5 q6 u.1 u.2 fd, (q1, .inl (k1, 420, .inl f1)), (q2, .inl (k2, 420, .inl f2)), (q7, .inl (k7, 420, .inr (.inl f7)))] t.heap ∧ va_K (dC, dI) vwCl [(k1, .int), (k2, .int), (k7, .long)] t ∧ va_D (va_A [sO hs q1 q2 q7 q5 q6 bY bN fd, (q1, .inl (k1, 420, .inl f1)), (q2, .inl (k2, 420, .inl f2)), (q7, .inl (k7, 420, .inr (.inl f7)))] sz) [sO hs q1 q2 q7 q5 q6 u.1 u.2 fd, (q1, .inl (k1, 420, .inl f1)), (q2, .inl (k2, 420, .inl f2)), (q7, .inl (k7, 420, .inr (.inl f7)))]) (va_A [sO hs q1 q2 q7 q5 q6 bY bN fd, (q1, .inl (k1, 420, .inl f1)), (q2, .inl (k2, 420, .inl f2)), (q7, .inl (k7, 420, .inr (.inl f7)))] sz)) 0 0 (va_A [sO hs q1 q2 q7 q5 q6 bY bN fd, (q1, .inl (k1, 420, .inl f1)), (q2, .inl (k2, 420, .inl f2)), (q7, .inl (k7, 420, .inr (.inl f7)))] sz) := by
  refine Met.ofW (cc := cX2_goodInBlock) (maxL := 9) (ret := (some .long)) (by decide) rfl ?_
  intro p e s m args below meth c s₁ B hml hv
  obtain ⟨rfl, hsz, hP, hK, hD0⟩ := hv
  have hx := B.exec
  have hb := B.bytes
  have hr := B.returns
  have hts := atoms_spec (ws := wsX2_goodInBlock) B.pre
  have htA : ∀ w ∈ wsA, w.before _ s = true := fun w h => hts w (List.mem_cons_of_mem _ h)
  have hown : s.vm.findClass RX2 = some m.cls := findClass_of_methodNamed B.named
  have hlocks := B.notSynchronized
  subst hsz
  have hD := hD0.self (sz := s.heap.size)
  generalize hAe : va_A [sO hs q1 q2 q7 q5 q6 bY bN fd, (q1, .inl (k1, 420, .inl f1)), (q2, .inl (k2, 420, .inl f2)), (q7, .inl (k7, 420, .inr (.inl f7)))] s.heap.size = A at hD ⊢
  have hA : ∀ q : Nat, s.heap.size ≤ q → A q := fun q h => by rw [← hAe]; exact Or.inr h
  have hS : va_S A s.heap s.heap [] := va_S.rf
  have hP : va_P (dC, dI) vwCl [sO hs q1 q2 q7 q5 q6 bY bN fd, (q1, .inl (k1, 420, .inl f1)), (q2, .inl (k2, 420, .inl f2)), (q7, .inl (k7, 420, .inr (.inl f7)))] s.heap := hP
  have hl := lv_entry ([.ref hs, .int (nI b), .long g0, .int (nI rs)]) (n := 9) (Nat.le_of_ble_eq_true rfl)
  rw [lg_entry_eq]
  generalize (lg_sl ([.ref hs, .int (nI b), .long g0, .int (nI rs)]) ++ List.replicate (9 - (lg_sl ([.ref hs, .int (nI b), .long g0, .int (nI rs)])).length) Slot.unset).toArray = ls at hl ⊢
  have hl : lv_has ls 9 [(0, .ref hs), (1, .int (nI b)), (2, .long g0), (4, .int (nI rs))] := hl
  refine lv_lload_n hx hb dX2_goodInBlock_0 rfl (lv_at hl 2 rfl) ?_
  refine lv_lstore (lv' := [(5, .long g0), (0, .ref hs), (1, .int (nI b)), (2, .long g0), (4, .int (nI rs))]) hx hb dX2_goodInBlock_1 hl (by decide) rfl (fun ls hl => ?_)
  refine lv_aload_n hx hb dX2_goodInBlock_3 rfl (lv_at hl 1 rfl) ?_
  refine lv_iconst (v := 0) hx hb dX2_goodInBlock_4 (by decide) ?_
  refine va_put (D := (dC, dI)) (ci := 2) (v := .int 0) (ty := .int) (C := RX2) (T := TX2) (N := 8) hx hb htA inX2 tyX2 tyX2_ok nX2 hown hK hP hD hS 0 rfl rfl 5 (by decide) (htA _ lkX2_75) (fun _ h9 => h9) rfl (by decide +kernel) rfl rfl (Nat.le_of_ble_eq_true rfl) dX2_goodInBlock_5 (fun H locs hP hD hS => ?_)
  have hP : va_P (dC, dI) vwCl [sO hs q1 q2 q7 q5 q6 0 bN fd, (q1, .inl (k1, 420, .inl f1)), (q2, .inl (k2, 420, .inl f2)), (q7, .inl (k7, 420, .inr (.inl f7)))] H := hP
  have hD : va_D A [sO hs q1 q2 q7 q5 q6 0 bN fd, (q1, .inl (k1, 420, .inl f1)), (q2, .inl (k2, 420, .inl f2)), (q7, .inl (k7, 420, .inr (.inl f7)))] := hD
  refine lv_aload_n hx hb dX2_goodInBlock_8 rfl (lv_at hl 1 rfl) ?_
  refine lv_iconst (v := 0) hx hb dX2_goodInBlock_9 (by decide) ?_
  refine va_put (D := (dC, dI)) (ci := 2) (v := .int 0) (ty := .int) (C := RX2) (T := TX2) (N := 8) hx hb htA inX2 tyX2 tyX2_ok nX2 hown hK hP hD hS 0 rfl rfl 6 (by decide) (htA _ lkX2_79) (fun _ h9 => h9) rfl (by decide +kernel) rfl rfl (Nat.le_of_ble_eq_true rfl) dX2_goodInBlock_10 (fun H locs hP hD hS => ?_)
  have hP : va_P (dC, dI) vwCl [sO hs q1 q2 q7 q5 q6 0 0 fd, (q1, .inl (k1, 420, .inl f1)), (q2, .inl (k2, 420, .inl f2)), (q7, .inl (k7, 420, .inr (.inl f7)))] H := hP
  have hD : va_D A [sO hs q1 q2 q7 q5 q6 0 0 fd, (q1, .inl (k1, 420, .inl f1)), (q2, .inl (k2, 420, .inl f2)), (q7, .inl (k7, 420, .inr (.inl f7)))] := hD
  refine lv_iconst (v := 0) hx hb dX2_goodInBlock_13 (by decide) ?_
  refine lv_istore (lv' := [(7, .int 0), (5, .long g0), (0, .ref hs), (1, .int (nI b)), (2, .long g0), (4, .int (nI rs))]) hx hb dX2_goodInBlock_14 hl (by decide) rfl (fun ls hl => ?_)
  have loop : ∀ (fu i : Nat) (x5 : Int64) (y9 n9 : Int32), i ≤ rs → rs + 1 ≤ i + fu → yBl (fun a => ∀ j, j < rs → scl (f1 j) (f2 j) (f7 j) a) b y9 n9 x5 → (∀ k, k < 64 → zb x5 k = true → ∀ j, j < i → scl (f1 j) (f2 j) (f7 j) (b + k)) → ∀ (H : Heap) (locs : List Loc), va_P (dC, dI) vwCl [sO hs q1 q2 q7 q5 q6 y9 n9 fd, (q1, .inl (k1, 420, .inl f1)), (q2, .inl (k2, 420, .inl f2)), (q7, .inl (k7, 420, .inr (.inl f7)))] H → va_D A [sO hs q1 q2 q7 q5 q6 y9 n9 fd, (q1, .inl (k1, 420, .inl f1)), (q2, .inl (k2, 420, .inl f2)), (q7, .inl (k7, 420, .inr (.inl f7)))] → va_S A s.heap H locs → ∀ (ls : Array Slot), lv_has ls 9 [(7, .int (nI i)), (5, .long x5), (0, .ref hs), (1, .int (nI b)), (4, .int (nI rs))] → W p l e (headSpec wsX2_goodInBlock ({ frames := 0, cells := 0, slots := 0, locals := 0 })).room s m ([.ref hs, .int (nI b), .long g0, .int (nI rs)] : List Value).toArray below meth c H locs 0 0 (MQ below (va_Ql (fun (r : Int64) (u : Int32 × Int32) => (r = 0 → yLI (fun a => ∀ j, j < rs → scl (f1 j) (f2 j) (f7 j) a) b 6 u.1 u.2) ∧ (¬ r = 0 → ∀ k, k < 64 → (zb r k = true ↔ ∀ j, j < rs → scl (f1 j) (f2 j) (f7 j) (b + k)))) (fun (u : Int32 × Int32) (t : State) => va_P (dC, dI) vwCl [sO hs q1 q2 q7 q5 q6 u.1 u.2 fd, (q1, .inl (k1, 420, .inl f1)), (q2, .inl (k2, 420, .inl f2)), (q7, .inl (k7, 420, .inr (.inl f7)))] t.heap ∧ va_K (dC, dI) vwCl [(k1, .int), (k2, .int), (k7, .long)] t ∧ va_D A [sO hs q1 q2 q7 q5 q6 u.1 u.2 fd, (q1, .inl (k1, 420, .inl f1)), (q2, .inl (k2, 420, .inl f2)), (q7, .inl (k7, 420, .inr (.inl f7)))]) A) ([.ref hs, .int (nI b), .long g0, .int (nI rs)] : List Value).toArray s 0 0 A) (F0 m 16 ls []) := by
    intro fu
    induction fu with
    | zero =>
      intro i x5 y9 n9 h1 h2
      exact absurd h2 (by omega)
    | succ fu ih =>
      intro i x5 y9 n9 hi hin hI hB H locs hP hD hS ls hl
      refine lv_iload hx hb dX2_goodInBlock_16 (lv_at hl 0 rfl) ?_
      refine lv_iload hx hb dX2_goodInBlock_18 (lv_at hl 4 rfl) ?_
      refine lv_icmp_ge (tgt := 165) hx hb dX2_goodInBlock_20 (by decide) (fun cb_34 => ?_) (fun cb_34 => ?_)
      · have hie : i = rs := by
          rcases Nat.lt_or_ge i rs with q | q
          · exact absurd cb_34 (nI_ge q (by omega))
          · omega
        subst hie
        refine lv_lload hx hb dX2_goodInBlock_165 (lv_at hl 1 rfl) ?_
        exact W.lret (v := x5) hx hb hr (fun t ht hW => ⟨⟨x5, (y9, n9), rfl, ⟨fun q => yBl_end hI q, fun _ k hk => ⟨fun z j hj => hB k hk z j hj, fun z => yBl_mem hI hb0 hk z⟩⟩, by rw [ht]; exact hP, va_K.moved hW.alike hK, hD⟩, hS.F ht⟩) hS.2.2 dX2_goodInBlock_167
      · have hir : i < rs := by
          rcases Nat.lt_or_ge i rs with q | q
          · exact q
          · exact absurd (nI_le q (by omega)) cb_34
        have hlt : i < 420 := by omega
        refine lv_iload hx hb dX2_goodInBlock_23 (lv_at hl 0 rfl) ?_
        refine lv_sipush (v := 420) hx hb dX2_goodInBlock_25 (by decide) ?_
        refine lv_icmp_ge (tgt := 165) hx hb dX2_goodInBlock_28 (by decide) (fun cb_35 => ?_) (fun cb_35 => ?_)
        · exact absurd cb_35 (nI_ge (b := 420) hlt (by omega))
        · refine lv_lload hx hb dX2_goodInBlock_31 (lv_at hl 1 rfl) ?_
          refine lv_lconst (v := 0) hx hb dX2_goodInBlock_33 (by decide) ?_
          refine W.lcmp hx hb dX2_goodInBlock_34 ?_
          refine lv_if_eq (tgt := 165) hx hb dX2_goodInBlock_35 (by decide) (fun cb_36 => ?_) (fun cb_36 => ?_)
          · refine lv_lload hx hb dX2_goodInBlock_165 (lv_at hl 1 rfl) ?_
            exact W.lret (v := x5) hx hb hr (fun t ht hW => ⟨⟨x5, (y9, n9), rfl, ⟨fun q => yBl_end hI q, fun q => absurd ((lg_cmp_eq _ _).mp cb_36) q⟩, by rw [ht]; exact hP, va_K.moved hW.alike hK, hD⟩, hS.F ht⟩) hS.2.2 dX2_goodInBlock_167
          · refine lv_aload_n hx hb dX2_goodInBlock_38 rfl (lv_at hl 2 rfl) ?_
            refine va_get (D := (dC, dI)) (ci := 2) (v := .ref q1) (C := RX2) (T := TX2) (N := 8) hx hb htA inX2 hown hK hP 0 rfl rfl 0 (by decide) (htA _ lkX2_11) (fun _ h9 => h9) rfl dX2_goodInBlock_39 ?_
            refine lv_iload hx hb dX2_goodInBlock_42 (lv_at hl 0 rfl) ?_
            refine yv_iald hx hb hK hP 1 0 rfl rfl (k := i) hlt (by decide) dX2_goodInBlock_44 ?_
            refine lv_iload_n hx hb dX2_goodInBlock_45 rfl (lv_at hl 3 rfl) ?_
            refine lv_iand hx hb dX2_goodInBlock_46 ?_
            refine lv_aload_n hx hb dX2_goodInBlock_47 rfl (lv_at hl 2 rfl) ?_
            refine va_get (D := (dC, dI)) (ci := 2) (v := .ref q2) (C := RX2) (T := TX2) (N := 8) hx hb htA inX2 hown hK hP 0 rfl rfl 1 (by decide) (htA _ lkX2_15) (fun _ h9 => h9) rfl dX2_goodInBlock_48 ?_
            refine lv_iload hx hb dX2_goodInBlock_51 (lv_at hl 0 rfl) ?_
            refine yv_iald hx hb hK hP 2 1 rfl rfl (k := i) hlt (by decide) dX2_goodInBlock_53 ?_
            refine lv_iload_n hx hb dX2_goodInBlock_54 rfl (lv_at hl 3 rfl) ?_
            refine lv_iconst (v := (-1)) hx hb dX2_goodInBlock_55 (by decide) ?_
            refine lv_ixor hx hb dX2_goodInBlock_56 ?_
            refine lv_iand hx hb dX2_goodInBlock_57 ?_
            refine lv_ior hx hb dX2_goodInBlock_58 ?_
            refine lv_if_ne (tgt := 66) hx hb dX2_goodInBlock_59 (by decide) (fun cb_37 => ?_) (fun cb_37 => ?_)
            · have hcl : ycl (f1 i) (f2 i) b := by
                by_cases q : ycl (f1 i) (f2 i) b
                · exact q
                · exact absurd ((ycl_test (yh_m (hm i hir).1) (yh_m (hm i hir).2)).mpr q) cb_37
              refine lv_iconst (v := 0) hx hb dX2_goodInBlock_66 (by decide) ?_
              refine lv_istore (lv' := [(8, .int 0), (7, .int (nI i)), (5, .long x5), (0, .ref hs), (1, .int (nI b)), (4, .int (nI rs))]) hx hb dX2_goodInBlock_67 hl (by decide) rfl (fun ls hl => ?_)
              refine lv_iload hx hb dX2_goodInBlock_69 (lv_at hl 0 rfl) ?_
              refine lv_if_eq (tgt := 159) hx hb dX2_goodInBlock_71 (by decide) (fun cb_38 => ?_) (fun cb_38 => ?_)
              · refine lv_iinc (v := nI (i + 1)) (lv' := [(7, .int (nI (i + 1))), (8, .int 0), (5, .long x5), (0, .ref hs), (1, .int (nI b)), (4, .int (nI rs))]) hx hb dX2_goodInBlock_159 hl (k := 1) rfl (nI_1 _) (by decide) rfl (fun ls hl => ?_)
                refine lv_goto (tgt := 16) hx hb dX2_goodInBlock_162 (by decide) ?_
                refine ih (i + 1) _ _ _ hir (by omega) (hI) (fun k hk z j hj => by
                    by_cases e : j = i
                    · rw [e]; exact Or.inl ((ycl_blk (hm i hir).1 (hm i hir).2 hb0 hk).mpr hcl)
                    · exact hB k hk z j (by omega)) _ _ hP hD hS ls (lv_sub hl [0, 2, 3, 4, 5] rfl)
              · exact absurd rfl cb_38
            · have hcl : ¬ ycl (f1 i) (f2 i) b := (ycl_test (yh_m (hm i hir).1) (yh_m (hm i hir).2)).mp cb_37
              refine lv_iconst (v := 1) hx hb dX2_goodInBlock_62 (by decide) ?_
              refine lv_goto (tgt := 67) hx hb dX2_goodInBlock_63 (by decide) ?_
              refine lv_istore (lv' := [(8, .int 1), (7, .int (nI i)), (5, .long x5), (0, .ref hs), (1, .int (nI b)), (4, .int (nI rs))]) hx hb dX2_goodInBlock_67 hl (by decide) rfl (fun ls hl => ?_)
              refine lv_iload hx hb dX2_goodInBlock_69 (lv_at hl 0 rfl) ?_
              refine lv_if_eq (tgt := 159) hx hb dX2_goodInBlock_71 (by decide) (fun cb_39 => ?_) (fun cb_39 => ?_)
              · exact absurd cb_39 (by decide)
              · refine lv_lload hx hb dX2_goodInBlock_74 (lv_at hl 2 rfl) ?_
                refine lv_aload_n hx hb dX2_goodInBlock_76 rfl (lv_at hl 3 rfl) ?_
                refine va_get (D := (dC, dI)) (ci := 2) (v := .ref q7) (C := RX2) (T := TX2) (N := 8) hx hb htA inX2 hown hK hP 0 rfl rfl 2 (by decide) (htA _ lkX2_18) (fun _ h9 => h9) rfl dX2_goodInBlock_77 ?_
                refine lv_iload hx hb dX2_goodInBlock_80 (lv_at hl 1 rfl) ?_
                refine yv_lald hx hb hK hP 3 2 rfl rfl (k := i) hlt (by decide) dX2_goodInBlock_82 ?_
                refine lv_ldc2 (own := RX2) (v := (-1)) hx hb hown (htA _ lkX2_42) dX2_goodInBlock_83 ?_
                refine lv_lxor hx hb dX2_goodInBlock_86 ?_
                refine lv_land hx hb dX2_goodInBlock_87 ?_
                refine lv_lconst (v := 0) hx hb dX2_goodInBlock_88 (by decide) ?_
                refine W.lcmp hx hb dX2_goodInBlock_89 ?_
                refine lv_if_eq (tgt := 159) hx hb dX2_goodInBlock_90 (by decide) (fun cb_40 => ?_) (fun cb_40 => ?_)
                · refine lv_iinc (v := nI (i + 1)) (lv' := [(7, .int (nI (i + 1))), (8, .int 1), (5, .long x5), (0, .ref hs), (1, .int (nI b)), (4, .int (nI rs))]) hx hb dX2_goodInBlock_159 hl (k := 1) rfl (nI_1 _) (by decide) rfl (fun ls hl => ?_)
                  refine lv_goto (tgt := 16) hx hb dX2_goodInBlock_162 (by decide) ?_
                  refine ih (i + 1) _ _ _ hir (by omega) (hI) (fun k hk z j hj => by
                      by_cases e : j = i
                      · rw [e]; exact Or.inr (by rw [show (b + k) % 64 = k by omega]; exact zb_sub0 ((lg_cmp_eq _ _).mp cb_40) hk z)
                      · exact hB k hk z j (by omega)) _ _ hP hD hS ls (lv_sub hl [0, 2, 3, 4, 5] rfl)
                · refine lv_aload_n hx hb dX2_goodInBlock_93 rfl (lv_at hl 3 rfl) ?_
                  refine va_get (D := (dC, dI)) (ci := 2) (v := .ref q7) (C := RX2) (T := TX2) (N := 8) hx hb htA inX2 hown hK hP 0 rfl rfl 2 (by decide) (htA _ lkX2_18) (fun _ h9 => h9) rfl dX2_goodInBlock_94 ?_
                  refine lv_iload hx hb dX2_goodInBlock_97 (lv_at hl 1 rfl) ?_
                  refine yv_lald hx hb hK hP 3 2 rfl rfl (k := i) hlt (by decide) dX2_goodInBlock_99 ?_
                  refine lv_lconst (v := 0) hx hb dX2_goodInBlock_100 (by decide) ?_
                  refine W.lcmp hx hb dX2_goodInBlock_101 ?_
                  refine lv_if_ne (tgt := 115) hx hb dX2_goodInBlock_102 (by decide) (fun cb_41 => ?_) (fun cb_41 => ?_)
                  · refine lv_lload hx hb dX2_goodInBlock_115 (lv_at hl 2 rfl) ?_
                    refine lv_aload_n hx hb dX2_goodInBlock_117 rfl (lv_at hl 3 rfl) ?_
                    refine va_get (D := (dC, dI)) (ci := 2) (v := .ref q7) (C := RX2) (T := TX2) (N := 8) hx hb htA inX2 hown hK hP 0 rfl rfl 2 (by decide) (htA _ lkX2_18) (fun _ h9 => h9) rfl dX2_goodInBlock_118 ?_
                    refine lv_iload hx hb dX2_goodInBlock_121 (lv_at hl 1 rfl) ?_
                    refine yv_lald hx hb hK hP 3 2 rfl rfl (k := i) hlt (by decide) dX2_goodInBlock_123 ?_
                    refine lv_land hx hb dX2_goodInBlock_124 ?_
                    refine lv_lstore (lv' := [(5, .long (x5 &&& (f7 i))), (8, .int 1), (7, .int (nI i)), (0, .ref hs), (1, .int (nI b)), (4, .int (nI rs))]) hx hb dX2_goodInBlock_125 hl (by decide) rfl (fun ls hl => ?_)
                    refine lv_aload_n hx hb dX2_goodInBlock_127 rfl (lv_at hl 3 rfl) ?_
                    refine lv_dup hx hb dX2_goodInBlock_128 rfl ?_
                    refine va_get (D := (dC, dI)) (ci := 2) (v := .int y9) (C := RX2) (T := TX2) (N := 8) hx hb htA inX2 hown hK hP 0 rfl rfl 5 (by decide) (htA _ lkX2_75) (fun _ h9 => h9) rfl dX2_goodInBlock_129 ?_
                    refine lv_aload_n hx hb dX2_goodInBlock_132 rfl (lv_at hl 3 rfl) ?_
                    refine va_get (D := (dC, dI)) (ci := 2) (v := .ref q1) (C := RX2) (T := TX2) (N := 8) hx hb htA inX2 hown hK hP 0 rfl rfl 0 (by decide) (htA _ lkX2_11) (fun _ h9 => h9) rfl dX2_goodInBlock_133 ?_
                    refine lv_iload hx hb dX2_goodInBlock_136 (lv_at hl 2 rfl) ?_
                    refine yv_iald hx hb hK hP 1 0 rfl rfl (k := i) hlt (by decide) dX2_goodInBlock_138 ?_
                    refine lv_ior hx hb dX2_goodInBlock_139 ?_
                    refine va_put (D := (dC, dI)) (ci := 2) (v := .int (y9 ||| (f1 i))) (ty := .int) (C := RX2) (T := TX2) (N := 8) hx hb htA inX2 tyX2 tyX2_ok nX2 hown hK hP hD hS 0 rfl rfl 5 (by decide) (htA _ lkX2_75) (fun _ h9 => h9) rfl (by decide +kernel) rfl rfl (Nat.le_of_ble_eq_true rfl) dX2_goodInBlock_140 (fun H locs hP hD hS => ?_)
                    have hP : va_P (dC, dI) vwCl [sO hs q1 q2 q7 q5 q6 (y9 ||| (f1 i)) n9 fd, (q1, .inl (k1, 420, .inl f1)), (q2, .inl (k2, 420, .inl f2)), (q7, .inl (k7, 420, .inr (.inl f7)))] H := hP
                    have hD : va_D A [sO hs q1 q2 q7 q5 q6 (y9 ||| (f1 i)) n9 fd, (q1, .inl (k1, 420, .inl f1)), (q2, .inl (k2, 420, .inl f2)), (q7, .inl (k7, 420, .inr (.inl f7)))] := hD
                    refine lv_aload_n hx hb dX2_goodInBlock_143 rfl (lv_at hl 3 rfl) ?_
                    refine lv_dup hx hb dX2_goodInBlock_144 rfl ?_
                    refine va_get (D := (dC, dI)) (ci := 2) (v := .int n9) (C := RX2) (T := TX2) (N := 8) hx hb htA inX2 hown hK hP 0 rfl rfl 6 (by decide) (htA _ lkX2_79) (fun _ h9 => h9) rfl dX2_goodInBlock_145 ?_
                    refine lv_aload_n hx hb dX2_goodInBlock_148 rfl (lv_at hl 3 rfl) ?_
                    refine va_get (D := (dC, dI)) (ci := 2) (v := .ref q2) (C := RX2) (T := TX2) (N := 8) hx hb htA inX2 hown hK hP 0 rfl rfl 1 (by decide) (htA _ lkX2_15) (fun _ h9 => h9) rfl dX2_goodInBlock_149 ?_
                    refine lv_iload hx hb dX2_goodInBlock_152 (lv_at hl 2 rfl) ?_
                    refine yv_iald hx hb hK hP 2 1 rfl rfl (k := i) hlt (by decide) dX2_goodInBlock_154 ?_
                    refine lv_ior hx hb dX2_goodInBlock_155 ?_
                    refine va_put (D := (dC, dI)) (ci := 2) (v := .int (n9 ||| (f2 i))) (ty := .int) (C := RX2) (T := TX2) (N := 8) hx hb htA inX2 tyX2 tyX2_ok nX2 hown hK hP hD hS 0 rfl rfl 6 (by decide) (htA _ lkX2_79) (fun _ h9 => h9) rfl (by decide +kernel) rfl rfl (Nat.le_of_ble_eq_true rfl) dX2_goodInBlock_156 (fun H locs hP hD hS => ?_)
                    have hP : va_P (dC, dI) vwCl [sO hs q1 q2 q7 q5 q6 (y9 ||| (f1 i)) (n9 ||| (f2 i)) fd, (q1, .inl (k1, 420, .inl f1)), (q2, .inl (k2, 420, .inl f2)), (q7, .inl (k7, 420, .inr (.inl f7)))] H := hP
                    have hD : va_D A [sO hs q1 q2 q7 q5 q6 (y9 ||| (f1 i)) (n9 ||| (f2 i)) fd, (q1, .inl (k1, 420, .inl f1)), (q2, .inl (k2, 420, .inl f2)), (q7, .inl (k7, 420, .inr (.inl f7)))] := hD
                    refine lv_iinc (v := nI (i + 1)) (lv' := [(7, .int (nI (i + 1))), (5, .long (x5 &&& (f7 i))), (8, .int 1), (0, .ref hs), (1, .int (nI b)), (4, .int (nI rs))]) hx hb dX2_goodInBlock_159 hl (k := 2) rfl (nI_1 _) (by decide) rfl (fun ls hl => ?_)
                    refine lv_goto (tgt := 16) hx hb dX2_goodInBlock_162 (by decide) ?_
                    refine ih (i + 1) _ _ _ hir (by omega) (yBl_and hI (hm i hir).1 (hm i hir).2 hcl (fun a ha => ha i hir)) (fun k hk z j hj => by
                        by_cases e : j = i
                        · rw [e]; exact Or.inr (by rw [show (b + k) % 64 = k by omega]; exact (by rw [zb_and, Bool.and_eq_true_iff] at z; exact z.2))
                        · exact hB k hk (by rw [zb_and, Bool.and_eq_true_iff] at z; exact z.1) j (by omega)) _ _ hP hD hS ls (lv_sub hl [0, 1, 3, 4, 5] rfl)
                  · refine lv_aload_n hx hb dX2_goodInBlock_105 rfl (lv_at hl 3 rfl) ?_
                    refine lv_iconst (v := 0) hx hb dX2_goodInBlock_106 (by decide) ?_
                    refine va_put (D := (dC, dI)) (ci := 2) (v := .int 0) (ty := .int) (C := RX2) (T := TX2) (N := 8) hx hb htA inX2 tyX2 tyX2_ok nX2 hown hK hP hD hS 0 rfl rfl 5 (by decide) (htA _ lkX2_75) (fun _ h9 => h9) rfl (by decide +kernel) rfl rfl (Nat.le_of_ble_eq_true rfl) dX2_goodInBlock_107 (fun H locs hP hD hS => ?_)
                    have hP : va_P (dC, dI) vwCl [sO hs q1 q2 q7 q5 q6 0 n9 fd, (q1, .inl (k1, 420, .inl f1)), (q2, .inl (k2, 420, .inl f2)), (q7, .inl (k7, 420, .inr (.inl f7)))] H := hP
                    have hD : va_D A [sO hs q1 q2 q7 q5 q6 0 n9 fd, (q1, .inl (k1, 420, .inl f1)), (q2, .inl (k2, 420, .inl f2)), (q7, .inl (k7, 420, .inr (.inl f7)))] := hD
                    refine lv_aload_n hx hb dX2_goodInBlock_110 rfl (lv_at hl 3 rfl) ?_
                    refine lv_iconst (v := 0) hx hb dX2_goodInBlock_111 (by decide) ?_
                    refine va_put (D := (dC, dI)) (ci := 2) (v := .int 0) (ty := .int) (C := RX2) (T := TX2) (N := 8) hx hb htA inX2 tyX2 tyX2_ok nX2 hown hK hP hD hS 0 rfl rfl 6 (by decide) (htA _ lkX2_79) (fun _ h9 => h9) rfl (by decide +kernel) rfl rfl (Nat.le_of_ble_eq_true rfl) dX2_goodInBlock_112 (fun H locs hP hD hS => ?_)
                    have hP : va_P (dC, dI) vwCl [sO hs q1 q2 q7 q5 q6 0 0 fd, (q1, .inl (k1, 420, .inl f1)), (q2, .inl (k2, 420, .inl f2)), (q7, .inl (k7, 420, .inr (.inl f7)))] H := hP
                    have hD : va_D A [sO hs q1 q2 q7 q5 q6 0 0 fd, (q1, .inl (k1, 420, .inl f1)), (q2, .inl (k2, 420, .inl f2)), (q7, .inl (k7, 420, .inr (.inl f7)))] := hD
                    refine lv_lload hx hb dX2_goodInBlock_115 (lv_at hl 2 rfl) ?_
                    refine lv_aload_n hx hb dX2_goodInBlock_117 rfl (lv_at hl 3 rfl) ?_
                    refine va_get (D := (dC, dI)) (ci := 2) (v := .ref q7) (C := RX2) (T := TX2) (N := 8) hx hb htA inX2 hown hK hP 0 rfl rfl 2 (by decide) (htA _ lkX2_18) (fun _ h9 => h9) rfl dX2_goodInBlock_118 ?_
                    refine lv_iload hx hb dX2_goodInBlock_121 (lv_at hl 1 rfl) ?_
                    refine yv_lald hx hb hK hP 3 2 rfl rfl (k := i) hlt (by decide) dX2_goodInBlock_123 ?_
                    refine lv_land hx hb dX2_goodInBlock_124 ?_
                    refine lv_lstore (lv' := [(5, .long (x5 &&& (f7 i))), (8, .int 1), (7, .int (nI i)), (0, .ref hs), (1, .int (nI b)), (4, .int (nI rs))]) hx hb dX2_goodInBlock_125 hl (by decide) rfl (fun ls hl => ?_)
                    refine lv_aload_n hx hb dX2_goodInBlock_127 rfl (lv_at hl 3 rfl) ?_
                    refine lv_dup hx hb dX2_goodInBlock_128 rfl ?_
                    refine va_get (D := (dC, dI)) (ci := 2) (v := .int 0) (C := RX2) (T := TX2) (N := 8) hx hb htA inX2 hown hK hP 0 rfl rfl 5 (by decide) (htA _ lkX2_75) (fun _ h9 => h9) rfl dX2_goodInBlock_129 ?_
                    refine lv_aload_n hx hb dX2_goodInBlock_132 rfl (lv_at hl 3 rfl) ?_
                    refine va_get (D := (dC, dI)) (ci := 2) (v := .ref q1) (C := RX2) (T := TX2) (N := 8) hx hb htA inX2 hown hK hP 0 rfl rfl 0 (by decide) (htA _ lkX2_11) (fun _ h9 => h9) rfl dX2_goodInBlock_133 ?_
                    refine lv_iload hx hb dX2_goodInBlock_136 (lv_at hl 2 rfl) ?_
                    refine yv_iald hx hb hK hP 1 0 rfl rfl (k := i) hlt (by decide) dX2_goodInBlock_138 ?_
                    refine lv_ior hx hb dX2_goodInBlock_139 ?_
                    refine va_put (D := (dC, dI)) (ci := 2) (v := .int (0 ||| (f1 i))) (ty := .int) (C := RX2) (T := TX2) (N := 8) hx hb htA inX2 tyX2 tyX2_ok nX2 hown hK hP hD hS 0 rfl rfl 5 (by decide) (htA _ lkX2_75) (fun _ h9 => h9) rfl (by decide +kernel) rfl rfl (Nat.le_of_ble_eq_true rfl) dX2_goodInBlock_140 (fun H locs hP hD hS => ?_)
                    have hP : va_P (dC, dI) vwCl [sO hs q1 q2 q7 q5 q6 (0 ||| (f1 i)) 0 fd, (q1, .inl (k1, 420, .inl f1)), (q2, .inl (k2, 420, .inl f2)), (q7, .inl (k7, 420, .inr (.inl f7)))] H := hP
                    have hD : va_D A [sO hs q1 q2 q7 q5 q6 (0 ||| (f1 i)) 0 fd, (q1, .inl (k1, 420, .inl f1)), (q2, .inl (k2, 420, .inl f2)), (q7, .inl (k7, 420, .inr (.inl f7)))] := hD
                    refine lv_aload_n hx hb dX2_goodInBlock_143 rfl (lv_at hl 3 rfl) ?_
                    refine lv_dup hx hb dX2_goodInBlock_144 rfl ?_
                    refine va_get (D := (dC, dI)) (ci := 2) (v := .int 0) (C := RX2) (T := TX2) (N := 8) hx hb htA inX2 hown hK hP 0 rfl rfl 6 (by decide) (htA _ lkX2_79) (fun _ h9 => h9) rfl dX2_goodInBlock_145 ?_
                    refine lv_aload_n hx hb dX2_goodInBlock_148 rfl (lv_at hl 3 rfl) ?_
                    refine va_get (D := (dC, dI)) (ci := 2) (v := .ref q2) (C := RX2) (T := TX2) (N := 8) hx hb htA inX2 hown hK hP 0 rfl rfl 1 (by decide) (htA _ lkX2_15) (fun _ h9 => h9) rfl dX2_goodInBlock_149 ?_
                    refine lv_iload hx hb dX2_goodInBlock_152 (lv_at hl 2 rfl) ?_
                    refine yv_iald hx hb hK hP 2 1 rfl rfl (k := i) hlt (by decide) dX2_goodInBlock_154 ?_
                    refine lv_ior hx hb dX2_goodInBlock_155 ?_
                    refine va_put (D := (dC, dI)) (ci := 2) (v := .int (0 ||| (f2 i))) (ty := .int) (C := RX2) (T := TX2) (N := 8) hx hb htA inX2 tyX2 tyX2_ok nX2 hown hK hP hD hS 0 rfl rfl 6 (by decide) (htA _ lkX2_79) (fun _ h9 => h9) rfl (by decide +kernel) rfl rfl (Nat.le_of_ble_eq_true rfl) dX2_goodInBlock_156 (fun H locs hP hD hS => ?_)
                    have hP : va_P (dC, dI) vwCl [sO hs q1 q2 q7 q5 q6 (0 ||| (f1 i)) (0 ||| (f2 i)) fd, (q1, .inl (k1, 420, .inl f1)), (q2, .inl (k2, 420, .inl f2)), (q7, .inl (k7, 420, .inr (.inl f7)))] H := hP
                    have hD : va_D A [sO hs q1 q2 q7 q5 q6 (0 ||| (f1 i)) (0 ||| (f2 i)) fd, (q1, .inl (k1, 420, .inl f1)), (q2, .inl (k2, 420, .inl f2)), (q7, .inl (k7, 420, .inr (.inl f7)))] := hD
                    refine lv_iinc (v := nI (i + 1)) (lv' := [(7, .int (nI (i + 1))), (5, .long (x5 &&& (f7 i))), (8, .int 1), (0, .ref hs), (1, .int (nI b)), (4, .int (nI rs))]) hx hb dX2_goodInBlock_159 hl (k := 2) rfl (nI_1 _) (by decide) rfl (fun ls hl => ?_)
                    refine lv_goto (tgt := 16) hx hb dX2_goodInBlock_162 (by decide) ?_
                    refine ih (i + 1) _ _ _ hir (by omega) (yBl_new (hm i hir).1 (hm i hir).2 hcl (fun a ha => ha i hir) ((lg_cmp_eq _ _).mp cb_41)) (fun k hk z j hj => by
                        by_cases e : j = i
                        · rw [e]; exact Or.inr (by rw [show (b + k) % 64 = k by omega]; exact (by rw [zb_and, Bool.and_eq_true_iff] at z; exact z.2))
                        · exact hB k hk (by rw [zb_and, Bool.and_eq_true_iff] at z; exact z.1) j (by omega)) _ _ hP hD hS ls (lv_sub hl [0, 1, 3, 4, 5] rfl)
  exact loop (rs + 1) 0 g0 0 0 (by omega) (by omega) (yBl_0 hg0) (fun k hk z j hj => absurd hj (Nat.not_lt_zero j)) _ _ hP hD hS ls (lv_sub hl [0, 1, 2, 3, 5] rfl)
set_option maxHeartbeats 4000000 in
set_option maxRecDepth 100000 in
theorem c_leap (l : Launch) (dC : Nat → ClassId) (dI : Nat → Nat → Nat) (hs : Nat) (q1 : Nat) (q2 : Nat) (q7 : Nat) (q5 : Nat) (q6 : Nat) (k5 : ClassId) (k6 : ClassId) (f5 : Nat → Int32) (f6 : Nat → Int32) (bY : Int32) (bN : Int32) (fd : Int64) (cd : Nat) (G : Nat → Prop) (sz : Nat) (hcd : cd < 262144) (hG : yGR G f5 f6) (hR : yRI G cd f5 f6) (hI0 : yLI G cd 6 bY bN) : Met l yX2_leap wsX2_leap ({ frames := 0, cells := 0, slots := 0, locals := 0 }) (va_Pc [.ref hs, .int (nI cd)] (fun U => U.heap.size = sz ∧ va_P (dC, dI) vwCl [sO hs q1 q2 q7 q5 q6 bY bN fd, (q5, .inl (k5, 18, .inl f5)), (q6, .inl (k6, 18, .inl f6))] U.heap ∧ va_K (dC, dI) vwCl [(k5, .int), (k6, .int)] U ∧ va_D (fun _ => True) [sO hs q1 q2 q7 q5 q6 bY bN fd, (q5, .inl (k5, 18, .inl f5)), (q6, .inl (k6, 18, .inl f6))])) (va_Qi (fun (r : Int32) (u : (Nat → Int32) × (Nat → Int32)) => yGR G u.1 u.2 ∧ ((r = -1 ∧ ∀ a, ¬ G a) ∨ ∃ c2, r = nI c2 ∧ c2 < 262144 ∧ cd < c2 ∧ c2 % 64 = 0 ∧ yRI G c2 u.1 u.2)) (fun (u : (Nat → Int32) × (Nat → Int32)) (t : State) => va_P (dC, dI) vwCl [sO hs q1 q2 q7 q5 q6 bY bN fd, (q5, .inl (k5, 18, .inl u.1)), (q6, .inl (k6, 18, .inl u.2))] t.heap ∧ va_K (dC, dI) vwCl [(k5, .int), (k6, .int)] t ∧ va_D (va_A [sO hs q1 q2 q7 q5 q6 bY bN fd, (q5, .inl (k5, 18, .inl f5)), (q6, .inl (k6, 18, .inl f6))] sz) [sO hs q1 q2 q7 q5 q6 bY bN fd, (q5, .inl (k5, 18, .inl u.1)), (q6, .inl (k6, 18, .inl u.2))]) (va_A [sO hs q1 q2 q7 q5 q6 bY bN fd, (q5, .inl (k5, 18, .inl f5)), (q6, .inl (k6, 18, .inl f6))] sz)) 0 0 (va_A [sO hs q1 q2 q7 q5 q6 bY bN fd, (q5, .inl (k5, 18, .inl f5)), (q6, .inl (k6, 18, .inl f6))] sz) := by
  refine Met.ofW (cc := cX2_leap) (maxL := 6) (ret := (some .int)) (by decide) rfl ?_
  intro p e s m args below meth c s₁ B hml hv
  obtain ⟨rfl, hsz, hP, hK, hD0⟩ := hv
  have hx := B.exec
  have hb := B.bytes
  have hr := B.returns
  have hts := atoms_spec (ws := wsX2_leap) B.pre
  have htA : ∀ w ∈ wsA, w.before _ s = true := fun w h => hts w (List.mem_cons_of_mem _ h)
  have hown : s.vm.findClass RX2 = some m.cls := findClass_of_methodNamed B.named
  have hlocks := B.notSynchronized
  subst hsz
  have hD := hD0.self (sz := s.heap.size)
  generalize hAe : va_A [sO hs q1 q2 q7 q5 q6 bY bN fd, (q5, .inl (k5, 18, .inl f5)), (q6, .inl (k6, 18, .inl f6))] s.heap.size = A at hD ⊢
  have hA : ∀ q : Nat, s.heap.size ≤ q → A q := fun q h => by rw [← hAe]; exact Or.inr h
  have hS : va_S A s.heap s.heap [] := va_S.rf
  have hP : va_P (dC, dI) vwCl [sO hs q1 q2 q7 q5 q6 bY bN fd, (q5, .inl (k5, 18, .inl f5)), (q6, .inl (k6, 18, .inl f6))] s.heap := hP
  have hl := lv_entry ([.ref hs, .int (nI cd)]) (n := 6) (Nat.le_of_ble_eq_true rfl)
  rw [lg_entry_eq]
  generalize (lg_sl ([.ref hs, .int (nI cd)]) ++ List.replicate (6 - (lg_sl ([.ref hs, .int (nI cd)])).length) Slot.unset).toArray = ls at hl ⊢
  have hl : lv_has ls 6 [(0, .ref hs), (1, .int (nI cd))] := hl
  refine lv_aload_n hx hb dX2_leap_0 rfl (lv_at hl 0 rfl) ?_
  refine va_get (D := (dC, dI)) (ci := 2) (v := .int bY) (C := RX2) (T := TX2) (N := 8) hx hb htA inX2 hown hK hP 0 rfl rfl 5 (by decide) (htA _ lkX2_75) (fun _ h9 => h9) rfl dX2_leap_1 ?_
  refine lv_istore_n (lv' := [(2, .int bY), (0, .ref hs), (1, .int (nI cd))]) hx hb dX2_leap_4 rfl hl (by decide) rfl (fun ls hl => ?_)
  refine lv_aload_n hx hb dX2_leap_5 rfl (lv_at hl 1 rfl) ?_
  refine va_get (D := (dC, dI)) (ci := 2) (v := .int bN) (C := RX2) (T := TX2) (N := 8) hx hb htA inX2 hown hK hP 0 rfl rfl 6 (by decide) (htA _ lkX2_79) (fun _ h9 => h9) rfl dX2_leap_6 ?_
  refine lv_istore_n (lv' := [(3, .int bN), (2, .int bY), (0, .ref hs), (1, .int (nI cd))]) hx hb dX2_leap_9 rfl hl (by decide) rfl (fun ls hl => ?_)
  refine lv_bipush (v := 6) hx hb dX2_leap_10 (by decide) ?_
  refine lv_istore (lv' := [(4, .int 6), (3, .int bN), (2, .int bY), (0, .ref hs), (1, .int (nI cd))]) hx hb dX2_leap_12 hl (by decide) rfl (fun ls hl => ?_)
  have loop : ∀ (fu v : Nat) (x4 x5 : Int32), 6 ≤ v → v ≤ 18 → 19 ≤ v + fu → yLI G cd v x4 x5 → ∀ (ls : Array Slot), lv_has ls 6 [(4, .int (nI v)), (3, .int x5), (2, .int x4), (0, .ref hs), (1, .int (nI cd))] → W p l e (headSpec wsX2_leap ({ frames := 0, cells := 0, slots := 0, locals := 0 })).room s m ([.ref hs, .int (nI cd)] : List Value).toArray below meth c s.heap [] 0 0 (MQ below (va_Qi (fun (r : Int32) (u : (Nat → Int32) × (Nat → Int32)) => yGR G u.1 u.2 ∧ ((r = -1 ∧ ∀ a, ¬ G a) ∨ ∃ c2, r = nI c2 ∧ c2 < 262144 ∧ cd < c2 ∧ c2 % 64 = 0 ∧ yRI G c2 u.1 u.2)) (fun (u : (Nat → Int32) × (Nat → Int32)) (t : State) => va_P (dC, dI) vwCl [sO hs q1 q2 q7 q5 q6 bY bN fd, (q5, .inl (k5, 18, .inl u.1)), (q6, .inl (k6, 18, .inl u.2))] t.heap ∧ va_K (dC, dI) vwCl [(k5, .int), (k6, .int)] t ∧ va_D A [sO hs q1 q2 q7 q5 q6 bY bN fd, (q5, .inl (k5, 18, .inl u.1)), (q6, .inl (k6, 18, .inl u.2))]) A) ([.ref hs, .int (nI cd)] : List Value).toArray s 0 0 A) (F0 m 14 ls []) := by
    intro fu
    induction fu with
    | zero =>
      intro v x4 x5 h0 h1 h2
      exact absurd h2 (by omega)
    | succ fu ih =>
      intro v x4 x5 hv6 hv hin hI ls hl
      refine lv_iload hx hb dX2_leap_14 (lv_at hl 0 rfl) ?_
      refine lv_bipush (v := 18) hx hb dX2_leap_16 (by decide) ?_
      refine lv_icmp_ge (tgt := 102) hx hb dX2_leap_18 (by decide) (fun cb_42 => ?_) (fun cb_42 => ?_)
      · have hve : v = 18 := by
          rcases Nat.lt_or_ge v 18 with q | q
          · exact absurd cb_42 (nI_ge (b := 18) q (by omega))
          · omega
        subst hve
        refine lv_iconst (v := (-1)) hx hb dX2_leap_102 (by decide) ?_
        exact W.iret (v := (-1)) hx hb hr (fun t ht hW => ⟨⟨(-1), (f5, f6), rfl, ⟨hG, Or.inl ⟨rfl, yLI_end hI⟩⟩, by rw [ht]; exact hP, va_K.moved hW.alike hK, hD⟩, hS.F ht⟩) hS.2.2 dX2_leap_103
      · have hlt : v < 18 := by
          rcases Nat.lt_or_ge v 18 with q | q
          · exact q
          · exact absurd (nI_le (a := 18) q (by omega)) cb_42
        refine lv_iconst (v := 1) hx hb dX2_leap_21 (by decide) ?_
        refine lv_iload hx hb dX2_leap_22 (lv_at hl 0 rfl) ?_
        refine lv_ishl hx hb dX2_leap_24 ?_
        refine lv_istore (lv' := [(5, .int ((1 : Int32) <<< ((nI v) &&& 31))), (4, .int (nI v)), (3, .int x5), (2, .int x4), (0, .ref hs), (1, .int (nI cd))]) hx hb dX2_leap_25 hl (by decide) rfl (fun ls hl => ?_)
        refine lv_iload_n hx hb dX2_leap_27 rfl (lv_at hl 3 rfl) ?_
        refine lv_iload hx hb dX2_leap_28 (lv_at hl 0 rfl) ?_
        refine lv_iand hx hb dX2_leap_30 ?_
        refine lv_if_eq (tgt := 64) hx hb dX2_leap_31 (by decide) (fun cb_43 => ?_) (fun cb_43 => ?_)
        · have hn4 := (yb_at hlt).mp cb_43
          refine lv_iload_n hx hb dX2_leap_64 rfl (lv_at hl 2 rfl) ?_
          refine lv_iload hx hb dX2_leap_65 (lv_at hl 0 rfl) ?_
          refine lv_iand hx hb dX2_leap_67 ?_
          refine lv_if_eq (tgt := 96) hx hb dX2_leap_68 (by decide) (fun cb_44 => ?_) (fun cb_44 => ?_)
          · refine lv_iinc (v := nI (v + 1)) (lv' := [(4, .int (nI (v + 1))), (5, .int ((1 : Int32) <<< ((nI v) &&& 31))), (3, .int x5), (2, .int x4), (0, .ref hs), (1, .int (nI cd))]) hx hb dX2_leap_96 hl (k := 1) rfl (nI_1 _) (by decide) rfl (fun ls hl => ?_)
            refine lv_goto (tgt := 14) hx hb dX2_leap_99 (by decide) ?_
            exact ih (v + 1) _ _ (by omega) hlt (by omega) (yLI_skip hI hn4 ((yb_at hlt).mp cb_44)) ls (lv_sub hl [0, 2, 3, 4, 5] rfl)
          · refine lv_iload_n hx hb dX2_leap_71 rfl (lv_at hl 3 rfl) ?_
            refine lv_aload_n hx hb dX2_leap_72 rfl (lv_at hl 4 rfl) ?_
            refine va_get (D := (dC, dI)) (ci := 2) (v := .ref q5) (C := RX2) (T := TX2) (N := 8) hx hb htA inX2 hown hK hP 0 rfl rfl 3 (by decide) (htA _ lkX2_22) (fun _ h9 => h9) rfl dX2_leap_73 ?_
            refine lv_iload hx hb dX2_leap_76 (lv_at hl 1 rfl) ?_
            refine yv_iald hx hb hK hP 1 0 rfl rfl (k := v) hlt (by decide) dX2_leap_78 ?_
            refine lv_ior hx hb dX2_leap_79 ?_
            refine lv_istore_n (lv' := [(2, .int (x4 ||| (f5 v))), (5, .int ((1 : Int32) <<< ((nI v) &&& 31))), (4, .int (nI v)), (3, .int x5), (0, .ref hs), (1, .int (nI cd))]) hx hb dX2_leap_80 rfl hl (by decide) rfl (fun ls hl => ?_)
            refine lv_iload_n hx hb dX2_leap_81 rfl (lv_at hl 3 rfl) ?_
            refine lv_iload hx hb dX2_leap_82 (lv_at hl 1 rfl) ?_
            refine lv_iconst (v := (-1)) hx hb dX2_leap_84 (by decide) ?_
            refine lv_ixor hx hb dX2_leap_85 ?_
            refine lv_iand hx hb dX2_leap_86 ?_
            refine lv_aload_n hx hb dX2_leap_87 rfl (lv_at hl 4 rfl) ?_
            refine va_get (D := (dC, dI)) (ci := 2) (v := .ref q6) (C := RX2) (T := TX2) (N := 8) hx hb htA inX2 hown hK hP 0 rfl rfl 4 (by decide) (htA _ lkX2_25) (fun _ h9 => h9) rfl dX2_leap_88 ?_
            refine lv_iload hx hb dX2_leap_91 (lv_at hl 2 rfl) ?_
            refine yv_iald hx hb hK hP 2 1 rfl rfl (k := v) hlt (by decide) dX2_leap_93 ?_
            refine lv_ior hx hb dX2_leap_94 ?_
            refine lv_istore_n (lv' := [(3, .int ((x5 &&& (((1 : Int32) <<< ((nI v) &&& 31)) ^^^ (-1))) ||| (f6 v))), (2, .int (x4 ||| (f5 v))), (5, .int ((1 : Int32) <<< ((nI v) &&& 31))), (4, .int (nI v)), (0, .ref hs), (1, .int (nI cd))]) hx hb dX2_leap_95 rfl hl (by decide) rfl (fun ls hl => ?_)
            refine lv_iinc (v := nI (v + 1)) (lv' := [(4, .int (nI (v + 1))), (3, .int ((x5 &&& (((1 : Int32) <<< ((nI v) &&& 31)) ^^^ (-1))) ||| (f6 v))), (2, .int (x4 ||| (f5 v))), (5, .int ((1 : Int32) <<< ((nI v) &&& 31))), (0, .ref hs), (1, .int (nI cd))]) hx hb dX2_leap_96 hl (k := 3) rfl (nI_1 _) (by decide) rfl (fun ls hl => ?_)
            refine lv_goto (tgt := 14) hx hb dX2_leap_99 (by decide) ?_
            exact ih (v + 1) _ _ (by omega) hlt (by omega) (yLI_res hlt hI hR hn4 (Decidable.byContradiction (fun q => cb_44 ((yb_at hlt).mpr q)))) ls (lv_sub hl [0, 1, 2, 4, 5] rfl)
        · obtain ⟨c2, z1, z2, z3, z4, z5⟩ := yLI_leap hcd hlt hI hR (Decidable.byContradiction (fun q => cb_43 ((yb_at hlt).mpr q)))
          have z6 := yGR_leap hlt hI hG
          refine lv_aload_n hx hb dX2_leap_34 rfl (lv_at hl 4 rfl) ?_
          refine va_get (D := (dC, dI)) (ci := 2) (v := .ref q5) (C := RX2) (T := TX2) (N := 8) hx hb htA inX2 hown hK hP 0 rfl rfl 3 (by decide) (htA _ lkX2_22) (fun _ h9 => h9) rfl dX2_leap_35 ?_
          refine lv_iload hx hb dX2_leap_38 (lv_at hl 1 rfl) ?_
          refine lv_iload_n hx hb dX2_leap_40 rfl (lv_at hl 3 rfl) ?_
          refine lv_iload hx hb dX2_leap_41 (lv_at hl 0 rfl) ?_
          refine lv_iconst (v := (-1)) hx hb dX2_leap_43 (by decide) ?_
          refine lv_ixor hx hb dX2_leap_44 ?_
          refine lv_iand hx hb dX2_leap_45 ?_
          refine yv_iast hx hb hK hP hD hS 1 0 rfl rfl (k := v) hlt (by decide) dX2_leap_46 (fun H locs hP hD hS => ?_)
          have hP : va_P (dC, dI) vwCl [sO hs q1 q2 q7 q5 q6 bY bN fd, (q5, .inl (k5, 18, .inl (upd f5 v (x4 &&& (((1 : Int32) <<< ((nI v) &&& 31)) ^^^ (-1)))))), (q6, .inl (k6, 18, .inl f6))] H := hP
          have hD : va_D A [sO hs q1 q2 q7 q5 q6 bY bN fd, (q5, .inl (k5, 18, .inl (upd f5 v (x4 &&& (((1 : Int32) <<< ((nI v) &&& 31)) ^^^ (-1)))))), (q6, .inl (k6, 18, .inl f6))] := hD
          refine lv_aload_n hx hb dX2_leap_47 rfl (lv_at hl 4 rfl) ?_
          refine va_get (D := (dC, dI)) (ci := 2) (v := .ref q6) (C := RX2) (T := TX2) (N := 8) hx hb htA inX2 hown hK hP 0 rfl rfl 4 (by decide) (htA _ lkX2_25) (fun _ h9 => h9) rfl dX2_leap_48 ?_
          refine lv_iload hx hb dX2_leap_51 (lv_at hl 1 rfl) ?_
          refine lv_iload_n hx hb dX2_leap_53 rfl (lv_at hl 2 rfl) ?_
          refine yv_iast hx hb hK hP hD hS 2 1 rfl rfl (k := v) hlt (by decide) dX2_leap_54 (fun H locs hP hD hS => ?_)
          have hP : va_P (dC, dI) vwCl [sO hs q1 q2 q7 q5 q6 bY bN fd, (q5, .inl (k5, 18, .inl (upd f5 v (x4 &&& (((1 : Int32) <<< ((nI v) &&& 31)) ^^^ (-1)))))), (q6, .inl (k6, 18, .inl (upd f6 v x5)))] H := hP
          have hD : va_D A [sO hs q1 q2 q7 q5 q6 bY bN fd, (q5, .inl (k5, 18, .inl (upd f5 v (x4 &&& (((1 : Int32) <<< ((nI v) &&& 31)) ^^^ (-1)))))), (q6, .inl (k6, 18, .inl (upd f6 v x5)))] := hD
          refine lv_iload_n hx hb dX2_leap_55 rfl (lv_at hl 5 rfl) ?_
          refine lv_iload hx hb dX2_leap_56 (lv_at hl 0 rfl) ?_
          refine lv_ior hx hb dX2_leap_58 ?_
          refine lv_iload hx hb dX2_leap_59 (lv_at hl 0 rfl) ?_
          refine lv_ineg hx hb dX2_leap_61 ?_
          refine lv_iand hx hb dX2_leap_62 ?_
          exact W.iret (v := ((nI cd) ||| ((1 : Int32) <<< ((nI v) &&& 31))) &&& (-((1 : Int32) <<< ((nI v) &&& 31)))) hx hb hr (fun t ht hW => ⟨⟨((nI cd) ||| ((1 : Int32) <<< ((nI v) &&& 31))) &&& (-((1 : Int32) <<< ((nI v) &&& 31))), (_, _), rfl, ⟨z6, Or.inr ⟨c2, z3, z1, z2, y_mod64 (fun i hi => z4 i (by omega)), z5⟩⟩, by rw [ht]; exact hP, va_K.moved hW.alike hK, hD⟩, hS.F ht⟩) hS.2.2 dX2_leap_63
  exact loop 19 6 bY bN (by omega) (by omega) (by omega) hI0 ls (lv_sub hl [0, 1, 2, 3, 4] rfl)
set_option maxHeartbeats 4000000 in
set_option maxRecDepth 100000 in
theorem c_setBy (l : Launch) (dC : Nat → ClassId) (dI : Nat → Nat → Nat) (hs : Nat) (q1 : Nat) (q2 : Nat) (q7 : Nat) (q5 : Nat) (q6 : Nat) (k5 : ClassId) (k6 : ClassId) (f5 : Nat → Int32) (f6 : Nat → Int32) (bY : Int32) (bN : Int32) (fd : Int64) (x : Int32) (cd : Nat) (G : Nat → Prop) (sz : Nat) (hG : yGR G f5 f6) (hI0 : ((x = -1 ∧ ∀ a, ¬ G a) ∨ ∃ c2, x = nI c2 ∧ c2 < 262144 ∧ cd < c2 ∧ c2 % 64 = 0 ∧ yRI G c2 f5 f6)) : Met l yX2_setByReasons wsX2_setByReasons ({ frames := 0, cells := 0, slots := 0, locals := 0 }) (va_Pc [.ref hs, .int x] (fun U => U.heap.size = sz ∧ va_P (dC, dI) vwCl [sO hs q1 q2 q7 q5 q6 bY bN fd, (q5, .inl (k5, 18, .inl f5)), (q6, .inl (k6, 18, .inl f6))] U.heap ∧ va_K (dC, dI) vwCl [(k5, .int), (k6, .int)] U ∧ va_D (fun _ => True) [sO hs q1 q2 q7 q5 q6 bY bN fd, (q5, .inl (k5, 18, .inl f5)), (q6, .inl (k6, 18, .inl f6))])) (va_Qi (fun (r : Int32) (u : Unit) => ((r = -1 ∧ ∀ a, ¬ G a) ∨ ∃ c2, r = nI c2 ∧ c2 < 262144 ∧ cd < c2 ∧ c2 % 64 = 0 ∧ yRI G c2 f5 f6)) (fun (u : Unit) (t : State) => va_P (dC, dI) vwCl [sO hs q1 q2 q7 q5 q6 bY bN fd, (q5, .inl (k5, 18, .inl f5)), (q6, .inl (k6, 18, .inl f6))] t.heap ∧ va_K (dC, dI) vwCl [(k5, .int), (k6, .int)] t ∧ va_D (va_A [sO hs q1 q2 q7 q5 q6 bY bN fd, (q5, .inl (k5, 18, .inl f5)), (q6, .inl (k6, 18, .inl f6))] sz) [sO hs q1 q2 q7 q5 q6 bY bN fd, (q5, .inl (k5, 18, .inl f5)), (q6, .inl (k6, 18, .inl f6))]) (va_A [sO hs q1 q2 q7 q5 q6 bY bN fd, (q5, .inl (k5, 18, .inl f5)), (q6, .inl (k6, 18, .inl f6))] sz)) 0 0 (va_A [sO hs q1 q2 q7 q5 q6 bY bN fd, (q5, .inl (k5, 18, .inl f5)), (q6, .inl (k6, 18, .inl f6))] sz) := by
  refine Met.ofW (cc := cX2_setByReasons) (maxL := 5) (ret := (some .int)) (by decide) rfl ?_
  intro p e s m args below meth c s₁ B hml hv
  obtain ⟨rfl, hsz, hP, hK, hD0⟩ := hv
  have hx := B.exec
  have hb := B.bytes
  have hr := B.returns
  have hts := atoms_spec (ws := wsX2_setByReasons) B.pre
  have htA : ∀ w ∈ wsA, w.before _ s = true := fun w h => hts w (List.mem_cons_of_mem _ h)
  have hown : s.vm.findClass RX2 = some m.cls := findClass_of_methodNamed B.named
  have hlocks := B.notSynchronized
  subst hsz
  have hD := hD0.self (sz := s.heap.size)
  generalize hAe : va_A [sO hs q1 q2 q7 q5 q6 bY bN fd, (q5, .inl (k5, 18, .inl f5)), (q6, .inl (k6, 18, .inl f6))] s.heap.size = A at hD ⊢
  have hA : ∀ q : Nat, s.heap.size ≤ q → A q := fun q h => by rw [← hAe]; exact Or.inr h
  have hS : va_S A s.heap s.heap [] := va_S.rf
  have hP : va_P (dC, dI) vwCl [sO hs q1 q2 q7 q5 q6 bY bN fd, (q5, .inl (k5, 18, .inl f5)), (q6, .inl (k6, 18, .inl f6))] s.heap := hP
  have hl := lv_entry ([.ref hs, .int x]) (n := 5) (Nat.le_of_ble_eq_true rfl)
  rw [lg_entry_eq]
  generalize (lg_sl ([.ref hs, .int x]) ++ List.replicate (5 - (lg_sl ([.ref hs, .int x])).length) Slot.unset).toArray = ls at hl ⊢
  have hl : lv_has ls 5 [(0, .ref hs), (1, .int x)] := hl
  refine lv_iload_n hx hb dX2_setByReasons_0 rfl (lv_at hl 1 rfl) ?_
  refine lv_istore_n (lv' := [(2, .int x), (0, .ref hs), (1, .int x)]) hx hb dX2_setByReasons_1 rfl hl (by decide) rfl (fun ls hl => ?_)
  refine lv_bipush (v := 17) hx hb dX2_setByReasons_2 (by decide) ?_
  refine lv_istore_n (lv' := [(3, .int 17), (2, .int x), (0, .ref hs), (1, .int x)]) hx hb dX2_setByReasons_4 rfl hl (by decide) rfl (fun ls hl => ?_)
  have loop : ∀ (fu v : Nat) (x2 : Int32), 5 ≤ v → v ≤ 17 → v ≤ 4 + fu → ((x2 = -1 ∧ ∀ a, ¬ G a) ∨ ∃ c2, x2 = nI c2 ∧ c2 < 262144 ∧ cd < c2 ∧ c2 % 64 = 0 ∧ yRI G c2 f5 f6) → ∀ (ls : Array Slot), lv_has ls 5 [(3, .int (nI v)), (2, .int x2), (0, .ref hs)] → W p l e (headSpec wsX2_setByReasons ({ frames := 0, cells := 0, slots := 0, locals := 0 })).room s m ([.ref hs, .int x] : List Value).toArray below meth c s.heap [] 0 0 (MQ below (va_Qi (fun (r : Int32) (u : Unit) => ((r = -1 ∧ ∀ a, ¬ G a) ∨ ∃ c2, r = nI c2 ∧ c2 < 262144 ∧ cd < c2 ∧ c2 % 64 = 0 ∧ yRI G c2 f5 f6)) (fun (u : Unit) (t : State) => va_P (dC, dI) vwCl [sO hs q1 q2 q7 q5 q6 bY bN fd, (q5, .inl (k5, 18, .inl f5)), (q6, .inl (k6, 18, .inl f6))] t.heap ∧ va_K (dC, dI) vwCl [(k5, .int), (k6, .int)] t ∧ va_D A [sO hs q1 q2 q7 q5 q6 bY bN fd, (q5, .inl (k5, 18, .inl f5)), (q6, .inl (k6, 18, .inl f6))]) A) ([.ref hs, .int x] : List Value).toArray s 0 0 A) (F0 m 5 ls []) := by
    intro fu
    induction fu with
    | zero =>
      intro v x2 h0 h1 h2
      exact absurd h2 (by omega)
    | succ fu ih =>
      intro v x2 hv5 hv17 hin hI ls hl
      have hv1 : 1 ≤ v := by omega
      have hlt : v < 18 := by omega
      refine lv_iload_n hx hb dX2_setByReasons_5 rfl (lv_at hl 0 rfl) ?_
      refine lv_bipush (v := 6) hx hb dX2_setByReasons_6 (by decide) ?_
      refine lv_icmp_lt (tgt := 61) hx hb dX2_setByReasons_8 (by decide) (fun cb_45 => ?_) (fun cb_45 => ?_)
      · refine lv_iload_n hx hb dX2_setByReasons_61 rfl (lv_at hl 1 rfl) ?_
        exact W.iret (v := x2) hx hb hr (fun t ht hW => ⟨⟨x2, (), rfl, hI, by rw [ht]; exact hP, va_K.moved hW.alike hK, hD⟩, hS.F ht⟩) hS.2.2 dX2_setByReasons_62
      · have hv6 : 6 ≤ v := by
          rcases Nat.lt_or_ge v 6 with q | q
          · exact absurd (nI_lt (b := 6) q (by omega)) cb_45
          · exact q
        refine lv_iload_n hx hb dX2_setByReasons_11 rfl (lv_at hl 1 rfl) ?_
        refine lv_iconst (v := (-1)) hx hb dX2_setByReasons_12 (by decide) ?_
        refine lv_icmp_eq (tgt := 61) hx hb dX2_setByReasons_13 (by decide) (fun cb_46 => ?_) (fun cb_46 => ?_)
        · refine lv_iload_n hx hb dX2_setByReasons_61 rfl (lv_at hl 1 rfl) ?_
          exact W.iret (v := x2) hx hb hr (fun t ht hW => ⟨⟨x2, (), rfl, hI, by rw [ht]; exact hP, va_K.moved hW.alike hK, hD⟩, hS.F ht⟩) hS.2.2 dX2_setByReasons_62
        · obtain ⟨c2, rfl, hc2, hc1, hc0, hR⟩ := hI.resolve_left (fun q => cb_46 q.1)
          refine lv_iconst (v := 1) hx hb dX2_setByReasons_16 (by decide) ?_
          refine lv_iload_n hx hb dX2_setByReasons_17 rfl (lv_at hl 0 rfl) ?_
          refine lv_ishl hx hb dX2_setByReasons_18 ?_
          refine lv_istore (lv' := [(4, .int ((1 : Int32) <<< ((nI v) &&& 31))), (3, .int (nI v)), (2, .int (nI c2)), (0, .ref hs)]) hx hb dX2_setByReasons_19 hl (by decide) rfl (fun ls hl => ?_)
          refine lv_aload_n hx hb dX2_setByReasons_21 rfl (lv_at hl 3 rfl) ?_
          refine va_get (D := (dC, dI)) (ci := 2) (v := .ref q5) (C := RX2) (T := TX2) (N := 8) hx hb htA inX2 hown hK hP 0 rfl rfl 3 (by decide) (htA _ lkX2_22) (fun _ h9 => h9) rfl dX2_setByReasons_22 ?_
          refine lv_iload_n hx hb dX2_setByReasons_25 rfl (lv_at hl 1 rfl) ?_
          refine yv_iald hx hb hK hP 1 0 rfl rfl (k := v) hlt (by decide) dX2_setByReasons_26 ?_
          refine lv_iload hx hb dX2_setByReasons_27 (lv_at hl 0 rfl) ?_
          refine lv_ior hx hb dX2_setByReasons_29 ?_
          refine lv_iload_n hx hb dX2_setByReasons_30 rfl (lv_at hl 2 rfl) ?_
          refine lv_iand hx hb dX2_setByReasons_31 ?_
          refine lv_aload_n hx hb dX2_setByReasons_32 rfl (lv_at hl 3 rfl) ?_
          refine va_get (D := (dC, dI)) (ci := 2) (v := .ref q6) (C := RX2) (T := TX2) (N := 8) hx hb htA inX2 hown hK hP 0 rfl rfl 4 (by decide) (htA _ lkX2_25) (fun _ h9 => h9) rfl dX2_setByReasons_33 ?_
          refine lv_iload_n hx hb dX2_setByReasons_36 rfl (lv_at hl 1 rfl) ?_
          refine yv_iald hx hb hK hP 2 1 rfl rfl (k := v) hlt (by decide) dX2_setByReasons_37 ?_
          refine lv_iload_n hx hb dX2_setByReasons_38 rfl (lv_at hl 2 rfl) ?_
          refine lv_iconst (v := (-1)) hx hb dX2_setByReasons_39 (by decide) ?_
          refine lv_ixor hx hb dX2_setByReasons_40 ?_
          refine lv_iand hx hb dX2_setByReasons_41 ?_
          refine lv_ior hx hb dX2_setByReasons_42 ?_
          refine lv_if_ne (tgt := 55) hx hb dX2_setByReasons_43 (by decide) (fun cb_47 => ?_) (fun cb_47 => ?_)
          · refine lv_iinc (v := nI (v - 1)) (lv' := [(3, .int (nI (v - 1))), (4, .int ((1 : Int32) <<< ((nI v) &&& 31))), (2, .int (nI c2)), (0, .ref hs)]) hx hb dX2_setByReasons_55 hl (k := 1) rfl (y_dec' hv1) (by decide) rfl (fun ls hl => ?_)
            refine lv_goto (tgt := 5) hx hb dX2_setByReasons_58 (by decide) ?_
            exact ih (v - 1) _ (by omega) (by omega) (by omega) (Or.inr ⟨c2, rfl, hc2, hc1, hc0, hR⟩) ls (lv_sub hl [0, 2, 3] rfl)
          · have hmY : ym (f5 v ||| ((1 : Int32) <<< (nI v &&& 31))) := fun i hi => by
              cases q : yb (f5 v ||| ((1 : Int32) <<< (nI v &&& 31))) i
              · rfl
              · rcases (yb_bit hlt).mp q with z | z
                · exact absurd ((hG v hv6 hlt).1 i z).2 (by omega)
                · omega
            have hmN : ym (f6 v) := fun i hi => by
              cases q : yb (f6 v) i
              · rfl
              · exact absurd ((hG v hv6 hlt).2.1 i q).2 (by omega)
            obtain ⟨c3, z1, z2, z3, z4, z5⟩ := yGR_set hc2 hv6 hlt hG hR ((ycl_test hmY hmN).mp cb_47)
            refine lv_iload_n hx hb dX2_setByReasons_46 rfl (lv_at hl 2 rfl) ?_
            refine lv_iload hx hb dX2_setByReasons_47 (lv_at hl 0 rfl) ?_
            refine lv_ior hx hb dX2_setByReasons_49 ?_
            refine lv_iload hx hb dX2_setByReasons_50 (lv_at hl 0 rfl) ?_
            refine lv_ineg hx hb dX2_setByReasons_52 ?_
            refine lv_iand hx hb dX2_setByReasons_53 ?_
            refine lv_istore_n (lv' := [(2, .int (((nI c2) ||| ((1 : Int32) <<< ((nI v) &&& 31))) &&& (-((1 : Int32) <<< ((nI v) &&& 31))))), (4, .int ((1 : Int32) <<< ((nI v) &&& 31))), (3, .int (nI v)), (0, .ref hs)]) hx hb dX2_setByReasons_54 rfl hl (by decide) rfl (fun ls hl => ?_)
            refine lv_iinc (v := nI (v - 1)) (lv' := [(3, .int (nI (v - 1))), (2, .int (((nI c2) ||| ((1 : Int32) <<< ((nI v) &&& 31))) &&& (-((1 : Int32) <<< ((nI v) &&& 31))))), (4, .int ((1 : Int32) <<< ((nI v) &&& 31))), (0, .ref hs)]) hx hb dX2_setByReasons_55 hl (k := 2) rfl (y_dec' hv1) (by decide) rfl (fun ls hl => ?_)
            refine lv_goto (tgt := 5) hx hb dX2_setByReasons_58 (by decide) ?_
            exact ih (v - 1) _ (by omega) (by omega) (by omega) (Or.inr ⟨c3, z3, z1, by omega, y_mod64 (fun i hi => z4 i (by omega)), z5⟩) ls (lv_sub hl [0, 1, 3] rfl)
  exact loop 13 17 x (by omega) (by omega) (by omega) hI0 ls (lv_sub hl [0, 1, 2] rfl)
end
section
set_option maxHeartbeats 4000000 in
set_option maxRecDepth 100000 in
theorem c_leastFrom (l : Launch) (dC : Nat → ClassId) (dI : Nat → Nat → Nat) (hs : Nat) (q1 : Nat) (q2 : Nat) (q7 : Nat) (q5 : Nat) (q6 : Nat) (k1 : ClassId) (k2 : ClassId) (k7 : ClassId) (k5 : ClassId) (k6 : ClassId) (f1 : Nat → Int32) (f2 : Nat → Int32) (f7 : Nat → Int64) (f5 : Nat → Int32) (f6 : Nat → Int32) (bY : Int32) (bN : Int32) (fd : Int64) (st : Nat) (rows : Nat) (sz : Nat) (hst : st ≤ 262144) (hrows : rows < 420) (hm : ∀ j, j < rows → yh (f1 j) ∧ yh (f2 j)) : Met l yX2_leastFrom wsX2_leastFrom ({ frames := 2, cells := 0, slots := 0, locals := 55 }) (va_Pc [.ref hs, .int (nI st), .int (nI rows)] (fun U => U.heap.size = sz ∧ va_P (dC, dI) vwCl [sO hs q1 q2 q7 q5 q6 bY bN fd, (q1, .inl (k1, 420, .inl f1)), (q2, .inl (k2, 420, .inl f2)), (q7, .inl (k7, 420, .inr (.inl f7))), (q5, .inl (k5, 18, .inl f5)), (q6, .inl (k6, 18, .inl f6))] U.heap ∧ va_K (dC, dI) vwCl [(k1, .int), (k2, .int), (k7, .long), (k5, .int), (k6, .int)] U ∧ va_D (fun _ => True) [sO hs q1 q2 q7 q5 q6 bY bN fd, (q1, .inl (k1, 420, .inl f1)), (q2, .inl (k2, 420, .inl f2)), (q7, .inl (k7, 420, .inr (.inl f7))), (q5, .inl (k5, 18, .inl f5)), (q6, .inl (k6, 18, .inl f6))])) (va_Qi (fun (r : Int32) (u : (Nat → Int32) × (Nat → Int32) × (Nat → Int64) × (Nat → Int32) × (Nat → Int32) × Int32 × Int32 × Int64) => yL (fun a => ∀ j, j < rows → scl (f1 j) (f2 j) (f7 j) a) st r ∧ (∀ j, j < rows → u.1 j = f1 j ∧ u.2.1 j = f2 j ∧ u.2.2.1 j = f7 j) ∧ ∀ c9, r = nI c9 → c9 < 262144 → ∀ k, k < 64 → (zb u.2.2.2.2.2.2.2 k = true ↔ st ≤ 64 * (c9 / 64) + k ∧ ∀ j, j < rows → scl (f1 j) (f2 j) (f7 j) (64 * (c9 / 64) + k))) (fun (u : (Nat → Int32) × (Nat → Int32) × (Nat → Int64) × (Nat → Int32) × (Nat → Int32) × Int32 × Int32 × Int64) (t : State) => va_P (dC, dI) vwCl [sO hs q1 q2 q7 q5 q6 u.2.2.2.2.2.1 u.2.2.2.2.2.2.1 u.2.2.2.2.2.2.2, (q1, .inl (k1, 420, .inl u.1)), (q2, .inl (k2, 420, .inl u.2.1)), (q7, .inl (k7, 420, .inr (.inl u.2.2.1))), (q5, .inl (k5, 18, .inl u.2.2.2.1)), (q6, .inl (k6, 18, .inl u.2.2.2.2.1))] t.heap ∧ va_K (dC, dI) vwCl [(k1, .int), (k2, .int), (k7, .long), (k5, .int), (k6, .int)] t ∧ va_D (va_A [sO hs q1 q2 q7 q5 q6 bY bN fd, (q1, .inl (k1, 420, .inl f1)), (q2, .inl (k2, 420, .inl f2)), (q7, .inl (k7, 420, .inr (.inl f7))), (q5, .inl (k5, 18, .inl f5)), (q6, .inl (k6, 18, .inl f6))] sz) [sO hs q1 q2 q7 q5 q6 u.2.2.2.2.2.1 u.2.2.2.2.2.2.1 u.2.2.2.2.2.2.2, (q1, .inl (k1, 420, .inl u.1)), (q2, .inl (k2, 420, .inl u.2.1)), (q7, .inl (k7, 420, .inr (.inl u.2.2.1))), (q5, .inl (k5, 18, .inl u.2.2.2.1)), (q6, .inl (k6, 18, .inl u.2.2.2.2.1))]) (va_A [sO hs q1 q2 q7 q5 q6 bY bN fd, (q1, .inl (k1, 420, .inl f1)), (q2, .inl (k2, 420, .inl f2)), (q7, .inl (k7, 420, .inr (.inl f7))), (q5, .inl (k5, 18, .inl f5)), (q6, .inl (k6, 18, .inl f6))] sz)) 0 0 (va_A [sO hs q1 q2 q7 q5 q6 bY bN fd, (q1, .inl (k1, 420, .inl f1)), (q2, .inl (k2, 420, .inl f2)), (q7, .inl (k7, 420, .inr (.inl f7))), (q5, .inl (k5, 18, .inl f5)), (q6, .inl (k6, 18, .inl f6))] sz) := by
  refine Met.ofW (cc := cX2_leastFrom) (maxL := 7) (ret := (some .int)) (by decide) rfl ?_
  intro p e s m args below meth c s₁ B hml hv
  obtain ⟨rfl, hsz, hP, hK, hD0⟩ := hv
  have hx := B.exec
  have hb := B.bytes
  have hr := B.returns
  have hts := atoms_spec (ws := wsX2_leastFrom) B.pre
  have htA : ∀ w ∈ wsA, w.before _ s = true := fun w h => hts w (List.mem_cons_of_mem _ h)
  have hown : s.vm.findClass RX2 = some m.cls := findClass_of_methodNamed B.named
  have hlocks := B.notSynchronized
  subst hsz
  have hD := hD0.self (sz := s.heap.size)
  generalize hAe : va_A [sO hs q1 q2 q7 q5 q6 bY bN fd, (q1, .inl (k1, 420, .inl f1)), (q2, .inl (k2, 420, .inl f2)), (q7, .inl (k7, 420, .inr (.inl f7))), (q5, .inl (k5, 18, .inl f5)), (q6, .inl (k6, 18, .inl f6))] s.heap.size = A at hD ⊢
  have hA : ∀ q : Nat, s.heap.size ≤ q → A q := fun q h => by rw [← hAe]; exact Or.inr h
  have hS : va_S A s.heap s.heap [] := va_S.rf
  have hP : va_P (dC, dI) vwCl [sO hs q1 q2 q7 q5 q6 bY bN fd, (q1, .inl (k1, 420, .inl f1)), (q2, .inl (k2, 420, .inl f2)), (q7, .inl (k7, 420, .inr (.inl f7))), (q5, .inl (k5, 18, .inl f5)), (q6, .inl (k6, 18, .inl f6))] s.heap := hP
  have hl := lv_entry ([.ref hs, .int (nI st), .int (nI rows)]) (n := 7) (Nat.le_of_ble_eq_true rfl)
  rw [lg_entry_eq]
  generalize (lg_sl ([.ref hs, .int (nI st), .int (nI rows)]) ++ List.replicate (7 - (lg_sl ([.ref hs, .int (nI st), .int (nI rows)])).length) Slot.unset).toArray = ls at hl ⊢
  have hl : lv_has ls 7 [(0, .ref hs), (1, .int (nI st)), (2, .int (nI rows))] := hl
  refine lv_iload_n hx hb dX2_leastFrom_0 rfl (lv_at hl 1 rfl) ?_
  refine lv_ldc (own := RX2) (v := 262143) hx hb hown (htA _ lkX2_37) dX2_leastFrom_1 ?_
  refine lv_icmp_le (tgt := 8) hx hb dX2_leastFrom_3 (by decide) (fun cb_48 => ?_) (fun cb_48 => ?_)
  · have hst2 : st < 262144 := by
      rcases Nat.lt_or_ge st 262144 with q | q
      · exact q
      · exact absurd cb_48 (nI_ge (a := 262143) (show 262143 < st by omega) (by omega))
    refine lv_aload_n hx hb dX2_leastFrom_8 rfl (lv_at hl 0 rfl) ?_
    refine lv_iload_n hx hb dX2_leastFrom_9 rfl (lv_at hl 1 rfl) ?_
    have hPc := hP.sub (ws' := [sO hs q1 q2 q7 q5 q6 bY bN fd, (q5, .inl (k5, 18, .inl f5)), (q6, .inl (k6, 18, .inl f6))]) [0, 4, 5] rfl
    have hDc := hD.sub (ws' := [sO hs q1 q2 q7 q5 q6 bY bN fd, (q5, .inl (k5, 18, .inl f5)), (q6, .inl (k6, 18, .inl f6))]) [0, 4, 5] (by decide) rfl
    have hKc := hK.sub (tys' := [(k5, .int), (k6, .int)]) [3, 4] rfl
    have hFc := va_free (wc := [sO hs q1 q2 q7 q5 q6 bY bN fd, (q5, .inl (k5, 18, .inl f5)), (q6, .inl (k6, 18, .inl f6))]) hD hS hA [0, 4, 5] rfl
    refine va_callv (va_runV (As := [.int (nI st)]) (rest := []) ⟨hx, hb, hml, hown, htA⟩ (c_giveReasons l dC dI hs q1 q2 q7 q5 q6 k5 k6 f5 f6 bY bN fd st s.heap.size) (cwV 1 htA gX2_38 rfl rfl rfl (by decide +kernel) ⟨Nat.le_of_ble_eq_true rfl, Nat.le_of_ble_eq_true rfl⟩) ⟨fun a U g mk q => by obtain ⟨q0, q1, qP, qK, qD⟩ := q; exact ⟨q0, q1, qP, va_K.moved (u := U) (U := U.calling g mk a) (Vm.Alike.refl U.vm) qK, qD⟩, va_recv hKc hPc (ci := 2) (q0 := 0) rfl rfl, fun U hU hW => ⟨rfl, by rw [hU], by rw [hU]; exact hPc, va_K.moved hW.alike hKc, hDc.weaken (fun _ _ _ _ => trivial)⟩⟩ rfl rfl hl.1 rfl (lv_room (Nat.le_of_ble_eq_true rfl)) dX2_leastFrom_10 ⟨Nat.zero_le _, Nat.zero_le _⟩) hS (fun q _ h => hFc q h) hFc (fun u t H1 locs ht hvm hw hB hz1 hk1 hS => ?_)
    obtain ⟨g5, g6⟩ := u
    obtain ⟨hP1, hK1, hD1⟩ := hB
    rw [ht] at hP1
    try dsimp only at hw hP1 hD1
    obtain ⟨hP, hD⟩ := va_join (wr := [(q1, .inl (k1, 420, .inl f1)), (q2, .inl (k2, 420, .inl f2)), (q7, .inl (k7, 420, .inr (.inl f7)))]) (w1 := [sO hs q1 q2 q7 q5 q6 bY bN fd, (q5, .inl (k5, 18, .inl g5)), (q6, .inl (k6, 18, .inl g6))]) hP hD [0, 4, 5] [1, 2, 3] rfl rfl (by decide) (by decide) hk1 hFc hP1 hD1
    generalize H1 = H at hP hS ⊢
    have hP : va_P (dC, dI) vwCl [sO hs q1 q2 q7 q5 q6 bY bN fd, (q1, .inl (k1, 420, .inl f1)), (q2, .inl (k2, 420, .inl f2)), (q7, .inl (k7, 420, .inr (.inl f7))), (q5, .inl (k5, 18, .inl g5)), (q6, .inl (k6, 18, .inl g6))] H := hP.sub [3, 0, 1, 2, 4, 5] rfl
    have hD : va_D A [sO hs q1 q2 q7 q5 q6 bY bN fd, (q1, .inl (k1, 420, .inl f1)), (q2, .inl (k2, 420, .inl f2)), (q7, .inl (k7, 420, .inr (.inl f7))), (q5, .inl (k5, 18, .inl g5)), (q6, .inl (k6, 18, .inl g6))] := hD.sub [3, 0, 1, 2, 4, 5] (by decide) rfl
    have hG0 : yGR (fun a => st ≤ a ∧ a < 262144 ∧ ∀ j, j < rows → scl (f1 j) (f2 j) (f7 j) a) g5 g6 := yGR_start hst2 (fun a ha => ⟨ha.1, ha.2.1⟩) hw
    have hR0 : yRI (fun a => st ≤ a ∧ a < 262144 ∧ ∀ j, j < rows → scl (f1 j) (f2 j) (f7 j) a) (64 * (st / 64)) g5 g6 := yRI_block hst2 (fun a ha => ⟨ha.1, ha.2.1⟩) hw
    refine lv_aload_n hx hb dX2_leastFrom_13 rfl (lv_at hl 0 rfl) ?_
    refine lv_iload_n hx hb dX2_leastFrom_14 rfl (lv_at hl 2 rfl) ?_
    refine lv_ldc (own := RX2) (v := 262080) hx hb hown (htA _ lkX2_28) dX2_leastFrom_15 ?_
    refine lv_iload_n hx hb dX2_leastFrom_17 rfl (lv_at hl 1 rfl) ?_
    refine lv_iconst (v := (-1)) hx hb dX2_leastFrom_18 (by decide) ?_
    refine lv_ixor hx hb dX2_leastFrom_19 ?_
    refine lv_iand hx hb dX2_leastFrom_20 ?_
    refine lv_iconst (v := 0) hx hb dX2_leastFrom_21 (by decide) ?_
    refine lv_ldc2 (own := RX2) (v := (-1)) hx hb hown (htA _ lkX2_42) dX2_leastFrom_22 ?_
    refine lv_iload_n hx hb dX2_leastFrom_25 rfl (lv_at hl 1 rfl) ?_
    refine lv_bipush (v := 63) hx hb dX2_leastFrom_26 (by decide) ?_
    refine lv_iand hx hb dX2_leastFrom_28 ?_
    refine W.eq (g2 := F0 m 29 ls [.int (nI (st % 64)), .long (-1), .int 0, .int (262080 &&& ((nI st) ^^^ (-1))), .int (nI rows), .ref hs]) (by rw [pk_andN (n := st) (m := 63) (by omega) 6 (by decide)]) ?_
    refine lv_lshl (v := (-1 : Int64) <<< ((nI (st % 64)).toInt64 &&& 63)) hx hb dX2_leastFrom_29 rfl ?_
    have hPc := hP.sub (ws' := [sO hs q1 q2 q7 q5 q6 bY bN fd, (q1, .inl (k1, 420, .inl f1)), (q2, .inl (k2, 420, .inl f2)), (q7, .inl (k7, 420, .inr (.inl f7)))]) [0, 1, 2, 3] rfl
    have hDc := hD.sub (ws' := [sO hs q1 q2 q7 q5 q6 bY bN fd, (q1, .inl (k1, 420, .inl f1)), (q2, .inl (k2, 420, .inl f2)), (q7, .inl (k7, 420, .inr (.inl f7)))]) [0, 1, 2, 3] (by decide) rfl
    have hKc := hK.sub (tys' := [(k1, .int), (k2, .int), (k7, .long)]) [0, 1, 2] rfl
    have hFc := va_free (wc := [sO hs q1 q2 q7 q5 q6 bY bN fd, (q1, .inl (k1, 420, .inl f1)), (q2, .inl (k2, 420, .inl f2)), (q7, .inl (k7, 420, .inr (.inl f7)))]) hD hS hA [0, 1, 2, 3] rfl
    refine va_callv (va_runV (As := [.int (nI rows), .int (262080 &&& ((nI st) ^^^ (-1))), .int 0, .long ((-1 : Int64) <<< ((nI (st % 64)).toInt64 &&& 63))]) (rest := []) ⟨hx, hb, hml, hown, htA⟩ (c_writeParts l dC dI hs q1 q2 q7 q5 q6 k1 k2 k7 f1 f2 f7 bY bN fd rows (262080 &&& ((nI st) ^^^ (-1))) 0 ((-1 : Int64) <<< ((nI (st % 64)).toInt64 &&& 63)) H.size hrows) (cwV 4 htA gX2_33 rfl rfl rfl (by decide +kernel) ⟨Nat.le_of_ble_eq_true rfl, Nat.le_of_ble_eq_true rfl⟩) ⟨fun a U g mk q => by obtain ⟨q0, q1, qP, qK, qD⟩ := q; exact ⟨q0, q1, qP, va_K.moved (u := U) (U := U.calling g mk a) (Vm.Alike.refl U.vm) qK, qD⟩, va_recv hKc hPc (ci := 2) (q0 := 0) rfl rfl, fun U hU hW => ⟨rfl, by rw [hU], by rw [hU]; exact hPc, va_K.moved hW.alike hKc, hDc.weaken (fun _ _ _ _ => trivial)⟩⟩ rfl rfl hl.1 rfl (lv_room (Nat.le_of_ble_eq_true rfl)) dX2_leastFrom_30 ⟨Nat.zero_le _, Nat.zero_le _⟩) hS (fun q _ h => hFc q h) hFc (fun u t H1 locs ht hvm hw hB hz1 hk1 hS => ?_)
    obtain ⟨d1, d2, d7⟩ := u
    obtain ⟨hP1, hK1, hD1⟩ := hB
    rw [ht] at hP1
    try dsimp only at hw hP1 hD1
    obtain ⟨hP, hD⟩ := va_join (wr := [(q5, .inl (k5, 18, .inl g5)), (q6, .inl (k6, 18, .inl g6))]) (w1 := [sO hs q1 q2 q7 q5 q6 bY bN fd, (q1, .inl (k1, 420, .inl d1)), (q2, .inl (k2, 420, .inl d2)), (q7, .inl (k7, 420, .inr (.inl d7)))]) hP hD [0, 1, 2, 3] [4, 5] rfl rfl (by decide) (by decide) hk1 hFc hP1 hD1
    generalize H1 = H at hP hS ⊢
    have hP : va_P (dC, dI) vwCl [sO hs q1 q2 q7 q5 q6 bY bN fd, (q1, .inl (k1, 420, .inl d1)), (q2, .inl (k2, 420, .inl d2)), (q7, .inl (k7, 420, .inr (.inl d7))), (q5, .inl (k5, 18, .inl g5)), (q6, .inl (k6, 18, .inl g6))] H := hP.sub [2, 3, 4, 5, 0, 1] rfl
    have hD : va_D A [sO hs q1 q2 q7 q5 q6 bY bN fd, (q1, .inl (k1, 420, .inl d1)), (q2, .inl (k2, 420, .inl d2)), (q7, .inl (k7, 420, .inr (.inl d7))), (q5, .inl (k5, 18, .inl g5)), (q6, .inl (k6, 18, .inl g6))] := hD.sub [2, 3, 4, 5, 0, 1] (by decide) rfl
    obtain ⟨hd1, hd2, hd7⟩ := hw
    have hK9 : ∀ j, j < rows → d1 j = f1 j ∧ d2 j = f2 j ∧ d7 j = f7 j := fun j hj => by rw [hd1, hd2, hd7, pk_un (by omega), pk_un (by omega), pk_uLn (by omega)]; exact ⟨rfl, rfl, rfl⟩
    have hm2 : ∀ j, j < rows + 1 → yh (d1 j) ∧ yh (d2 j) := fun j hj => by
      by_cases e : j = rows
      · rw [hd1, hd2, e, pk_us, pk_us]; exact ⟨yh_andL _, yh_0⟩
      · rw [(hK9 j (by omega)).1, (hK9 j (by omega)).2.1]; exact hm j (by omega)
    have hP2 : ∀ a, a < 262144 → st / 64 ≤ a / 64 → ((∀ j, j < rows + 1 → scl (d1 j) (d2 j) (d7 j) a) ↔ st ≤ a ∧ (∀ j, j < rows → scl (f1 j) (f2 j) (f7 j) a)) := fun a h1 h2 => by
      rw [hd1, hd2, hd7, yRow, scl_start h1 h2, And.comm]
    have hGP : ∀ a, (fun a => st ≤ a ∧ a < 262144 ∧ ∀ j, j < rows → scl (f1 j) (f2 j) (f7 j) a) a → (∀ j, j < rows + 1 → scl (d1 j) (d2 j) (d7 j) a) := fun a ha => (hP2 a ha.2.1 (Nat.div_le_div_right ha.1)).mpr ⟨ha.1, ha.2.2⟩
    refine lv_aload_n hx hb dX2_leastFrom_33 rfl (lv_at hl 0 rfl) ?_
    refine lv_iload_n hx hb dX2_leastFrom_34 rfl (lv_at hl 2 rfl) ?_
    refine lv_iconst (v := 1) hx hb dX2_leastFrom_35 (by decide) ?_
    refine lv_iadd hx hb dX2_leastFrom_36 ?_
    refine W.eq (g2 := F0 m 37 ls [.int (nI (rows + 1)), .ref hs]) (by rw [nI_1]) ?_
    have hPc := hP.sub (ws' := [sO hs q1 q2 q7 q5 q6 bY bN fd, (q1, .inl (k1, 420, .inl d1)), (q2, .inl (k2, 420, .inl d2)), (q7, .inl (k7, 420, .inr (.inl d7)))]) [0, 1, 2, 3] rfl
    have hDc := hD.sub (ws' := [sO hs q1 q2 q7 q5 q6 bY bN fd, (q1, .inl (k1, 420, .inl d1)), (q2, .inl (k2, 420, .inl d2)), (q7, .inl (k7, 420, .inr (.inl d7)))]) [0, 1, 2, 3] (by decide) rfl
    have hKc := hK.sub (tys' := [(k1, .int), (k2, .int), (k7, .long)]) [0, 1, 2] rfl
    have hFc := va_free (wc := [sO hs q1 q2 q7 q5 q6 bY bN fd, (q1, .inl (k1, 420, .inl d1)), (q2, .inl (k2, 420, .inl d2)), (q7, .inl (k7, 420, .inr (.inl d7)))]) hD hS hA [0, 1, 2, 3] rfl
    refine va_calll (va_runV (As := [.int (nI (rows + 1))]) (rest := []) ⟨hx, hb, hml, hown, htA⟩ (c_goodByLow l dC dI hs q1 q2 q7 q5 q6 k1 k2 k7 d1 d2 d7 bY bN fd (rows + 1) H.size (by omega)) (cwV 1 htA gX2_44 rfl rfl rfl (by decide +kernel) ⟨Nat.le_of_ble_eq_true rfl, Nat.le_of_ble_eq_true rfl⟩) ⟨fun a U g mk q => by obtain ⟨q0, q1, qP, qK, qD⟩ := q; exact ⟨q0, q1, qP, va_K.moved (u := U) (U := U.calling g mk a) (Vm.Alike.refl U.vm) qK, qD⟩, va_recv hKc hPc (ci := 2) (q0 := 0) rfl rfl, fun U hU hW => ⟨rfl, by rw [hU], by rw [hU]; exact hPc, va_K.moved hW.alike hKc, hDc.weaken (fun _ _ _ _ => trivial)⟩⟩ rfl rfl hl.1 rfl (lv_room (Nat.le_of_ble_eq_true rfl)) dX2_leastFrom_37 ⟨Nat.zero_le _, Nat.zero_le _⟩) hS (fun q _ h => hFc q h) hFc (fun g0 u t H1 locs ht hvm hw hB hz1 hk1 hS => ?_)
    obtain ⟨hP1, hK1, hD1⟩ := hB
    rw [ht] at hP1
    try dsimp only at hw hP1 hD1
    obtain ⟨hP, hD⟩ := va_join (wr := [(q5, .inl (k5, 18, .inl g5)), (q6, .inl (k6, 18, .inl g6))]) (w1 := [sO hs q1 q2 q7 q5 q6 bY bN fd, (q1, .inl (k1, 420, .inl d1)), (q2, .inl (k2, 420, .inl d2)), (q7, .inl (k7, 420, .inr (.inl d7)))]) hP hD [0, 1, 2, 3] [4, 5] rfl rfl (by decide) (by decide) hk1 hFc hP1 hD1
    generalize H1 = H at hP hS ⊢
    have hP : va_P (dC, dI) vwCl [sO hs q1 q2 q7 q5 q6 bY bN fd, (q1, .inl (k1, 420, .inl d1)), (q2, .inl (k2, 420, .inl d2)), (q7, .inl (k7, 420, .inr (.inl d7))), (q5, .inl (k5, 18, .inl g5)), (q6, .inl (k6, 18, .inl g6))] H := hP.sub [2, 3, 4, 5, 0, 1] rfl
    have hD : va_D A [sO hs q1 q2 q7 q5 q6 bY bN fd, (q1, .inl (k1, 420, .inl d1)), (q2, .inl (k2, 420, .inl d2)), (q7, .inl (k7, 420, .inr (.inl d7))), (q5, .inl (k5, 18, .inl g5)), (q6, .inl (k6, 18, .inl g6))] := hD.sub [2, 3, 4, 5, 0, 1] (by decide) rfl
    have hg0 := hw
    refine lv_lstore_n (lv' := [(3, .long g0), (0, .ref hs), (1, .int (nI st)), (2, .int (nI rows))]) hx hb dX2_leastFrom_40 rfl hl (by decide) rfl (fun ls hl => ?_)
    refine lv_iload_n hx hb dX2_leastFrom_41 rfl (lv_at hl 2 rfl) ?_
    refine lv_ldc (own := RX2) (v := 262080) hx hb hown (htA _ lkX2_28) dX2_leastFrom_42 ?_
    refine lv_iand hx hb dX2_leastFrom_44 ?_
    refine W.eq (g2 := F0 m 45 ls [.int (nI (64 * (st / 64)))]) (by rw [y_stblk hst2]) ?_
    refine lv_istore (lv' := [(5, .int (nI (64 * (st / 64)))), (3, .long g0), (0, .ref hs), (1, .int (nI st)), (2, .int (nI rows))]) hx hb dX2_leastFrom_45 hl (by decide) rfl (fun ls hl => ?_)
    refine lv_iconst (v := 0) hx hb dX2_leastFrom_47 (by decide) ?_
    refine lv_istore (lv' := [(6, .int 0), (5, .int (nI (64 * (st / 64)))), (3, .long g0), (0, .ref hs), (1, .int (nI st)), (2, .int (nI rows))]) hx hb dX2_leastFrom_48 hl (by decide) rfl (fun ls hl => ?_)
    clear hw
    generalize hH0 : H = Hx at hP hS ⊢
    have loop : ∀ (fu k : Nat) (x5 : Int32) (g5 g6 : Nat → Int32) (y9 n9 : Int32) (fd9 : Int64), k ≤ 4096 → 4097 ≤ k + fu → yGR (fun a => st ≤ a ∧ a < 262144 ∧ ∀ j, j < rows → scl (f1 j) (f2 j) (f7 j) a) g5 g6 → ((x5 = -1 ∧ ∀ a, ¬ (fun a => st ≤ a ∧ a < 262144 ∧ ∀ j, j < rows → scl (f1 j) (f2 j) (f7 j) a) a) ∨ ∃ b, x5 = nI b ∧ b < 262144 ∧ b % 64 = 0 ∧ 64 * (st / 64) + 64 * k ≤ b ∧ yRI (fun a => st ≤ a ∧ a < 262144 ∧ ∀ j, j < rows → scl (f1 j) (f2 j) (f7 j) a) b g5 g6) → ∀ (H : Heap) (locs : List Loc), va_P (dC, dI) vwCl [sO hs q1 q2 q7 q5 q6 y9 n9 fd9, (q1, .inl (k1, 420, .inl d1)), (q2, .inl (k2, 420, .inl d2)), (q7, .inl (k7, 420, .inr (.inl d7))), (q5, .inl (k5, 18, .inl g5)), (q6, .inl (k6, 18, .inl g6))] H → va_D A [sO hs q1 q2 q7 q5 q6 y9 n9 fd9, (q1, .inl (k1, 420, .inl d1)), (q2, .inl (k2, 420, .inl d2)), (q7, .inl (k7, 420, .inr (.inl d7))), (q5, .inl (k5, 18, .inl g5)), (q6, .inl (k6, 18, .inl g6))] → va_S A s.heap H locs → ∀ (ls : Array Slot), lv_has ls 7 [(6, .int (nI k)), (5, .int x5), (3, .long g0), (0, .ref hs), (1, .int (nI st)), (2, .int (nI rows))] → W p l e (headSpec wsX2_leastFrom ({ frames := 2, cells := 0, slots := 0, locals := 55 })).room s m ([.ref hs, .int (nI st), .int (nI rows)] : List Value).toArray below meth c H locs 0 0 (MQ below (va_Qi (fun (r : Int32) (u : (Nat → Int32) × (Nat → Int32) × (Nat → Int64) × (Nat → Int32) × (Nat → Int32) × Int32 × Int32 × Int64) => yL (fun a => ∀ j, j < rows → scl (f1 j) (f2 j) (f7 j) a) st r ∧ (∀ j, j < rows → u.1 j = f1 j ∧ u.2.1 j = f2 j ∧ u.2.2.1 j = f7 j) ∧ ∀ c9, r = nI c9 → c9 < 262144 → ∀ k, k < 64 → (zb u.2.2.2.2.2.2.2 k = true ↔ st ≤ 64 * (c9 / 64) + k ∧ ∀ j, j < rows → scl (f1 j) (f2 j) (f7 j) (64 * (c9 / 64) + k))) (fun (u : (Nat → Int32) × (Nat → Int32) × (Nat → Int64) × (Nat → Int32) × (Nat → Int32) × Int32 × Int32 × Int64) (t : State) => va_P (dC, dI) vwCl [sO hs q1 q2 q7 q5 q6 u.2.2.2.2.2.1 u.2.2.2.2.2.2.1 u.2.2.2.2.2.2.2, (q1, .inl (k1, 420, .inl u.1)), (q2, .inl (k2, 420, .inl u.2.1)), (q7, .inl (k7, 420, .inr (.inl u.2.2.1))), (q5, .inl (k5, 18, .inl u.2.2.2.1)), (q6, .inl (k6, 18, .inl u.2.2.2.2.1))] t.heap ∧ va_K (dC, dI) vwCl [(k1, .int), (k2, .int), (k7, .long), (k5, .int), (k6, .int)] t ∧ va_D A [sO hs q1 q2 q7 q5 q6 u.2.2.2.2.2.1 u.2.2.2.2.2.2.1 u.2.2.2.2.2.2.2, (q1, .inl (k1, 420, .inl u.1)), (q2, .inl (k2, 420, .inl u.2.1)), (q7, .inl (k7, 420, .inr (.inl u.2.2.1))), (q5, .inl (k5, 18, .inl u.2.2.2.1)), (q6, .inl (k6, 18, .inl u.2.2.2.2.1))]) A) ([.ref hs, .int (nI st), .int (nI rows)] : List Value).toArray s 0 0 A) (F0 m 50 ls []) := by
      intro fu
      induction fu with
      | zero =>
        intro k x5 g5 g6 y9 n9 fd9 h1 h2
        exact absurd h2 (by omega)
      | succ fu ih =>
        intro k x5 g5 g6 y9 n9 fd9 hk hin hG hI H locs hP hD hS ls hl
        refine lv_iload hx hb dX2_leastFrom_50 (lv_at hl 0 rfl) ?_
        refine lv_sipush (v := 4096) hx hb dX2_leastFrom_52 (by decide) ?_
        refine lv_icmp_ge (tgt := 116) hx hb dX2_leastFrom_55 (by decide) (fun cb_51 => ?_) (fun cb_51 => ?_)
        · have hno : ∀ a, ¬ (fun a => st ≤ a ∧ a < 262144 ∧ ∀ j, j < rows → scl (f1 j) (f2 j) (f7 j) a) a := by
            rcases hI with ⟨h1, h2⟩ | ⟨b, h1, h2, h3, h4, h5⟩
            · exact h2
            · have : ¬ k < 4096 := fun q => absurd cb_51 (nI_ge (b := 4096) q (by omega))
              omega
          refine lv_iconst (v := (-1)) hx hb dX2_leastFrom_116 (by decide) ?_
          exact W.iret (v := (-1)) hx hb hr (fun t ht hW => ⟨⟨(-1), (d1, d2, d7, g5, g6, y9, n9, fd9), rfl, ⟨Or.inl ⟨rfl, fun a h1 h2 h3 => hno a ⟨h1, h2, h3⟩⟩, hK9, fun c9 hc9 hl9 => absurd hc9.symm (y_m1 (by omega))⟩, by rw [ht]; exact hP, va_K.moved hW.alike hK, hD⟩, hS.F ht⟩) hS.2.2 dX2_leastFrom_117
        · have hk2 : k < 4096 := by
            rcases Nat.lt_or_ge k 4096 with q | q
            · exact q
            · exact absurd (nI_le (a := 4096) q (by omega)) cb_51
          refine lv_iload hx hb dX2_leastFrom_58 (lv_at hl 1 rfl) ?_
          refine lv_iconst (v := (-1)) hx hb dX2_leastFrom_60 (by decide) ?_
          refine lv_icmp_eq (tgt := 116) hx hb dX2_leastFrom_61 (by decide) (fun cb_52 => ?_) (fun cb_52 => ?_)
          · have hno : ∀ a, ¬ (fun a => st ≤ a ∧ a < 262144 ∧ ∀ j, j < rows → scl (f1 j) (f2 j) (f7 j) a) a := by
              rcases hI with ⟨h1, h2⟩ | ⟨b, h1, h2, h3, h4, h5⟩
              · exact h2
              · exact absurd (h1.symm.trans cb_52) (y_m1 (by omega))
            refine lv_iconst (v := (-1)) hx hb dX2_leastFrom_116 (by decide) ?_
            exact W.iret (v := (-1)) hx hb hr (fun t ht hW => ⟨⟨(-1), (d1, d2, d7, g5, g6, y9, n9, fd9), rfl, ⟨Or.inl ⟨rfl, fun a h1 h2 h3 => hno a ⟨h1, h2, h3⟩⟩, hK9, fun c9 hc9 hl9 => absurd hc9.symm (y_m1 (by omega))⟩, by rw [ht]; exact hP, va_K.moved hW.alike hK, hD⟩, hS.F ht⟩) hS.2.2 dX2_leastFrom_117
          · obtain ⟨b, rfl, hbb, hb0, hbk, hR⟩ := hI.resolve_left (fun q => cb_52 q.1)
            refine lv_aload_n hx hb dX2_leastFrom_64 rfl (lv_at hl 3 rfl) ?_
            refine lv_aload_n hx hb dX2_leastFrom_65 rfl (lv_at hl 3 rfl) ?_
            refine lv_iload hx hb dX2_leastFrom_66 (lv_at hl 1 rfl) ?_
            refine lv_lload_n hx hb dX2_leastFrom_68 rfl (lv_at hl 2 rfl) ?_
            refine lv_iload_n hx hb dX2_leastFrom_69 rfl (lv_at hl 5 rfl) ?_
            refine lv_iconst (v := 1) hx hb dX2_leastFrom_70 (by decide) ?_
            refine lv_iadd hx hb dX2_leastFrom_71 ?_
            refine W.eq (g2 := F0 m 72 ls [.int (nI (rows + 1)), .long g0, .int (nI b), .ref hs, .ref hs]) (by rw [nI_1]) ?_
            have hPc := hP.sub (ws' := [sO hs q1 q2 q7 q5 q6 y9 n9 fd9, (q1, .inl (k1, 420, .inl d1)), (q2, .inl (k2, 420, .inl d2)), (q7, .inl (k7, 420, .inr (.inl d7)))]) [0, 1, 2, 3] rfl
            have hDc := hD.sub (ws' := [sO hs q1 q2 q7 q5 q6 y9 n9 fd9, (q1, .inl (k1, 420, .inl d1)), (q2, .inl (k2, 420, .inl d2)), (q7, .inl (k7, 420, .inr (.inl d7)))]) [0, 1, 2, 3] (by decide) rfl
            have hKc := hK.sub (tys' := [(k1, .int), (k2, .int), (k7, .long)]) [0, 1, 2] rfl
            have hFc := va_free (wc := [sO hs q1 q2 q7 q5 q6 y9 n9 fd9, (q1, .inl (k1, 420, .inl d1)), (q2, .inl (k2, 420, .inl d2)), (q7, .inl (k7, 420, .inr (.inl d7)))]) hD hS hA [0, 1, 2, 3] rfl
            refine va_calll (va_runV (As := [.int (nI b), .long g0, .int (nI (rows + 1))]) (rest := [.ref hs]) ⟨hx, hb, hml, hown, htA⟩ (c_goodInBlock l dC dI hs q1 q2 q7 q5 q6 k1 k2 k7 d1 d2 d7 y9 n9 fd9 b g0 (rows + 1) H.size (by omega) hb0 hm2 hg0) (cwV 3 htA gX2_48 rfl rfl rfl (by decide +kernel) ⟨Nat.le_of_ble_eq_true rfl, Nat.le_of_ble_eq_true rfl⟩) ⟨fun a U g mk q => by obtain ⟨q0, q1, qP, qK, qD⟩ := q; exact ⟨q0, q1, qP, va_K.moved (u := U) (U := U.calling g mk a) (Vm.Alike.refl U.vm) qK, qD⟩, va_recv hKc hPc (ci := 2) (q0 := 0) rfl rfl, fun U hU hW => ⟨rfl, by rw [hU], by rw [hU]; exact hPc, va_K.moved hW.alike hKc, hDc.weaken (fun _ _ _ _ => trivial)⟩⟩ rfl rfl hl.1 rfl (lv_room (Nat.le_of_ble_eq_true rfl)) dX2_leastFrom_72 ⟨Nat.zero_le _, Nat.zero_le _⟩) hS (fun q _ h => hFc q h) hFc (fun r8 u t H1 locs ht hvm hw hB hz1 hk1 hS => ?_)
            obtain ⟨y8, n8⟩ := u
            obtain ⟨hP1, hK1, hD1⟩ := hB
            rw [ht] at hP1
            try dsimp only at hw hP1 hD1
            obtain ⟨hP, hD⟩ := va_join (wr := [(q5, .inl (k5, 18, .inl g5)), (q6, .inl (k6, 18, .inl g6))]) (w1 := [sO hs q1 q2 q7 q5 q6 y8 n8 fd9, (q1, .inl (k1, 420, .inl d1)), (q2, .inl (k2, 420, .inl d2)), (q7, .inl (k7, 420, .inr (.inl d7)))]) hP hD [0, 1, 2, 3] [4, 5] rfl rfl (by decide) (by decide) hk1 hFc hP1 hD1
            generalize H1 = H at hP hS ⊢
            have hP : va_P (dC, dI) vwCl [sO hs q1 q2 q7 q5 q6 y8 n8 fd9, (q1, .inl (k1, 420, .inl d1)), (q2, .inl (k2, 420, .inl d2)), (q7, .inl (k7, 420, .inr (.inl d7))), (q5, .inl (k5, 18, .inl g5)), (q6, .inl (k6, 18, .inl g6))] H := hP.sub [2, 3, 4, 5, 0, 1] rfl
            have hD : va_D A [sO hs q1 q2 q7 q5 q6 y8 n8 fd9, (q1, .inl (k1, 420, .inl d1)), (q2, .inl (k2, 420, .inl d2)), (q7, .inl (k7, 420, .inr (.inl d7))), (q5, .inl (k5, 18, .inl g5)), (q6, .inl (k6, 18, .inl g6))] := hD.sub [2, 3, 4, 5, 0, 1] (by decide) rfl
            have hw8 := hw
            refine va_put (D := (dC, dI)) (ci := 2) (v := .long r8) (ty := .long) (C := RX2) (T := TX2) (N := 8) hx hb htA inX2 tyX2 tyX2_ok nX2 hown hK hP hD hS 0 rfl rfl 7 (by decide) (htA _ lkX2_52) (fun _ h9 => h9) rfl (by decide +kernel) rfl rfl (Nat.le_of_ble_eq_true rfl) dX2_leastFrom_75 (fun H locs hP hD hS => ?_)
            have hP : va_P (dC, dI) vwCl [sO hs q1 q2 q7 q5 q6 y8 n8 r8, (q1, .inl (k1, 420, .inl d1)), (q2, .inl (k2, 420, .inl d2)), (q7, .inl (k7, 420, .inr (.inl d7))), (q5, .inl (k5, 18, .inl g5)), (q6, .inl (k6, 18, .inl g6))] H := hP
            have hD : va_D A [sO hs q1 q2 q7 q5 q6 y8 n8 r8, (q1, .inl (k1, 420, .inl d1)), (q2, .inl (k2, 420, .inl d2)), (q7, .inl (k7, 420, .inr (.inl d7))), (q5, .inl (k5, 18, .inl g5)), (q6, .inl (k6, 18, .inl g6))] := hD
            refine lv_aload_n hx hb dX2_leastFrom_78 rfl (lv_at hl 3 rfl) ?_
            refine va_get (D := (dC, dI)) (ci := 2) (v := .long r8) (C := RX2) (T := TX2) (N := 8) hx hb htA inX2 hown hK hP 0 rfl rfl 7 (by decide) (htA _ lkX2_52) (fun _ h9 => h9) rfl dX2_leastFrom_79 ?_
            refine lv_lconst (v := 0) hx hb dX2_leastFrom_82 (by decide) ?_
            refine W.lcmp hx hb dX2_leastFrom_83 ?_
            refine lv_if_eq (tgt := 98) hx hb dX2_leastFrom_84 (by decide) (fun cb_53 => ?_) (fun cb_53 => ?_)
            · have hr0 : r8 = 0 := (lg_cmp_eq _ _).mp cb_53
              refine lv_aload_n hx hb dX2_leastFrom_98 rfl (lv_at hl 3 rfl) ?_
              refine lv_aload_n hx hb dX2_leastFrom_99 rfl (lv_at hl 3 rfl) ?_
              refine lv_iload hx hb dX2_leastFrom_100 (lv_at hl 1 rfl) ?_
              have hPc := hP.sub (ws' := [sO hs q1 q2 q7 q5 q6 y8 n8 r8, (q5, .inl (k5, 18, .inl g5)), (q6, .inl (k6, 18, .inl g6))]) [0, 4, 5] rfl
              have hDc := hD.sub (ws' := [sO hs q1 q2 q7 q5 q6 y8 n8 r8, (q5, .inl (k5, 18, .inl g5)), (q6, .inl (k6, 18, .inl g6))]) [0, 4, 5] (by decide) rfl
              have hKc := hK.sub (tys' := [(k5, .int), (k6, .int)]) [3, 4] rfl
              have hFc := va_free (wc := [sO hs q1 q2 q7 q5 q6 y8 n8 r8, (q5, .inl (k5, 18, .inl g5)), (q6, .inl (k6, 18, .inl g6))]) hD hS hA [0, 4, 5] rfl
              refine va_calli (va_runV (As := [.int (nI b)]) (rest := [.ref hs]) ⟨hx, hb, hml, hown, htA⟩ (c_leap l dC dI hs q1 q2 q7 q5 q6 k5 k6 g5 g6 y8 n8 r8 b (fun a => st ≤ a ∧ a < 262144 ∧ ∀ j, j < rows → scl (f1 j) (f2 j) (f7 j) a) H.size hbb hG hR (yLI_mono (hw8.1 hr0) hGP)) (cwV 1 htA gX2_62 rfl rfl rfl (by decide +kernel) ⟨Nat.le_of_ble_eq_true rfl, Nat.le_of_ble_eq_true rfl⟩) ⟨fun a U g mk q => by obtain ⟨q0, q1, qP, qK, qD⟩ := q; exact ⟨q0, q1, qP, va_K.moved (u := U) (U := U.calling g mk a) (Vm.Alike.refl U.vm) qK, qD⟩, va_recv hKc hPc (ci := 2) (q0 := 0) rfl rfl, fun U hU hW => ⟨rfl, by rw [hU], by rw [hU]; exact hPc, va_K.moved hW.alike hKc, hDc.weaken (fun _ _ _ _ => trivial)⟩⟩ rfl rfl hl.1 rfl (lv_room (Nat.le_of_ble_eq_true rfl)) dX2_leastFrom_102 ⟨Nat.zero_le _, Nat.zero_le _⟩) hS (fun q _ h => hFc q h) hFc (fun r7 u t H1 locs ht hvm hw hB hz1 hk1 hS => ?_)
              obtain ⟨j5, j6⟩ := u
              obtain ⟨hP1, hK1, hD1⟩ := hB
              rw [ht] at hP1
              try dsimp only at hw hP1 hD1
              obtain ⟨hP, hD⟩ := va_join (wr := [(q1, .inl (k1, 420, .inl d1)), (q2, .inl (k2, 420, .inl d2)), (q7, .inl (k7, 420, .inr (.inl d7)))]) (w1 := [sO hs q1 q2 q7 q5 q6 y8 n8 r8, (q5, .inl (k5, 18, .inl j5)), (q6, .inl (k6, 18, .inl j6))]) hP hD [0, 4, 5] [1, 2, 3] rfl rfl (by decide) (by decide) hk1 hFc hP1 hD1
              generalize H1 = H at hP hS ⊢
              have hP : va_P (dC, dI) vwCl [sO hs q1 q2 q7 q5 q6 y8 n8 r8, (q1, .inl (k1, 420, .inl d1)), (q2, .inl (k2, 420, .inl d2)), (q7, .inl (k7, 420, .inr (.inl d7))), (q5, .inl (k5, 18, .inl j5)), (q6, .inl (k6, 18, .inl j6))] H := hP.sub [3, 0, 1, 2, 4, 5] rfl
              have hD : va_D A [sO hs q1 q2 q7 q5 q6 y8 n8 r8, (q1, .inl (k1, 420, .inl d1)), (q2, .inl (k2, 420, .inl d2)), (q7, .inl (k7, 420, .inr (.inl d7))), (q5, .inl (k5, 18, .inl j5)), (q6, .inl (k6, 18, .inl j6))] := hD.sub [3, 0, 1, 2, 4, 5] (by decide) rfl
              obtain ⟨hG7, hI7⟩ := hw
              have hPc := hP.sub (ws' := [sO hs q1 q2 q7 q5 q6 y8 n8 r8, (q5, .inl (k5, 18, .inl j5)), (q6, .inl (k6, 18, .inl j6))]) [0, 4, 5] rfl
              have hDc := hD.sub (ws' := [sO hs q1 q2 q7 q5 q6 y8 n8 r8, (q5, .inl (k5, 18, .inl j5)), (q6, .inl (k6, 18, .inl j6))]) [0, 4, 5] (by decide) rfl
              have hKc := hK.sub (tys' := [(k5, .int), (k6, .int)]) [3, 4] rfl
              have hFc := va_free (wc := [sO hs q1 q2 q7 q5 q6 y8 n8 r8, (q5, .inl (k5, 18, .inl j5)), (q6, .inl (k6, 18, .inl j6))]) hD hS hA [0, 4, 5] rfl
              refine va_calli (va_runV (As := [.int r7]) (rest := []) ⟨hx, hb, hml, hown, htA⟩ (c_setBy l dC dI hs q1 q2 q7 q5 q6 k5 k6 j5 j6 y8 n8 r8 r7 b (fun a => st ≤ a ∧ a < 262144 ∧ ∀ j, j < rows → scl (f1 j) (f2 j) (f7 j) a) H.size hG7 hI7) (cwV 1 htA gX2_66 rfl rfl rfl (by decide +kernel) ⟨Nat.le_of_ble_eq_true rfl, Nat.le_of_ble_eq_true rfl⟩) ⟨fun a U g mk q => by obtain ⟨q0, q1, qP, qK, qD⟩ := q; exact ⟨q0, q1, qP, va_K.moved (u := U) (U := U.calling g mk a) (Vm.Alike.refl U.vm) qK, qD⟩, va_recv hKc hPc (ci := 2) (q0 := 0) rfl rfl, fun U hU hW => ⟨rfl, by rw [hU], by rw [hU]; exact hPc, va_K.moved hW.alike hKc, hDc.weaken (fun _ _ _ _ => trivial)⟩⟩ rfl rfl hl.1 rfl (lv_room (Nat.le_of_ble_eq_true rfl)) dX2_leastFrom_105 ⟨Nat.zero_le _, Nat.zero_le _⟩) hS (fun q _ h => hFc q h) hFc (fun r6 u t H1 locs ht hvm hw hB hz1 hk1 hS => ?_)
              obtain ⟨hP1, hK1, hD1⟩ := hB
              rw [ht] at hP1
              try dsimp only at hw hP1 hD1
              obtain ⟨hP, hD⟩ := va_join (wr := [(q1, .inl (k1, 420, .inl d1)), (q2, .inl (k2, 420, .inl d2)), (q7, .inl (k7, 420, .inr (.inl d7)))]) (w1 := [sO hs q1 q2 q7 q5 q6 y8 n8 r8, (q5, .inl (k5, 18, .inl j5)), (q6, .inl (k6, 18, .inl j6))]) hP hD [0, 4, 5] [1, 2, 3] rfl rfl (by decide) (by decide) hk1 hFc hP1 hD1
              generalize H1 = H at hP hS ⊢
              have hP : va_P (dC, dI) vwCl [sO hs q1 q2 q7 q5 q6 y8 n8 r8, (q1, .inl (k1, 420, .inl d1)), (q2, .inl (k2, 420, .inl d2)), (q7, .inl (k7, 420, .inr (.inl d7))), (q5, .inl (k5, 18, .inl j5)), (q6, .inl (k6, 18, .inl j6))] H := hP.sub [3, 0, 1, 2, 4, 5] rfl
              have hD : va_D A [sO hs q1 q2 q7 q5 q6 y8 n8 r8, (q1, .inl (k1, 420, .inl d1)), (q2, .inl (k2, 420, .inl d2)), (q7, .inl (k7, 420, .inr (.inl d7))), (q5, .inl (k5, 18, .inl j5)), (q6, .inl (k6, 18, .inl j6))] := hD.sub [3, 0, 1, 2, 4, 5] (by decide) rfl
              refine lv_istore (lv' := [(5, .int r6), (6, .int (nI k)), (3, .long g0), (0, .ref hs), (1, .int (nI st)), (2, .int (nI rows))]) hx hb dX2_leastFrom_108 hl (by decide) rfl (fun ls hl => ?_)
              refine lv_iinc (v := nI (k + 1)) (lv' := [(6, .int (nI (k + 1))), (5, .int r6), (3, .long g0), (0, .ref hs), (1, .int (nI st)), (2, .int (nI rows))]) hx hb dX2_leastFrom_110 hl (k := 1) rfl (nI_1 _) (by decide) rfl (fun ls hl => ?_)
              refine lv_goto (tgt := 50) hx hb dX2_leastFrom_113 (by decide) ?_
              refine ih (k + 1) r6 j5 j6 y8 n8 r8 (by omega) (by omega) hG7 ?_ _ _ hP hD hS ls (lv_sub hl [0, 1, 2, 3, 4, 5] rfl)
              rcases hw with h9 | ⟨c3, h1, h2, h3, h4, h5⟩
              · exact Or.inl h9
              · exact Or.inr ⟨c3, h1, h2, h4, by omega, h5⟩
            · have hne : ¬ r8 = 0 := fun q => cb_53 ((lg_cmp_eq _ _).mpr q)
              obtain ⟨t0, ht0, hy1, hy0⟩ := zb_lowest hne
              have hx8 : ∀ k, k < 64 → (zb r8 k = true ↔ st ≤ b + k ∧ (∀ j, j < rows → scl (f1 j) (f2 j) (f7 j) (b + k))) := fun k hk => (hw8.2 hne k hk).trans (hP2 (b + k) (by omega) (by omega))
              refine lv_iload hx hb dX2_leastFrom_87 (lv_at hl 1 rfl) ?_
              refine lv_aload_n hx hb dX2_leastFrom_89 rfl (lv_at hl 3 rfl) ?_
              refine va_get (D := (dC, dI)) (ci := 2) (v := .long r8) (C := RX2) (T := TX2) (N := 8) hx hb htA inX2 hown hK hP 0 rfl rfl 7 (by decide) (htA _ lkX2_52) (fun _ h9 => h9) rfl dX2_leastFrom_90 ?_
              have hPc := hP.sub (ws' := []) [] rfl
              have hDc := hD.sub (ws' := []) [] (by decide) rfl
              have hKc := hK.sub (tys' := []) [] rfl
              have hFc := va_free (wc := []) hD hS hA [] rfl
              refine va_calli (va_runS (As := [.long r8]) (rest := [.int (nI b)]) ⟨hx, hb, hml, hown, htA⟩ (c_ntz64 l dC dI r8 t0 H.size ht0 hy1 hy0) (va_cwS 1 htA gX2_56 rfl rfl rfl (by decide +kernel) ⟨Nat.le_of_ble_eq_true rfl, Nat.le_of_ble_eq_true rfl⟩) ⟨fun a U g mk q => by obtain ⟨q0, q1, qP, qK, qD⟩ := q; exact ⟨q0, q1, qP, va_K.moved (u := U) (U := U.calling g mk a) (Vm.Alike.refl U.vm) qK, qD⟩, fun U hU hW => ⟨rfl, by rw [hU], by rw [hU]; exact hPc, va_K.moved hW.alike hKc, hDc.weaken (fun _ _ _ _ => trivial)⟩⟩ rfl rfl hl.1 rfl (lv_room (Nat.le_of_ble_eq_true rfl)) dX2_leastFrom_93 ⟨Nat.zero_le _, Nat.zero_le _⟩) hS (fun q _ h => hFc q h) hFc (fun r7 u t H1 locs ht hvm hw hB hz1 hk1 hS => ?_)
              obtain ⟨hP1, hK1, hD1⟩ := hB
              rw [ht] at hP1
              try dsimp only at hw hP1 hD1
              obtain ⟨hP, hD⟩ := va_join (wr := [sO hs q1 q2 q7 q5 q6 y8 n8 r8, (q1, .inl (k1, 420, .inl d1)), (q2, .inl (k2, 420, .inl d2)), (q7, .inl (k7, 420, .inr (.inl d7))), (q5, .inl (k5, 18, .inl g5)), (q6, .inl (k6, 18, .inl g6))]) (w1 := []) hP hD [] [0, 1, 2, 3, 4, 5] rfl rfl (by decide) (by decide) hk1 hFc hP1 hD1
              generalize H1 = H at hP hS ⊢
              have hP : va_P (dC, dI) vwCl [sO hs q1 q2 q7 q5 q6 y8 n8 r8, (q1, .inl (k1, 420, .inl d1)), (q2, .inl (k2, 420, .inl d2)), (q7, .inl (k7, 420, .inr (.inl d7))), (q5, .inl (k5, 18, .inl g5)), (q6, .inl (k6, 18, .inl g6))] H := hP.sub [0, 1, 2, 3, 4, 5] rfl
              have hD : va_D A [sO hs q1 q2 q7 q5 q6 y8 n8 r8, (q1, .inl (k1, 420, .inl d1)), (q2, .inl (k2, 420, .inl d2)), (q7, .inl (k7, 420, .inr (.inl d7))), (q5, .inl (k5, 18, .inl g5)), (q6, .inl (k6, 18, .inl g6))] := hD.sub [0, 1, 2, 3, 4, 5] (by decide) rfl
              obtain rfl := hw
              refine lv_iadd hx hb dX2_leastFrom_96 ?_
              refine W.eq (g2 := F0 m 97 ls [.int (nI (b + t0))]) (by rw [nI_add]) ?_
              exact W.iret (v := nI (b + t0)) hx hb hr (fun t ht hW => ⟨⟨nI (b + t0), (d1, d2, d7, g5, g6, y8, n8, r8), rfl, ⟨yL_found hbb hb0 hR hx8 ht0 hy1 hy0, hK9, fun c9 hc9 hl9 k hk => by
                have e9 : b + t0 = c9 := (nI_eq (by omega) (by omega)).mp hc9
                rw [show 64 * (c9 / 64) = b by omega]
                exact hx8 k hk⟩, by rw [ht]; exact hP, va_K.moved hW.alike hK, hD⟩, hS.F ht⟩) hS.2.2 dX2_leastFrom_97
    exact loop 4097 0 (nI (64 * (st / 64))) g5 g6 bY bN fd (by omega) (by omega) hG0 (Or.inr ⟨64 * (st / 64), rfl, by omega, by omega, by omega, hR0⟩) _ _ hP hD hS ls (lv_sub hl [0, 1, 2, 3, 4, 5] rfl)
  · refine lv_iconst (v := (-1)) hx hb dX2_leastFrom_6 (by decide) ?_
    exact W.iret (v := (-1)) hx hb hr (fun t ht hW => ⟨⟨(-1), (f1, f2, f7, f5, f6, bY, bN, fd), rfl, ⟨Or.inl ⟨rfl, fun a h1 h2 => absurd (nI_le (b := 262143) (show st ≤ 262143 by omega) (by omega)) cb_48⟩, fun j _ => ⟨rfl, rfl, rfl⟩, fun c9 hc9 hl9 => absurd hc9.symm (y_m1 (by omega))⟩, by rw [ht]; exact hP, va_K.moved hW.alike hK, hD⟩, hS.F ht⟩) hS.2.2 dX2_leastFrom_7
set_option maxHeartbeats 4000000 in
set_option maxRecDepth 100000 in
theorem c_isSatisfied (l : Launch) (dC : Nat → ClassId) (dI : Nat → Nat → Nat) (h : Nat) (hs : Nat) (q1 : Nat) (q2 : Nat) (q7 : Nat) (q3 : Nat) (q4 : Nat) (q5 : Nat) (q6 : Nat) (k1 : ClassId) (k2 : ClassId) (k7 : ClassId) (k5 : ClassId) (k6 : ClassId) (f1 : Nat → Int32) (f2 : Nat → Int32) (f7 : Nat → Int64) (f5 : Nat → Int32) (f6 : Nat → Int32) (cc : Int32) (lv : Int32) (ac : Int32) (tc : Int32) (ty : Int32) (tn : Int32) (md : Int32) (bY : Int32) (bN : Int32) (fd : Int64) (rows : Nat) (sz : Nat) (hrows : rows < 420) (hm : ∀ j, j < rows → yh (f1 j) ∧ yh (f2 j)) : Met l yX0_isSatisfied wsX0_isSatisfied ({ frames := 3, cells := 0, slots := 0, locals := 85 }) (va_Pc [.ref h, .int (nI rows)] (fun U => U.heap.size = sz ∧ va_P (dC, dI) vwCl [yO h hs q3 q4 cc lv ac tc ty tn md, sO hs q1 q2 q7 q5 q6 bY bN fd, (q1, .inl (k1, 420, .inl f1)), (q2, .inl (k2, 420, .inl f2)), (q7, .inl (k7, 420, .inr (.inl f7))), (q5, .inl (k5, 18, .inl f5)), (q6, .inl (k6, 18, .inl f6))] U.heap ∧ va_K (dC, dI) vwCl [(k1, .int), (k2, .int), (k7, .long), (k5, .int), (k6, .int)] U ∧ va_D (fun _ => True) [yO h hs q3 q4 cc lv ac tc ty tn md, sO hs q1 q2 q7 q5 q6 bY bN fd, (q1, .inl (k1, 420, .inl f1)), (q2, .inl (k2, 420, .inl f2)), (q7, .inl (k7, 420, .inr (.inl f7))), (q5, .inl (k5, 18, .inl f5)), (q6, .inl (k6, 18, .inl f6))])) (va_Qi (fun (r : Int32) (u : (Nat → Int32) × (Nat → Int32) × (Nat → Int64) × (Nat → Int32) × (Nat → Int32) × Int32 × Int32 × Int64) => ((r = 1 ∧ ∃ a, a < 262144 ∧ ∀ j, j < rows → scl (f1 j) (f2 j) (f7 j) a) ∨ (r = 0 ∧ ¬ ∃ a, a < 262144 ∧ ∀ j, j < rows → scl (f1 j) (f2 j) (f7 j) a)) ∧ (∀ j, j < rows → u.1 j = f1 j ∧ u.2.1 j = f2 j ∧ u.2.2.1 j = f7 j)) (fun (u : (Nat → Int32) × (Nat → Int32) × (Nat → Int64) × (Nat → Int32) × (Nat → Int32) × Int32 × Int32 × Int64) (t : State) => va_P (dC, dI) vwCl [yO h hs q3 q4 cc lv ac tc ty tn md, sO hs q1 q2 q7 q5 q6 u.2.2.2.2.2.1 u.2.2.2.2.2.2.1 u.2.2.2.2.2.2.2, (q1, .inl (k1, 420, .inl u.1)), (q2, .inl (k2, 420, .inl u.2.1)), (q7, .inl (k7, 420, .inr (.inl u.2.2.1))), (q5, .inl (k5, 18, .inl u.2.2.2.1)), (q6, .inl (k6, 18, .inl u.2.2.2.2.1))] t.heap ∧ va_K (dC, dI) vwCl [(k1, .int), (k2, .int), (k7, .long), (k5, .int), (k6, .int)] t ∧ va_D (va_A [yO h hs q3 q4 cc lv ac tc ty tn md, sO hs q1 q2 q7 q5 q6 bY bN fd, (q1, .inl (k1, 420, .inl f1)), (q2, .inl (k2, 420, .inl f2)), (q7, .inl (k7, 420, .inr (.inl f7))), (q5, .inl (k5, 18, .inl f5)), (q6, .inl (k6, 18, .inl f6))] sz) [yO h hs q3 q4 cc lv ac tc ty tn md, sO hs q1 q2 q7 q5 q6 u.2.2.2.2.2.1 u.2.2.2.2.2.2.1 u.2.2.2.2.2.2.2, (q1, .inl (k1, 420, .inl u.1)), (q2, .inl (k2, 420, .inl u.2.1)), (q7, .inl (k7, 420, .inr (.inl u.2.2.1))), (q5, .inl (k5, 18, .inl u.2.2.2.1)), (q6, .inl (k6, 18, .inl u.2.2.2.2.1))]) (va_A [yO h hs q3 q4 cc lv ac tc ty tn md, sO hs q1 q2 q7 q5 q6 bY bN fd, (q1, .inl (k1, 420, .inl f1)), (q2, .inl (k2, 420, .inl f2)), (q7, .inl (k7, 420, .inr (.inl f7))), (q5, .inl (k5, 18, .inl f5)), (q6, .inl (k6, 18, .inl f6))] sz)) 0 0 (va_A [yO h hs q3 q4 cc lv ac tc ty tn md, sO hs q1 q2 q7 q5 q6 bY bN fd, (q1, .inl (k1, 420, .inl f1)), (q2, .inl (k2, 420, .inl f2)), (q7, .inl (k7, 420, .inr (.inl f7))), (q5, .inl (k5, 18, .inl f5)), (q6, .inl (k6, 18, .inl f6))] sz) := by
  refine Met.ofW (cc := cX0_isSatisfied) (maxL := 2) (ret := (some .boolean)) (by decide) rfl ?_
  intro p e s m args below meth c s₁ B hml hv
  obtain ⟨rfl, hsz, hP, hK, hD0⟩ := hv
  have hx := B.exec
  have hb := B.bytes
  have hr := B.returns
  have hts := atoms_spec (ws := wsX0_isSatisfied) B.pre
  have htA : ∀ w ∈ wsA, w.before _ s = true := fun w h => hts w (List.mem_cons_of_mem _ h)
  have hown : s.vm.findClass RX0 = some m.cls := findClass_of_methodNamed B.named
  have hlocks := B.notSynchronized
  subst hsz
  have hD := hD0.self (sz := s.heap.size)
  generalize hAe : va_A [yO h hs q3 q4 cc lv ac tc ty tn md, sO hs q1 q2 q7 q5 q6 bY bN fd, (q1, .inl (k1, 420, .inl f1)), (q2, .inl (k2, 420, .inl f2)), (q7, .inl (k7, 420, .inr (.inl f7))), (q5, .inl (k5, 18, .inl f5)), (q6, .inl (k6, 18, .inl f6))] s.heap.size = A at hD ⊢
  have hA : ∀ q : Nat, s.heap.size ≤ q → A q := fun q h => by rw [← hAe]; exact Or.inr h
  have hS : va_S A s.heap s.heap [] := va_S.rf
  have hP : va_P (dC, dI) vwCl [yO h hs q3 q4 cc lv ac tc ty tn md, sO hs q1 q2 q7 q5 q6 bY bN fd, (q1, .inl (k1, 420, .inl f1)), (q2, .inl (k2, 420, .inl f2)), (q7, .inl (k7, 420, .inr (.inl f7))), (q5, .inl (k5, 18, .inl f5)), (q6, .inl (k6, 18, .inl f6))] s.heap := hP
  have hl := lv_entry ([.ref h, .int (nI rows)]) (n := 2) (Nat.le_of_ble_eq_true rfl)
  rw [lg_entry_eq]
  generalize (lg_sl ([.ref h, .int (nI rows)]) ++ List.replicate (2 - (lg_sl ([.ref h, .int (nI rows)])).length) Slot.unset).toArray = ls at hl ⊢
  have hl : lv_has ls 2 [(0, .ref h), (1, .int (nI rows))] := hl
  refine lv_aload_n hx hb dX0_isSatisfied_0 rfl (lv_at hl 0 rfl) ?_
  refine va_get (D := (dC, dI)) (ci := 0) (v := .ref hs) (C := RX0) (T := TX0) (N := 10) hx hb htA inX0 hown hK hP 0 rfl rfl 0 (by decide) (htA _ lkX0_12) (fun _ h9 => h9) rfl dX0_isSatisfied_1 ?_
  refine lv_iconst (v := 0) hx hb dX0_isSatisfied_4 (by decide) ?_
  refine lv_iload_n hx hb dX0_isSatisfied_5 rfl (lv_at hl 1 rfl) ?_
  refine W.eq (g2 := F0 m 6 ls [.int (nI rows), .int (nI 0), .ref hs]) (by rw [nI_0]) ?_
  have hPc := hP.sub (ws' := [sO hs q1 q2 q7 q5 q6 bY bN fd, (q1, .inl (k1, 420, .inl f1)), (q2, .inl (k2, 420, .inl f2)), (q7, .inl (k7, 420, .inr (.inl f7))), (q5, .inl (k5, 18, .inl f5)), (q6, .inl (k6, 18, .inl f6))]) [1, 2, 3, 4, 5, 6] rfl
  have hDc := hD.sub (ws' := [sO hs q1 q2 q7 q5 q6 bY bN fd, (q1, .inl (k1, 420, .inl f1)), (q2, .inl (k2, 420, .inl f2)), (q7, .inl (k7, 420, .inr (.inl f7))), (q5, .inl (k5, 18, .inl f5)), (q6, .inl (k6, 18, .inl f6))]) [1, 2, 3, 4, 5, 6] (by decide) rfl
  have hKc := hK.sub (tys' := [(k1, .int), (k2, .int), (k7, .long), (k5, .int), (k6, .int)]) [0, 1, 2, 3, 4] rfl
  have hFc := va_free (wc := [sO hs q1 q2 q7 q5 q6 bY bN fd, (q1, .inl (k1, 420, .inl f1)), (q2, .inl (k2, 420, .inl f2)), (q7, .inl (k7, 420, .inr (.inl f7))), (q5, .inl (k5, 18, .inl f5)), (q6, .inl (k6, 18, .inl f6))]) hD hS hA [1, 2, 3, 4, 5, 6] rfl
  refine va_calli (va_runV (As := [.int (nI 0), .int (nI rows)]) (rest := []) ⟨hx, hb, hml, hown, htA⟩ (c_leastFrom l dC dI hs q1 q2 q7 q5 q6 k1 k2 k7 k5 k6 f1 f2 f7 f5 f6 bY bN fd 0 rows s.heap.size (by omega) hrows hm) (cwV 2 htA gX0_83 rfl rfl rfl (by decide +kernel) ⟨Nat.le_of_ble_eq_true rfl, Nat.le_of_ble_eq_true rfl⟩) ⟨fun a U g mk q => by obtain ⟨q0, q1, qP, qK, qD⟩ := q; exact ⟨q0, q1, qP, va_K.moved (u := U) (U := U.calling g mk a) (Vm.Alike.refl U.vm) qK, qD⟩, va_recv hKc hPc (ci := 2) (q0 := 0) rfl rfl, fun U hU hW => ⟨rfl, by rw [hU], by rw [hU]; exact hPc, va_K.moved hW.alike hKc, hDc.weaken (fun _ _ _ _ => trivial)⟩⟩ rfl rfl hl.1 rfl (lv_room (Nat.le_of_ble_eq_true rfl)) dX0_isSatisfied_6 ⟨Nat.zero_le _, Nat.zero_le _⟩) hS (fun q _ h => hFc q h) hFc (fun r9 u t H1 locs ht hvm hw hB hz1 hk1 hS => ?_)
  obtain ⟨d1, d2, d7, d5, d6, y8, n8, fd8⟩ := u
  obtain ⟨hP1, hK1, hD1⟩ := hB
  rw [ht] at hP1
  try dsimp only at hw hP1 hD1
  obtain ⟨hP, hD⟩ := va_join (wr := [yO h hs q3 q4 cc lv ac tc ty tn md]) (w1 := [sO hs q1 q2 q7 q5 q6 y8 n8 fd8, (q1, .inl (k1, 420, .inl d1)), (q2, .inl (k2, 420, .inl d2)), (q7, .inl (k7, 420, .inr (.inl d7))), (q5, .inl (k5, 18, .inl d5)), (q6, .inl (k6, 18, .inl d6))]) hP hD [1, 2, 3, 4, 5, 6] [0] rfl rfl (by decide) (by decide) hk1 hFc hP1 hD1
  generalize H1 = H at hP hS ⊢
  have hP : va_P (dC, dI) vwCl [yO h hs q3 q4 cc lv ac tc ty tn md, sO hs q1 q2 q7 q5 q6 y8 n8 fd8, (q1, .inl (k1, 420, .inl d1)), (q2, .inl (k2, 420, .inl d2)), (q7, .inl (k7, 420, .inr (.inl d7))), (q5, .inl (k5, 18, .inl d5)), (q6, .inl (k6, 18, .inl d6))] H := hP.sub [0, 1, 2, 3, 4, 5, 6] rfl
  have hD : va_D A [yO h hs q3 q4 cc lv ac tc ty tn md, sO hs q1 q2 q7 q5 q6 y8 n8 fd8, (q1, .inl (k1, 420, .inl d1)), (q2, .inl (k2, 420, .inl d2)), (q7, .inl (k7, 420, .inr (.inl d7))), (q5, .inl (k5, 18, .inl d5)), (q6, .inl (k6, 18, .inl d6))] := hD.sub [0, 1, 2, 3, 4, 5, 6] (by decide) rfl
  refine lv_iconst (v := (-1)) hx hb dX0_isSatisfied_9 (by decide) ?_
  refine lv_icmp_eq (tgt := 17) hx hb dX0_isSatisfied_10 (by decide) (fun cb_54 => ?_) (fun cb_54 => ?_)
  · refine lv_iconst (v := 0) hx hb dX0_isSatisfied_17 (by decide) ?_
    exact W.zret (v := 0) (ty := .boolean) hx hb hr (by decide) (fun t ht hW => ⟨⟨0, (d1, d2, d7, d5, d6, y8, n8, fd8), rfl, ⟨Or.inr ⟨rfl, fun ⟨a, h1, h2⟩ => (yL_ne hw.1).mpr ⟨a, Nat.zero_le _, h1, h2⟩ cb_54⟩, hw.2.1⟩, by rw [ht]; exact hP, va_K.moved hW.alike hK, hD⟩, hS.F ht⟩) hS.2.2 dX0_isSatisfied_18
  · refine lv_iconst (v := 1) hx hb dX0_isSatisfied_13 (by decide) ?_
    refine lv_goto (tgt := 18) hx hb dX0_isSatisfied_14 (by decide) ?_
    exact W.zret (v := 1) (ty := .boolean) hx hb hr (by decide) (fun t ht hW => ⟨⟨1, (d1, d2, d7, d5, d6, y8, n8, fd8), rfl, ⟨Or.inl ⟨rfl, let ⟨a, _, h1, h2⟩ := (yL_ne hw.1).mp cb_54; ⟨a, h1, h2⟩⟩, hw.2.1⟩, by rw [ht]; exact hP, va_K.moved hW.alike hK, hD⟩, hS.F ht⟩) hS.2.2 dX0_isSatisfied_18
end
section
/-- one assumption more is written behind the rows -/
theorem yWA {cc i rows : Nat} {f1 f2 f4 g1 g2 d1 d2 : Nat → Int32} {f7 g7 d7 : Nat → Int64} {w : Int64} {lo : Int32} (hI : cc ≤ rows ∧ rows ≤ cc + i ∧ (∀ j, j < cc → g1 j = f1 j ∧ g2 j = f2 j ∧ g7 j = f7 j) ∧ (∀ j, j < rows → yh (g1 j) ∧ yh (g2 j)) ∧ (∀ a, (∀ j, j < rows → scl (g1 j) (g2 j) (g7 j) a) ↔ ((∀ j, j < cc → scl (f1 j) (f2 j) (f7 j) a) ∧ ∀ j, j < i → ¬ nI j = lo → ycl (yYes (f4 j)) (yNo (f4 j)) a))) (e1 : d1 = upd g1 rows (yYes (f4 i) &&& 262080)) (e2 : d2 = upd g2 rows (yNo (f4 i) &&& 262080)) (e7 : d7 = vp_updL g7 rows w) (hw : yLw 6 (yYes (f4 i)) (yNo (f4 i)) w) (hl : yLit (f4 i)) (hne : ¬ nI i = lo) : cc ≤ (rows + 1) ∧ (rows + 1) ≤ cc + (i + 1) ∧ (∀ j, j < cc → d1 j = f1 j ∧ d2 j = f2 j ∧ d7 j = f7 j) ∧ (∀ j, j < (rows + 1) → yh (d1 j) ∧ yh (d2 j)) ∧ (∀ a, (∀ j, j < (rows + 1) → scl (d1 j) (d2 j) (d7 j) a) ↔ ((∀ j, j < cc → scl (f1 j) (f2 j) (f7 j) a) ∧ ∀ j, j < (i + 1) → ¬ nI j = lo → ycl (yYes (f4 j)) (yNo (f4 j)) a)) := by
  obtain ⟨h1, h2, h3, h4, h5⟩ := hI
  subst e1
  subst e2
  subst e7
  refine ⟨by omega, by omega, fun j hj => ?_, fun j hj => ?_, fun a => ?_⟩
  · rw [pk_un (by omega), pk_un (by omega), pk_uLn (by omega)]; exact h3 j hj
  · by_cases e : j = rows
    · rw [e, pk_us, pk_us]; exact ⟨yh_and _, yh_and _⟩
    · rw [pk_un e, pk_un e]; exact h4 j (by omega)
  · rw [yRow, scl_split (yLit_m hl).1 (yLit_m hl).2 hw, h5 a]
    constructor
    · rintro ⟨⟨q1, q3⟩, q2⟩
      refine ⟨q1, fun j hj hn => ?_⟩
      by_cases e : j = i
      · rw [e]; exact q2
      · exact q3 j (by omega) hn
    · rintro ⟨q1, q2⟩
      exact ⟨⟨q1, fun j hj hn => q2 j (by omega) hn⟩, q2 i (by omega) hne⟩
set_option maxHeartbeats 4000000 in
set_option maxRecDepth 100000 in
theorem c_writeAssumptions (l : Launch) (dC : Nat → ClassId) (dI : Nat → Nat → Nat) (h : Nat) (hs : Nat) (q1 : Nat) (q2 : Nat) (q7 : Nat) (q3 : Nat) (q4 : Nat) (q5 : Nat) (q6 : Nat) (k1 : ClassId) (k2 : ClassId) (k7 : ClassId) (k4 : ClassId) (f1 : Nat → Int32) (f2 : Nat → Int32) (f7 : Nat → Int64) (f4 : Nat → Int32) (cc : Nat) (lv : Int32) (ac : Nat) (tc : Int32) (ty : Int32) (tn : Int32) (md : Int32) (bY : Int32) (bN : Int32) (fd : Int64) (lo : Int32) (sz : Nat) (hcc : cc ≤ 400) (hac : ac ≤ 18) (hm : ∀ j, j < cc → yh (f1 j) ∧ yh (f2 j)) (hlit : ∀ j, j < ac → yLit (f4 j)) : Met l yX0_writeAssumptions wsX0_writeAssumptions ({ frames := 2, cells := 0, slots := 0, locals := 55 }) (va_Pc [.ref h, .int lo] (fun U => U.heap.size = sz ∧ va_P (dC, dI) vwCl [yO h hs q3 q4 (nI cc) lv (nI ac) tc ty tn md, sO hs q1 q2 q7 q5 q6 bY bN fd, (q1, .inl (k1, 420, .inl f1)), (q2, .inl (k2, 420, .inl f2)), (q7, .inl (k7, 420, .inr (.inl f7))), (q4, .inl (k4, 18, .inl f4))] U.heap ∧ va_K (dC, dI) vwCl [(k1, .int), (k2, .int), (k7, .long), (k4, .int)] U ∧ va_D (fun _ => True) [yO h hs q3 q4 (nI cc) lv (nI ac) tc ty tn md, sO hs q1 q2 q7 q5 q6 bY bN fd, (q1, .inl (k1, 420, .inl f1)), (q2, .inl (k2, 420, .inl f2)), (q7, .inl (k7, 420, .inr (.inl f7))), (q4, .inl (k4, 18, .inl f4))] ∧ yStat (va_A [yO h hs q3 q4 (nI cc) lv (nI ac) tc ty tn md, sO hs q1 q2 q7 q5 q6 bY bN fd, (q1, .inl (k1, 420, .inl f1)), (q2, .inl (k2, 420, .inl f2)), (q7, .inl (k7, 420, .inr (.inl f7))), (q4, .inl (k4, 18, .inl f4))] sz) U U.heap)) (va_Qi (fun (r : Int32) (u : (Nat → Int32) × (Nat → Int32) × (Nat → Int64)) => ∃ rows, r = nI rows ∧ cc ≤ rows ∧ rows ≤ cc + ac ∧ (∀ j, j < cc → u.1 j = f1 j ∧ u.2.1 j = f2 j ∧ u.2.2 j = f7 j) ∧ (∀ j, j < rows → yh (u.1 j) ∧ yh (u.2.1 j)) ∧ (∀ a, (∀ j, j < rows → scl (u.1 j) (u.2.1 j) (u.2.2 j) a) ↔ ((∀ j, j < cc → scl (f1 j) (f2 j) (f7 j) a) ∧ ∀ j, j < ac → ¬ nI j = lo → ycl (yYes (f4 j)) (yNo (f4 j)) a))) (fun (u : (Nat → Int32) × (Nat → Int32) × (Nat → Int64)) (t : State) => va_P (dC, dI) vwCl [yO h hs q3 q4 (nI cc) lv (nI ac) tc ty tn md, sO hs q1 q2 q7 q5 q6 bY bN fd, (q1, .inl (k1, 420, .inl u.1)), (q2, .inl (k2, 420, .inl u.2.1)), (q7, .inl (k7, 420, .inr (.inl u.2.2))), (q4, .inl (k4, 18, .inl f4))] t.heap ∧ va_K (dC, dI) vwCl [(k1, .int), (k2, .int), (k7, .long), (k4, .int)] t ∧ va_D (va_A [yO h hs q3 q4 (nI cc) lv (nI ac) tc ty tn md, sO hs q1 q2 q7 q5 q6 bY bN fd, (q1, .inl (k1, 420, .inl f1)), (q2, .inl (k2, 420, .inl f2)), (q7, .inl (k7, 420, .inr (.inl f7))), (q4, .inl (k4, 18, .inl f4))] sz) [yO h hs q3 q4 (nI cc) lv (nI ac) tc ty tn md, sO hs q1 q2 q7 q5 q6 bY bN fd, (q1, .inl (k1, 420, .inl u.1)), (q2, .inl (k2, 420, .inl u.2.1)), (q7, .inl (k7, 420, .inr (.inl u.2.2))), (q4, .inl (k4, 18, .inl f4))]) (va_A [yO h hs q3 q4 (nI cc) lv (nI ac) tc ty tn md, sO hs q1 q2 q7 q5 q6 bY bN fd, (q1, .inl (k1, 420, .inl f1)), (q2, .inl (k2, 420, .inl f2)), (q7, .inl (k7, 420, .inr (.inl f7))), (q4, .inl (k4, 18, .inl f4))] sz)) 0 0 (va_A [yO h hs q3 q4 (nI cc) lv (nI ac) tc ty tn md, sO hs q1 q2 q7 q5 q6 bY bN fd, (q1, .inl (k1, 420, .inl f1)), (q2, .inl (k2, 420, .inl f2)), (q7, .inl (k7, 420, .inr (.inl f7))), (q4, .inl (k4, 18, .inl f4))] sz) := by
  refine Met.ofW (cc := cX0_writeAssumptions) (maxL := 4) (ret := (some .int)) (by decide) rfl ?_
  intro p e s m args below meth c s₁ B hml hv
  obtain ⟨rfl, hsz, hP, hK, hD0, hST⟩ := hv
  have hx := B.exec
  have hb := B.bytes
  have hr := B.returns
  have hts := atoms_spec (ws := wsX0_writeAssumptions) B.pre
  have htA : ∀ w ∈ wsA, w.before _ s = true := fun w h => hts w (List.mem_cons_of_mem _ h)
  have hown : s.vm.findClass RX0 = some m.cls := findClass_of_methodNamed B.named
  have hlocks := B.notSynchronized
  subst hsz
  have hD := hD0.self (sz := s.heap.size)
  generalize hAe : va_A [yO h hs q3 q4 (nI cc) lv (nI ac) tc ty tn md, sO hs q1 q2 q7 q5 q6 bY bN fd, (q1, .inl (k1, 420, .inl f1)), (q2, .inl (k2, 420, .inl f2)), (q7, .inl (k7, 420, .inr (.inl f7))), (q4, .inl (k4, 18, .inl f4))] s.heap.size = A at hD hST ⊢
  have hA : ∀ q : Nat, s.heap.size ≤ q → A q := fun q h => by rw [← hAe]; exact Or.inr h
  have hS : va_S A s.heap s.heap [] := va_S.rf
  have hP : va_P (dC, dI) vwCl [yO h hs q3 q4 (nI cc) lv (nI ac) tc ty tn md, sO hs q1 q2 q7 q5 q6 bY bN fd, (q1, .inl (k1, 420, .inl f1)), (q2, .inl (k2, 420, .inl f2)), (q7, .inl (k7, 420, .inr (.inl f7))), (q4, .inl (k4, 18, .inl f4))] s.heap := hP
  have hl := lv_entry ([.ref h, .int lo]) (n := 4) (Nat.le_of_ble_eq_true rfl)
  rw [lg_entry_eq]
  generalize (lg_sl ([.ref h, .int lo]) ++ List.replicate (4 - (lg_sl ([.ref h, .int lo])).length) Slot.unset).toArray = ls at hl ⊢
  have hl : lv_has ls 4 [(0, .ref h), (1, .int lo)] := hl
  refine lv_aload_n hx hb dX0_writeAssumptions_0 rfl (lv_at hl 0 rfl) ?_
  refine va_get (D := (dC, dI)) (ci := 0) (v := .int (nI cc)) (C := RX0) (T := TX0) (N := 10) hx hb htA inX0 hown hK hP 0 rfl rfl 3 (by decide) (htA _ lkX0_59) (fun _ h9 => h9) rfl dX0_writeAssumptions_1 ?_
  refine lv_istore_n (lv' := [(2, .int (nI cc)), (0, .ref h), (1, .int lo)]) hx hb dX0_writeAssumptions_4 rfl hl (by decide) rfl (fun ls hl => ?_)
  refine lv_iconst (v := 0) hx hb dX0_writeAssumptions_5 (by decide) ?_
  refine lv_istore_n (lv' := [(3, .int 0), (2, .int (nI cc)), (0, .ref h), (1, .int lo)]) hx hb dX0_writeAssumptions_6 rfl hl (by decide) rfl (fun ls hl => ?_)
  have loop : ∀ (fu i rows : Nat) (g1 g2 : Nat → Int32) (g7 : Nat → Int64), i ≤ ac → 19 ≤ i + fu → (cc ≤ rows ∧ rows ≤ cc + i ∧ (∀ j, j < cc → g1 j = f1 j ∧ g2 j = f2 j ∧ g7 j = f7 j) ∧ (∀ j, j < rows → yh (g1 j) ∧ yh (g2 j)) ∧ (∀ a, (∀ j, j < rows → scl (g1 j) (g2 j) (g7 j) a) ↔ ((∀ j, j < cc → scl (f1 j) (f2 j) (f7 j) a) ∧ ∀ j, j < i → ¬ nI j = lo → ycl (yYes (f4 j)) (yNo (f4 j)) a))) → ∀ (H : Heap) (locs : List Loc), va_P (dC, dI) vwCl [yO h hs q3 q4 (nI cc) lv (nI ac) tc ty tn md, sO hs q1 q2 q7 q5 q6 bY bN fd, (q1, .inl (k1, 420, .inl g1)), (q2, .inl (k2, 420, .inl g2)), (q7, .inl (k7, 420, .inr (.inl g7))), (q4, .inl (k4, 18, .inl f4))] H → va_D A [yO h hs q3 q4 (nI cc) lv (nI ac) tc ty tn md, sO hs q1 q2 q7 q5 q6 bY bN fd, (q1, .inl (k1, 420, .inl g1)), (q2, .inl (k2, 420, .inl g2)), (q7, .inl (k7, 420, .inr (.inl g7))), (q4, .inl (k4, 18, .inl f4))] → va_S A s.heap H locs → ∀ (ls : Array Slot), lv_has ls 4 [(3, .int (nI i)), (2, .int (nI rows)), (0, .ref h), (1, .int lo)] → W p l e (headSpec wsX0_writeAssumptions ({ frames := 2, cells := 0, slots := 0, locals := 55 })).room s m ([.ref h, .int lo] : List Value).toArray below meth c H locs 0 0 (MQ below (va_Qi (fun (r : Int32) (u : (Nat → Int32) × (Nat → Int32) × (Nat → Int64)) => ∃ rows, r = nI rows ∧ cc ≤ rows ∧ rows ≤ cc + ac ∧ (∀ j, j < cc → u.1 j = f1 j ∧ u.2.1 j = f2 j ∧ u.2.2 j = f7 j) ∧ (∀ j, j < rows → yh (u.1 j) ∧ yh (u.2.1 j)) ∧ (∀ a, (∀ j, j < rows → scl (u.1 j) (u.2.1 j) (u.2.2 j) a) ↔ ((∀ j, j < cc → scl (f1 j) (f2 j) (f7 j) a) ∧ ∀ j, j < ac → ¬ nI j = lo → ycl (yYes (f4 j)) (yNo (f4 j)) a))) (fun (u : (Nat → Int32) × (Nat → Int32) × (Nat → Int64)) (t : State) => va_P (dC, dI) vwCl [yO h hs q3 q4 (nI cc) lv (nI ac) tc ty tn md, sO hs q1 q2 q7 q5 q6 bY bN fd, (q1, .inl (k1, 420, .inl u.1)), (q2, .inl (k2, 420, .inl u.2.1)), (q7, .inl (k7, 420, .inr (.inl u.2.2))), (q4, .inl (k4, 18, .inl f4))] t.heap ∧ va_K (dC, dI) vwCl [(k1, .int), (k2, .int), (k7, .long), (k4, .int)] t ∧ va_D A [yO h hs q3 q4 (nI cc) lv (nI ac) tc ty tn md, sO hs q1 q2 q7 q5 q6 bY bN fd, (q1, .inl (k1, 420, .inl u.1)), (q2, .inl (k2, 420, .inl u.2.1)), (q7, .inl (k7, 420, .inr (.inl u.2.2))), (q4, .inl (k4, 18, .inl f4))]) A) ([.ref h, .int lo] : List Value).toArray s 0 0 A) (F0 m 7 ls []) := by
    intro fu
    induction fu with
    | zero =>
      intro i rows g1 g2 g7 h1 h2
      exact absurd h2 (by omega)
    | succ fu ih =>
      intro i rows g1 g2 g7 hi hin hI H locs hP hD hS ls hl
      have hrow : rows ≤ 418 := by have := hI.2.1; omega
      refine lv_iload_n hx hb dX0_writeAssumptions_7 rfl (lv_at hl 0 rfl) ?_
      refine lv_aload_n hx hb dX0_writeAssumptions_8 rfl (lv_at hl 2 rfl) ?_
      refine va_get (D := (dC, dI)) (ci := 0) (v := .int (nI ac)) (C := RX0) (T := TX0) (N := 10) hx hb htA inX0 hown hK hP 0 rfl rfl 5 (by decide) (htA _ lkX0_75) (fun _ h9 => h9) rfl dX0_writeAssumptions_9 ?_
      refine lv_icmp_ge (tgt := 61) hx hb dX0_writeAssumptions_12 (by decide) (fun cb_55 => ?_) (fun cb_55 => ?_)
      · have hie : i = ac := by
          rcases Nat.lt_or_ge i ac with q | q
          · exact absurd cb_55 (nI_ge q (by omega))
          · omega
        subst hie
        refine lv_iload_n hx hb dX0_writeAssumptions_61 rfl (lv_at hl 1 rfl) ?_
        exact W.iret (v := nI rows) hx hb hr (fun t ht hW => ⟨⟨nI rows, (g1, g2, g7), rfl, ⟨rows, rfl, hI⟩, by rw [ht]; exact hP, va_K.moved hW.alike hK, hD⟩, hS.F ht⟩) hS.2.2 dX0_writeAssumptions_62
      · have hia : i < ac := by
          rcases Nat.lt_or_ge i ac with q | q
          · exact q
          · exact absurd (nI_le q (by omega)) cb_55
        have hlt : i < 18 := by omega
        refine lv_iload_n hx hb dX0_writeAssumptions_15 rfl (lv_at hl 0 rfl) ?_
        refine lv_bipush (v := 18) hx hb dX0_writeAssumptions_16 (by decide) ?_
        refine lv_icmp_ge (tgt := 61) hx hb dX0_writeAssumptions_18 (by decide) (fun cb_56 => ?_) (fun cb_56 => ?_)
        · exact absurd cb_56 (nI_ge (b := 18) hlt (by omega))
        · refine lv_iload_n hx hb dX0_writeAssumptions_21 rfl (lv_at hl 0 rfl) ?_
          refine lv_iload_n hx hb dX0_writeAssumptions_22 rfl (lv_at hl 3 rfl) ?_
          refine lv_icmp_eq (tgt := 55) hx hb dX0_writeAssumptions_23 (by decide) (fun cb_57 => ?_) (fun cb_57 => ?_)
          · refine lv_iinc (v := nI (i + 1)) (lv' := [(3, .int (nI (i + 1))), (2, .int (nI rows)), (0, .ref h), (1, .int lo)]) hx hb dX0_writeAssumptions_55 hl (k := 0) rfl (nI_1 _) (by decide) rfl (fun ls hl => ?_)
            refine lv_goto (tgt := 7) hx hb dX0_writeAssumptions_58 (by decide) ?_
            refine ih (i + 1) rows g1 g2 g7 hia (by omega) ?_ _ _ hP hD hS ls (lv_sub hl [0, 1, 2, 3] rfl)
            obtain ⟨h1, h2, h3, h4, h5⟩ := hI
            refine ⟨h1, by omega, h3, h4, fun a => (h5 a).trans ⟨fun q => ⟨q.1, fun j hj hne => ?_⟩, fun q => ⟨q.1, fun j hj hne => q.2 j (by omega) hne⟩⟩⟩
            by_cases e : j = i
            · rw [e] at hne; exact absurd cb_57 hne
            · exact q.2 j (by omega) hne
          · refine lv_aload_n hx hb dX0_writeAssumptions_26 rfl (lv_at hl 2 rfl) ?_
            refine va_get (D := (dC, dI)) (ci := 0) (v := .ref hs) (C := RX0) (T := TX0) (N := 10) hx hb htA inX0 hown hK hP 0 rfl rfl 0 (by decide) (htA _ lkX0_12) (fun _ h9 => h9) rfl dX0_writeAssumptions_27 ?_
            refine lv_iload_n hx hb dX0_writeAssumptions_30 rfl (lv_at hl 1 rfl) ?_
            refine lv_aload_n hx hb dX0_writeAssumptions_31 rfl (lv_at hl 2 rfl) ?_
            refine va_get (D := (dC, dI)) (ci := 0) (v := .ref q4) (C := RX0) (T := TX0) (N := 10) hx hb htA inX0 hown hK hP 0 rfl rfl 2 (by decide) (htA _ lkX0_20) (fun _ h9 => h9) rfl dX0_writeAssumptions_32 ?_
            refine lv_iload_n hx hb dX0_writeAssumptions_35 rfl (lv_at hl 0 rfl) ?_
            refine yv_iald hx hb hK hP 5 3 rfl rfl (k := i) hlt (by decide) dX0_writeAssumptions_36 ?_
            have hPc := hP.sub (ws' := []) [] rfl
            have hDc := hD.sub (ws' := []) [] (by decide) rfl
            have hKc := hK.sub (tys' := []) [] rfl
            have hFc := va_free (wc := []) hD hS hA [] rfl
            refine va_calli (va_runS (As := [.int (f4 i)]) (rest := [.int (nI rows), .ref hs]) ⟨hx, hb, hml, hown, htA⟩ (c_yesMask l dC dI (f4 i) H.size) (va_cwS 1 htA gX0_49 rfl rfl rfl (by decide +kernel) ⟨Nat.le_of_ble_eq_true rfl, Nat.le_of_ble_eq_true rfl⟩) ⟨fun a U g mk q => by obtain ⟨q0, q1, qP, qK, qD⟩ := q; exact ⟨q0, q1, qP, va_K.moved (u := U) (U := U.calling g mk a) (Vm.Alike.refl U.vm) qK, qD⟩, fun U hU hW => ⟨rfl, by rw [hU], by rw [hU]; exact hPc, va_K.moved hW.alike hKc, hDc.weaken (fun _ _ _ _ => trivial)⟩⟩ rfl rfl hl.1 rfl (lv_room (Nat.le_of_ble_eq_true rfl)) dX0_writeAssumptions_37 ⟨Nat.zero_le _, Nat.zero_le _⟩) hS (fun q _ h => hFc q h) hFc (fun ry u t H1 locs ht hvm hw hB hz1 hk1 hS => ?_)
            obtain ⟨hP1, hK1, hD1⟩ := hB
            rw [ht] at hP1
            try dsimp only at hw hP1 hD1
            obtain ⟨hP, hD⟩ := va_join (wr := [yO h hs q3 q4 (nI cc) lv (nI ac) tc ty tn md, sO hs q1 q2 q7 q5 q6 bY bN fd, (q1, .inl (k1, 420, .inl g1)), (q2, .inl (k2, 420, .inl g2)), (q7, .inl (k7, 420, .inr (.inl g7))), (q4, .inl (k4, 18, .inl f4))]) (w1 := []) hP hD [] [0, 1, 2, 3, 4, 5] rfl rfl (by decide) (by decide) hk1 hFc hP1 hD1
            generalize H1 = H at hP hS ⊢
            have hP : va_P (dC, dI) vwCl [yO h hs q3 q4 (nI cc) lv (nI ac) tc ty tn md, sO hs q1 q2 q7 q5 q6 bY bN fd, (q1, .inl (k1, 420, .inl g1)), (q2, .inl (k2, 420, .inl g2)), (q7, .inl (k7, 420, .inr (.inl g7))), (q4, .inl (k4, 18, .inl f4))] H := hP.sub [0, 1, 2, 3, 4, 5] rfl
            have hD : va_D A [yO h hs q3 q4 (nI cc) lv (nI ac) tc ty tn md, sO hs q1 q2 q7 q5 q6 bY bN fd, (q1, .inl (k1, 420, .inl g1)), (q2, .inl (k2, 420, .inl g2)), (q7, .inl (k7, 420, .inr (.inl g7))), (q4, .inl (k4, 18, .inl f4))] := hD.sub [0, 1, 2, 3, 4, 5] (by decide) rfl
            obtain rfl := hw
            refine lv_aload_n hx hb dX0_writeAssumptions_40 rfl (lv_at hl 2 rfl) ?_
            refine va_get (D := (dC, dI)) (ci := 0) (v := .ref q4) (C := RX0) (T := TX0) (N := 10) hx hb htA inX0 hown hK hP 0 rfl rfl 2 (by decide) (htA _ lkX0_20) (fun _ h9 => h9) rfl dX0_writeAssumptions_41 ?_
            refine lv_iload_n hx hb dX0_writeAssumptions_44 rfl (lv_at hl 0 rfl) ?_
            refine yv_iald hx hb hK hP 5 3 rfl rfl (k := i) hlt (by decide) dX0_writeAssumptions_45 ?_
            have hPc := hP.sub (ws' := []) [] rfl
            have hDc := hD.sub (ws' := []) [] (by decide) rfl
            have hKc := hK.sub (tys' := []) [] rfl
            have hFc := va_free (wc := []) hD hS hA [] rfl
            refine va_calli (va_runS (As := [.int (f4 i)]) (rest := [.int (yYes (f4 i)), .int (nI rows), .ref hs]) ⟨hx, hb, hml, hown, htA⟩ (c_noMask l dC dI (f4 i) H.size) (va_cwS 1 htA gX0_56 rfl rfl rfl (by decide +kernel) ⟨Nat.le_of_ble_eq_true rfl, Nat.le_of_ble_eq_true rfl⟩) ⟨fun a U g mk q => by obtain ⟨q0, q1, qP, qK, qD⟩ := q; exact ⟨q0, q1, qP, va_K.moved (u := U) (U := U.calling g mk a) (Vm.Alike.refl U.vm) qK, qD⟩, fun U hU hW => ⟨rfl, by rw [hU], by rw [hU]; exact hPc, va_K.moved hW.alike hKc, hDc.weaken (fun _ _ _ _ => trivial)⟩⟩ rfl rfl hl.1 rfl (lv_room (Nat.le_of_ble_eq_true rfl)) dX0_writeAssumptions_46 ⟨Nat.zero_le _, Nat.zero_le _⟩) hS (fun q _ h => hFc q h) hFc (fun rn u t H1 locs ht hvm hw hB hz1 hk1 hS => ?_)
            obtain ⟨hP1, hK1, hD1⟩ := hB
            rw [ht] at hP1
            try dsimp only at hw hP1 hD1
            obtain ⟨hP, hD⟩ := va_join (wr := [yO h hs q3 q4 (nI cc) lv (nI ac) tc ty tn md, sO hs q1 q2 q7 q5 q6 bY bN fd, (q1, .inl (k1, 420, .inl g1)), (q2, .inl (k2, 420, .inl g2)), (q7, .inl (k7, 420, .inr (.inl g7))), (q4, .inl (k4, 18, .inl f4))]) (w1 := []) hP hD [] [0, 1, 2, 3, 4, 5] rfl rfl (by decide) (by decide) hk1 hFc hP1 hD1
            generalize H1 = H at hP hS ⊢
            have hP : va_P (dC, dI) vwCl [yO h hs q3 q4 (nI cc) lv (nI ac) tc ty tn md, sO hs q1 q2 q7 q5 q6 bY bN fd, (q1, .inl (k1, 420, .inl g1)), (q2, .inl (k2, 420, .inl g2)), (q7, .inl (k7, 420, .inr (.inl g7))), (q4, .inl (k4, 18, .inl f4))] H := hP.sub [0, 1, 2, 3, 4, 5] rfl
            have hD : va_D A [yO h hs q3 q4 (nI cc) lv (nI ac) tc ty tn md, sO hs q1 q2 q7 q5 q6 bY bN fd, (q1, .inl (k1, 420, .inl g1)), (q2, .inl (k2, 420, .inl g2)), (q7, .inl (k7, 420, .inr (.inl g7))), (q4, .inl (k4, 18, .inl f4))] := hD.sub [0, 1, 2, 3, 4, 5] (by decide) rfl
            obtain rfl := hw
            have hPc := hP.sub (ws' := [sO hs q1 q2 q7 q5 q6 bY bN fd, (q1, .inl (k1, 420, .inl g1)), (q2, .inl (k2, 420, .inl g2)), (q7, .inl (k7, 420, .inr (.inl g7)))]) [1, 2, 3, 4] rfl
            have hDc := hD.sub (ws' := [sO hs q1 q2 q7 q5 q6 bY bN fd, (q1, .inl (k1, 420, .inl g1)), (q2, .inl (k2, 420, .inl g2)), (q7, .inl (k7, 420, .inr (.inl g7)))]) [1, 2, 3, 4] (by decide) rfl
            have hKc := hK.sub (tys' := [(k1, .int), (k2, .int), (k7, .long)]) [0, 1, 2] rfl
            have hFc := va_free (wc := [sO hs q1 q2 q7 q5 q6 bY bN fd, (q1, .inl (k1, 420, .inl g1)), (q2, .inl (k2, 420, .inl g2)), (q7, .inl (k7, 420, .inr (.inl g7)))]) hD hS hA [1, 2, 3, 4] rfl
            refine va_callv (va_runV (As := [.int (nI rows), .int (yYes (f4 i)), .int (yNo (f4 i))]) (rest := []) ⟨hx, hb, hml, hown, htA⟩ (c_write l dC dI hs q1 q2 q7 q5 q6 k1 k2 k7 g1 g2 g7 bY bN fd rows (yYes (f4 i)) (yNo (f4 i)) H.size (by omega)) (cwV 3 htA gX0_64 rfl rfl rfl (by decide +kernel) ⟨Nat.le_of_ble_eq_true rfl, Nat.le_of_ble_eq_true rfl⟩) ⟨fun a U g mk q => by obtain ⟨q0, q1, qP, qK, qD, qS⟩ := q; exact ⟨q0, q1, qP, va_K.moved (u := U) (U := U.calling g mk a) (Vm.Alike.refl U.vm) qK, qD, yStat.moved (u := U) (U := U.calling g mk a) (Vm.Alike.refl U.vm) qS⟩, va_recv hKc hPc (ci := 2) (q0 := 0) rfl rfl, fun U hU hW => ⟨rfl, by rw [hU], by rw [hU]; exact hPc, va_K.moved hW.alike hKc, hDc.weaken (fun _ _ _ _ => trivial), by rw [hU]; exact ((yStat.moved hW.alike hST).kept hS.2.1).narrow (fun q9 h9 => hFc q9 h9)⟩⟩ rfl rfl hl.1 rfl (lv_room (Nat.le_of_ble_eq_true rfl)) dX0_writeAssumptions_49 ⟨Nat.zero_le _, Nat.zero_le _⟩) hS (fun q _ h => hFc q h) hFc (fun u t H1 locs ht hvm hw hB hz1 hk1 hS => ?_)
            obtain ⟨d1, d2, d7⟩ := u
            obtain ⟨hP1, hK1, hD1⟩ := hB
            rw [ht] at hP1
            try dsimp only at hw hP1 hD1
            obtain ⟨hP, hD⟩ := va_join (wr := [yO h hs q3 q4 (nI cc) lv (nI ac) tc ty tn md, (q4, .inl (k4, 18, .inl f4))]) (w1 := [sO hs q1 q2 q7 q5 q6 bY bN fd, (q1, .inl (k1, 420, .inl d1)), (q2, .inl (k2, 420, .inl d2)), (q7, .inl (k7, 420, .inr (.inl d7)))]) hP hD [1, 2, 3, 4] [0, 5] rfl rfl (by decide) (by decide) hk1 hFc hP1 hD1
            generalize H1 = H at hP hS ⊢
            have hP : va_P (dC, dI) vwCl [yO h hs q3 q4 (nI cc) lv (nI ac) tc ty tn md, sO hs q1 q2 q7 q5 q6 bY bN fd, (q1, .inl (k1, 420, .inl d1)), (q2, .inl (k2, 420, .inl d2)), (q7, .inl (k7, 420, .inr (.inl d7))), (q4, .inl (k4, 18, .inl f4))] H := hP.sub [0, 2, 3, 4, 5, 1] rfl
            have hD : va_D A [yO h hs q3 q4 (nI cc) lv (nI ac) tc ty tn md, sO hs q1 q2 q7 q5 q6 bY bN fd, (q1, .inl (k1, 420, .inl d1)), (q2, .inl (k2, 420, .inl d2)), (q7, .inl (k7, 420, .inr (.inl d7))), (q4, .inl (k4, 18, .inl f4))] := hD.sub [0, 2, 3, 4, 5, 1] (by decide) rfl
            refine lv_iinc (v := nI (rows + 1)) (lv' := [(2, .int (nI (rows + 1))), (3, .int (nI i)), (0, .ref h), (1, .int lo)]) hx hb dX0_writeAssumptions_52 hl (k := 1) rfl (nI_1 _) (by decide) rfl (fun ls hl => ?_)
            refine lv_iinc (v := nI (i + 1)) (lv' := [(3, .int (nI (i + 1))), (2, .int (nI (rows + 1))), (0, .ref h), (1, .int lo)]) hx hb dX0_writeAssumptions_55 hl (k := 1) rfl (nI_1 _) (by decide) rfl (fun ls hl => ?_)
            refine lv_goto (tgt := 7) hx hb dX0_writeAssumptions_58 (by decide) ?_
            obtain ⟨hw1, hw2, w9, hw3, hw4⟩ := hw
            refine ih (i + 1) (rows + 1) d1 d2 d7 hia (by omega) ?_ _ _ hP hD hS ls (lv_sub hl [0, 1, 2, 3] rfl)
            exact yWA hI hw1 hw2 hw4 hw3 (hlit i hia) cb_57
  exact loop 19 0 cc f1 f2 f7 (by omega) (by omega) ⟨Nat.le_refl _, by omega, fun j _ => ⟨rfl, rfl, rfl⟩, hm, fun a => ⟨fun q => ⟨q, fun j hj => absurd hj (Nat.not_lt_zero j)⟩, fun q => q.1⟩⟩ _ _ hP hD hS ls (lv_sub hl [0, 1, 2, 3] rfl)
end
