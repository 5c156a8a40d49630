section
-- ===== PART A: goes FIRST, ahead of the names: the tables' words, and 'selects' of the private methods out of them =====
/-- a private method of a class that the tables say can be made, by its rows of tables_1 -/
def lw_okq (q : MethodName × Nat) : Prop := (q.1.cls ≠ "java/lang/invoke/MethodHandle" ∧ q.1.cls ≠ "java/lang/invoke/VarHandle") ∧ Cond.instantiable q.1.cls q.2 ∈ tables_1 ∧ Cond.privateMethod q.1 ∈ tables_1 ∧ Cond.instanceMethod q.1 ∈ tables_1
theorem lw_p0 : lw_okq (⟨"java/lang/Throwable", "fillInStackTrace", "(I)Ljava/lang/Throwable;"⟩, 6) := ⟨⟨by decide +kernel, by decide +kernel⟩, List.mem_of_getElem? (i := 115) (by decide +kernel), List.mem_of_getElem? (i := 113) (by decide +kernel), List.mem_of_getElem? (i := 114) (by decide +kernel)⟩
theorem lw_p1 : lw_okq (⟨"ProfitsOffice", "knownPolicy", "(I)LProfitsOffice$Policy;"⟩, 14) := ⟨⟨by decide +kernel, by decide +kernel⟩, List.mem_of_getElem? (i := 13) (by decide +kernel), List.mem_of_getElem? (i := 169) (by decide +kernel), List.mem_of_getElem? (i := 170) (by decide +kernel)⟩
theorem lw_p2 : lw_okq (⟨"ProfitsOffice$Policy", "assetShare", "()J"⟩, 7) := ⟨⟨by decide +kernel, by decide +kernel⟩, List.mem_of_getElem? (i := 195) (by decide +kernel), List.mem_of_getElem? (i := 193) (by decide +kernel), List.mem_of_getElem? (i := 194) (by decide +kernel)⟩
theorem lw_p3 : lw_okq (⟨"ProfitsOffice$Policy", "isInForce", "()Z"⟩, 7) := ⟨⟨by decide +kernel, by decide +kernel⟩, List.mem_of_getElem? (i := 195) (by decide +kernel), List.mem_of_getElem? (i := 198) (by decide +kernel), List.mem_of_getElem? (i := 199) (by decide +kernel)⟩
theorem lw_p4 : lw_okq (⟨"ProfitsOffice$Generation", "shareFor", "(I)J"⟩, 4) := ⟨⟨by decide +kernel, by decide +kernel⟩, List.mem_of_getElem? (i := 204) (by decide +kernel), List.mem_of_getElem? (i := 202) (by decide +kernel), List.mem_of_getElem? (i := 203) (by decide +kernel)⟩
theorem lw_p5 : lw_okq (⟨"ProfitsOffice", "joinGeneration", "(II)LProfitsOffice$Generation;"⟩, 14) := ⟨⟨by decide +kernel, by decide +kernel⟩, List.mem_of_getElem? (i := 13) (by decide +kernel), List.mem_of_getElem? (i := 267) (by decide +kernel), List.mem_of_getElem? (i := 268) (by decide +kernel)⟩
theorem lw_p6 : lw_okq (⟨"ProfitsOffice", "findGeneration", "(II)LProfitsOffice$Generation;"⟩, 14) := ⟨⟨by decide +kernel, by decide +kernel⟩, List.mem_of_getElem? (i := 13) (by decide +kernel), List.mem_of_getElem? (i := 271) (by decide +kernel), List.mem_of_getElem? (i := 272) (by decide +kernel)⟩
theorem lw_p7 : lw_okq (⟨"ProfitsOffice", "checkSurrenderable", "(LProfitsOffice$Policy;)V"⟩, 14) := ⟨⟨by decide +kernel, by decide +kernel⟩, List.mem_of_getElem? (i := 13) (by decide +kernel), List.mem_of_getElem? (i := 350) (by decide +kernel), List.mem_of_getElem? (i := 351) (by decide +kernel)⟩
theorem lw_p8 : lw_okq (⟨"ProfitsOffice", "yearsRun", "(LProfitsOffice$Policy;)I"⟩, 14) := ⟨⟨by decide +kernel, by decide +kernel⟩, List.mem_of_getElem? (i := 13) (by decide +kernel), List.mem_of_getElem? (i := 355) (by decide +kernel), List.mem_of_getElem? (i := 356) (by decide +kernel)⟩
theorem lw_p9 : lw_okq (⟨"ProfitsOffice", "surrenderWorth", "(LProfitsOffice$Policy;)J"⟩, 14) := ⟨⟨by decide +kernel, by decide +kernel⟩, List.mem_of_getElem? (i := 13) (by decide +kernel), List.mem_of_getElem? (i := 360) (by decide +kernel), List.mem_of_getElem? (i := 361) (by decide +kernel)⟩
theorem lw_p10 : lw_okq (⟨"ProfitsOffice", "close", "(LProfitsOffice$Policy;IJ)V"⟩, 14) := ⟨⟨by decide +kernel, by decide +kernel⟩, List.mem_of_getElem? (i := 13) (by decide +kernel), List.mem_of_getElem? (i := 377) (by decide +kernel), List.mem_of_getElem? (i := 378) (by decide +kernel)⟩
theorem lw_p11 : lw_okq (⟨"ProfitsOffice$Generation", "release", "(I)J"⟩, 4) := ⟨⟨by decide +kernel, by decide +kernel⟩, List.mem_of_getElem? (i := 204) (by decide +kernel), List.mem_of_getElem? (i := 381) (by decide +kernel), List.mem_of_getElem? (i := 382) (by decide +kernel)⟩
theorem lw_p12 : lw_okq (⟨"ProfitsOffice", "growGenerations", "(I)V"⟩, 14) := ⟨⟨by decide +kernel, by decide +kernel⟩, List.mem_of_getElem? (i := 13) (by decide +kernel), List.mem_of_getElem? (i := 402) (by decide +kernel), List.mem_of_getElem? (i := 403) (by decide +kernel)⟩
theorem lw_p13 : lw_okq (⟨"ProfitsOffice$Fund", "earn", "(I)J"⟩, 1) := ⟨⟨by decide +kernel, by decide +kernel⟩, List.mem_of_getElem? (i := 279) (by decide +kernel), List.mem_of_getElem? (i := 406) (by decide +kernel), List.mem_of_getElem? (i := 407) (by decide +kernel)⟩
theorem lw_p14 : lw_okq (⟨"ProfitsOffice$Fund", "takeCharge", "(I)J"⟩, 1) := ⟨⟨by decide +kernel, by decide +kernel⟩, List.mem_of_getElem? (i := 279) (by decide +kernel), List.mem_of_getElem? (i := 411) (by decide +kernel), List.mem_of_getElem? (i := 412) (by decide +kernel)⟩
theorem lw_p15 : lw_okq (⟨"ProfitsOffice", "growPoliciesAlone", "(I)V"⟩, 14) := ⟨⟨by decide +kernel, by decide +kernel⟩, List.mem_of_getElem? (i := 13) (by decide +kernel), List.mem_of_getElem? (i := 415) (by decide +kernel), List.mem_of_getElem? (i := 416) (by decide +kernel)⟩
def lw_privs_1 : List (MethodName × Nat) := [(⟨"java/lang/Throwable", "fillInStackTrace", "(I)Ljava/lang/Throwable;"⟩, 6), (⟨"ProfitsOffice", "knownPolicy", "(I)LProfitsOffice$Policy;"⟩, 14), (⟨"ProfitsOffice$Policy", "assetShare", "()J"⟩, 7), (⟨"ProfitsOffice$Policy", "isInForce", "()Z"⟩, 7), (⟨"ProfitsOffice$Generation", "shareFor", "(I)J"⟩, 4), (⟨"ProfitsOffice", "joinGeneration", "(II)LProfitsOffice$Generation;"⟩, 14), (⟨"ProfitsOffice", "findGeneration", "(II)LProfitsOffice$Generation;"⟩, 14), (⟨"ProfitsOffice", "checkSurrenderable", "(LProfitsOffice$Policy;)V"⟩, 14), (⟨"ProfitsOffice", "yearsRun", "(LProfitsOffice$Policy;)I"⟩, 14), (⟨"ProfitsOffice", "surrenderWorth", "(LProfitsOffice$Policy;)J"⟩, 14), (⟨"ProfitsOffice", "close", "(LProfitsOffice$Policy;IJ)V"⟩, 14), (⟨"ProfitsOffice$Generation", "release", "(I)J"⟩, 4), (⟨"ProfitsOffice", "growGenerations", "(I)V"⟩, 14), (⟨"ProfitsOffice$Fund", "earn", "(I)J"⟩, 1), (⟨"ProfitsOffice$Fund", "takeCharge", "(I)J"⟩, 1), (⟨"ProfitsOffice", "growPoliciesAlone", "(I)V"⟩, 14)]
theorem lw_r1 : ∀ q ∈ lw_privs_1, lw_okq q := List.forall_mem_cons.mpr ⟨lw_p0, List.forall_mem_cons.mpr ⟨lw_p1, List.forall_mem_cons.mpr ⟨lw_p2, List.forall_mem_cons.mpr ⟨lw_p3, List.forall_mem_cons.mpr ⟨lw_p4, List.forall_mem_cons.mpr ⟨lw_p5, List.forall_mem_cons.mpr ⟨lw_p6, List.forall_mem_cons.mpr ⟨lw_p7, List.forall_mem_cons.mpr ⟨lw_p8, List.forall_mem_cons.mpr ⟨lw_p9, List.forall_mem_cons.mpr ⟨lw_p10, List.forall_mem_cons.mpr ⟨lw_p11, List.forall_mem_cons.mpr ⟨lw_p12, List.forall_mem_cons.mpr ⟨lw_p13, List.forall_mem_cons.mpr ⟨lw_p14, List.forall_mem_cons.mpr ⟨lw_p15, fun _ h => absurd h List.not_mem_nil⟩⟩⟩⟩⟩⟩⟩⟩⟩⟩⟩⟩⟩⟩⟩⟩
theorem lw_p16 : lw_okq (⟨"ProfitsOffice", "giveBonuses", "()V"⟩, 14) := ⟨⟨by decide +kernel, by decide +kernel⟩, List.mem_of_getElem? (i := 13) (by decide +kernel), List.mem_of_getElem? (i := 419) (by decide +kernel), List.mem_of_getElem? (i := 420) (by decide +kernel)⟩
theorem lw_p17 : lw_okq (⟨"ProfitsOffice$Policy", "guaranteed", "()J"⟩, 7) := ⟨⟨by decide +kernel, by decide +kernel⟩, List.mem_of_getElem? (i := 195) (by decide +kernel), List.mem_of_getElem? (i := 423) (by decide +kernel), List.mem_of_getElem? (i := 424) (by decide +kernel)⟩
theorem lw_p18 : lw_okq (⟨"ProfitsOffice", "maturePolicies", "()I"⟩, 14) := ⟨⟨by decide +kernel, by decide +kernel⟩, List.mem_of_getElem? (i := 13) (by decide +kernel), List.mem_of_getElem? (i := 427) (by decide +kernel), List.mem_of_getElem? (i := 428) (by decide +kernel)⟩
theorem lw_p19 : lw_okq (⟨"ProfitsOffice", "mature", "(LProfitsOffice$Policy;)V"⟩, 14) := ⟨⟨by decide +kernel, by decide +kernel⟩, List.mem_of_getElem? (i := 13) (by decide +kernel), List.mem_of_getElem? (i := 431) (by decide +kernel), List.mem_of_getElem? (i := 432) (by decide +kernel)⟩
theorem lw_p20 : lw_okq (⟨"ProfitsOffice", "smooth", "(JJ)J"⟩, 14) := ⟨⟨by decide +kernel, by decide +kernel⟩, List.mem_of_getElem? (i := 13) (by decide +kernel), List.mem_of_getElem? (i := 435) (by decide +kernel), List.mem_of_getElem? (i := 436) (by decide +kernel)⟩
def lw_privs_2 : List (MethodName × Nat) := [(⟨"ProfitsOffice", "giveBonuses", "()V"⟩, 14), (⟨"ProfitsOffice$Policy", "guaranteed", "()J"⟩, 7), (⟨"ProfitsOffice", "maturePolicies", "()I"⟩, 14), (⟨"ProfitsOffice", "mature", "(LProfitsOffice$Policy;)V"⟩, 14), (⟨"ProfitsOffice", "smooth", "(JJ)J"⟩, 14)]
theorem lw_r2 : ∀ q ∈ lw_privs_2, lw_okq q := List.forall_mem_cons.mpr ⟨lw_p16, List.forall_mem_cons.mpr ⟨lw_p17, List.forall_mem_cons.mpr ⟨lw_p18, List.forall_mem_cons.mpr ⟨lw_p19, List.forall_mem_cons.mpr ⟨lw_p20, fun _ h => absurd h List.not_mem_nil⟩⟩⟩⟩⟩
def lw_privs : List (MethodName × Nat) := lw_privs_1 ++ (lw_privs_2)
def lw_tbl : List Cond := k2_sels lw_privs ++ tables_1
theorem lw_privs_ok : ∀ q ∈ lw_privs, lw_okq q := by
  show ∀ q ∈ lw_privs_1 ++ (lw_privs_2), lw_okq q
  exact List.forall_mem_append.mpr ⟨lw_r1, lw_r2⟩
end
section
/-! ===== BEGIN words of one list among another's, by their places ===== -/
theorem goodIn_r {big : List Cond} (ws : List Cond) (ps : List Nat) (hp : ws = ps.filterMap (fun i => big[i]?)) (h : ws.all goodWord = true) : GoodIn big ws := by
  intro w hw
  have h1 := List.all_eq_true.mp h w hw
  rw [hp] at hw
  obtain ⟨i, -, hi⟩ := List.mem_filterMap.mp hw
  have hm : w ∈ big := by first | exact List.mem_of_getElem? hi | exact List.getElem?_mem hi
  exact ⟨hm, good_of_word h1⟩
theorem goodIn_app {big a b : List Cond} (ha : GoodIn big a) (hb : GoodIn big b) : GoodIn big (a ++ b) := fun w h => (List.mem_append.mp h).elim (ha w) (hb w)
theorem goodIn_ca {big a b : List Cond} {c : Cond} (ha : GoodIn big (c :: a)) (hb : GoodIn big b) : GoodIn big (c :: (a ++ b)) := fun w h => (List.mem_cons.mp h).elim (fun e => ha w (List.mem_cons.mpr (Or.inl e))) (fun h => (List.mem_append.mp h).elim (fun h => ha w (List.mem_cons.mpr (Or.inr h))) (hb w))
theorem goodIn_sub {big ws : List Cond} (hm : ∀ w ∈ ws, w ∈ big) (h : ws.all goodWord = true) : GoodIn big ws := fun w hw => ⟨hm w hw, good_of_word (List.all_eq_true.mp h w hw)⟩
/-! ===== END ===== -/

/-! ===== BEGIN exceptions that leave a method, and their catching by the caller (launches without stack traces) ===== -/
section VXA
/-! The laws vx_back, vx_callV, vx_callS, vx_callSW, vx_throw0, vx_throwS follow proofs of the library, with one case more: JvmDerived/Free/Laws.lean (Back.of_free), Shelf42/LK1.lean (callV, callS), Shelf/KitTraced.lean (throwNew0V, throwNewS). -/
/-- where a method has thrown q: the class by its name, the cell, what was written, the world -/
def vx_T (XC : String → State → State → Prop) (st : State) (q : Addr) (t : State) (mc ms : Nat) (free : Addr → Prop) : Prop :=
  ∃ (E : String) (ce : Cell) (L : List Loc), XC E st t ∧ t.heap[q]? = some ce ∧ ce.vm = .none ∧ st.vm.findClass E = some ce.cls ∧ st.WarmedH t.vm ∧ st.sameButNew ({ t with vm := st.vm } : State) L mc ms ∧ ∀ z ∈ L, free z.base
def vx_Q (Qc : Array Value → State → Outcome → State → Prop) (XC : String → State → State → Prop) (mc ms : Nat) (free : Addr → Prop) : Array Value → State → Outcome → State → Prop := fun a st o t =>
  (Qc a st o t ∧ ∃ L, FrameEnd st o t L mc ms ∧ ∀ q ∈ L, free q.base) ∨ ∃ q, o = .threw q ∧ vx_T XC st q t mc ms free
/-- a callee that returns or throws -/
def vx_Met (l : Launch) (y : MethodName) (ws : List Cond) (rm : Room) (Pc : Array Value → State → Prop) (Qc : Array Value → State → Outcome → State → Prop) (XC : String → State → State → Prop) (mc ms : Nat) (free : Addr → Prop) : Prop :=
  MetFree l y (headSpec ws rm) Pc (fun _ _ _ _ _ => True) (vx_Q Qc XC mc ms free)
def vx_Post (XC : String → State → State → Prop) (mc ms : Nat) (free : Addr → Prop) : Pt → Array Value → Addr → Pt → Prop := fun A a q B =>
  ∃ (g : JFrame) (mk : MethodId) (t : State) (L : List Loc) (E : String) (ce : Cell), B.U.heap = t.heap ∧ B.U.vm = t.vm ∧ XC E (A.U.calling g mk a) t ∧ t.heap[q]? = some ce ∧ ce.vm = .none ∧ A.U.vm.findClass E = some ce.cls ∧ B.locs = A.locs ++ L ∧ (∀ z ∈ L, free z.base) ∧ B.cells = A.cells + mc ∧ B.slots = A.slots + ms
def vx_Back (l : Launch) (R : Room) (p : Program) (e : Env) (below : List Frame) (s : State) (sargs : Array Value) (y : MethodName) (len W9 : Nat)
    (Pre : Pt → Array Value → Prop) (Post : Pt → Array Value → Option Value → Pt → Prop) (PostX : Pt → Array Value → Addr → Pt → Prop) : Prop :=
  ∀ (m : MethodId) (meth : Method) (c : Code) (A : Pt) (g : JFrame) (ig : Instr) (mk : MethodId) (a : Array Value),
    Stand p l e R s m sargs below meth c A.U A.locs A.cells A.slots → g.method = m → g.locals.size = c.maxLocals → decode c.code g.pc = .ok (ig, len) →
    2 * g.monitorRoom + (g.stack.map fun v => v.category).sum ≤ W9 → A.U.methodNamed? y = some mk → Pre A a →
    (∃ (v : Option Value) (B : Pt), Stand p l e R s m sargs below meth c B.U B.locs B.cells B.slots ∧ Post A a v B ∧
      Steps p.tables e below (doInvoke e (A.U.setTop g) [] mk a).1 (B.U.setTop { g with pc := g.pc + len, stack := v.toList ++ g.stack })) ∨
    (∃ (q : Addr) (B : Pt), Stand p l e R s m sargs below meth c B.U B.locs B.cells B.slots ∧ PostX A a q B ∧
      Steps p.tables e below (doInvoke e (A.U.setTop g) [] mk a).1 ((B.U.setTop g).pushFrame (.throwing q)))
section Payer
variable {l : Launch} {R : Room} {p : Program} {e : Env} {below : List Frame} {s : State} {sargs : Array Value} {y : MethodName} {len W9 : Nat}
theorem vx_back {ws : List Cond} {rm : Room} {Pc : Array Value → State → Prop} {Qc : Array Value → State → Outcome → State → Prop} {XC : String → State → State → Prop} {mc ms : Nat} {free : Addr → Prop} {bytes : ByteArray} {maxL : Nat} {ret : Option FieldType}
    (hM : vx_Met l y ws rm Pc Qc XC mc ms free) (hblind : FrameBlind Pc) (hrc : rm.cells = mc) (hrs : rm.slots = ms)
    (hframes : rm.frames + 1 ≤ R.frames) (hlocals : W9 + (maxL + 11) + rm.locals ≤ R.locals)
    (hws : ∀ w ∈ ws, ∀ a' U, s.WarmedH U.vm → w.before a' U = true) (hcode : Cond.code y bytes maxL ret ∈ ws) (hinit : ∀ a' U, s.WarmedH U.vm → (Cond.initialized y.cls).before a' U = true) :
    vx_Back l R p e below s sargs y len W9 (PreOf R mc ms Pc) (PostOf Qc mc ms free) (vx_Post XC mc ms free) := by
  intro m meth c A g ig mk a X hg hsize hdg hW hn hp
  have h1 : (headSpec ws rm).pre.before a A.U = true := atoms_intro fun w hw => hws w hw _ _ X.warmed
  have h2 : (Cond.code y bytes maxL ret).before a A.U = true := hws _ hcode _ _ X.warmed
  have h3 : (Cond.initialized y.cls).before a A.U = true := hinit _ _ X.warmed
  have h4 : A.cells + (headSpec ws rm).room.cells ≤ R.cells := by rw [show (headSpec ws rm).room.cells = mc from hrc]; exact hp.1
  have h5 : A.slots + (headSpec ws rm).room.slots ≤ R.slots := by rw [show (headSpec ws rm).room.slots = ms from hrs]; exact hp.2.1
  have hPc : Pc a (A.U.calling g mk a) := hblind _ _ _ _ hp.2.2
  obtain ⟨U, Ls, c0, s0⟩ := A
  dsimp only [Pt.U, Pt.locs, Pt.cells, Pt.slots] at h1 h2 h3 h4 h5 X hn hPc ⊢
  obtain ⟨methY, cY, hmY, hcY, -, hlY, -, -, -, -⟩ := Cond.code_spec hn h2
  obtain ⟨kY, hkY, -⟩ := className_of_methodNamed hn
  have hinitY : kY.init = .initialized := Cond.initialized_spec (findClass_of_methodNamed hn) hkY h3
  have h : At U g.method c below := by rw [hg]; exact X.here
  have hlocals9 : W9 + (maxL + 11) + (headSpec ws rm).room.locals ≤ R.locals := hlocals
  have happ : (headSpec ws rm).appliesLoose y e.platform (U.calling g mk a) = true :=
    Spec.appliesLoose_calling (g := g) h hdg hn hkY hinitY
      (X.room_calling (g := g) (R' := (headSpec ws rm).room) hsize hmY hcY hframes (by rw [hlY]; omega) h4 h5) h1
  obtain ⟨mid, hmid⟩ := h.above
  have hfr : (U.setTop g).frames = (.java g :: mid) ++ below := by rw [State.frames_setTop' g h.top, hmid]; rfl
  obtain ⟨o, s₂, hsteps, -, hend, hq⟩ := Steps.callFree hM p X.admits X.cas X.clock (acts := []) hfr happ hPc trivial
  have hq' : vx_Q Qc XC mc ms free a (U.calling g mk a) o s₂ := hq
  rw [State.frames_setTop' g h.top] at hend
  obtain ⟨g₀, hg0⟩ := Option.isSome_iff_exists.mp h.top
  obtain ⟨r, hr⟩ := State.topJava?_eq_some.mp hg0
  have hr' : (({ U with heap := s₂.heap, slotsUsed := s₂.slotsUsed } : State).setVm s₂.vm).frames = .java g₀ :: r := hr
  rcases hq' with ⟨hqc, L, hfe, hL⟩ | ⟨q, rfl, E, ce, L, hx, hce, hcv, hcl, hW₂, hsm, hL⟩
  · obtain ⟨⟨v, rfl⟩, hW₂, e2, q2, q3, q4, q5, q6⟩ := id hfe
    have e3 : s₂ = ({ (U.calling g mk a).setFrames s₂.frames with heap := s₂.heap, slotsUsed := s₂.slotsUsed } : State).setVm s₂.vm := by
      have : s₂ = ({ s₂ with vm := (U.calling g mk a).vm } : State).setVm s₂.vm := rfl
      rw [e2] at this
      exact this
    obtain ⟨c₂, i₂, len₂, hc₂, hd₂, hf₂⟩ := hend
    have hW' : U.WarmedH s₂.vm := hW₂
    have hcc : c₂ = c := by
      have h1 : s₂.code? g.method = U.code? g.method := by
        rw [State.code?_eq, State.code?_eq, hW'.alike.method?]
      exact Option.some.inj (hc₂.symm.trans (h1.trans h.code))
    subst hcc
    have hlen : len₂ = len := by rw [hdg] at hd₂; cases hd₂; rfl
    subst hlen
    have hs₂ : s₂ = (({ U with heap := s₂.heap, slotsUsed := s₂.slotsUsed } : State).setVm s₂.vm).setTop { g with pc := g.pc + len₂, stack := v.toList ++ g.stack } := by
      refine e3.trans ?_
      rw [hf₂, State.calling_eq h.top, State.setFrames_setFrames, State.setTop_of_frames _ hr', hr]
      rfl
    have hsame : U.sameButNew ({ U with heap := s₂.heap, slotsUsed := s₂.slotsUsed } : State) L mc ms := by
      refine ⟨?_, q2, q3, q4, q5, q6⟩
      obtain ⟨t, ht, -⟩ := State.frames_cons hr
      show ({ U with heap := s₂.heap, slotsUsed := s₂.slotsUsed } : State) = { U.setFrames U.frames with heap := s₂.heap, slotsUsed := s₂.slotsUsed }
      rw [State.setFrames_self ht]
    subst hg
    refine Or.inl ⟨v, ⟨(({ U with heap := s₂.heap, slotsUsed := s₂.slotsUsed } : State).setVm s₂.vm), Ls ++ L, c0 + mc, s0 + ms⟩,
      ⟨X.admits, X.cas, X.clock, X.frames, X.room, X.hears, X.method, X.code, (X.here.setHeapUsed s₂.heap s₂.slotsUsed).setVm hW'.alike, X.tail, State.WarmedH.trans X.warmed hW', X.limits, X.bytes, X.same.trans (hsame.setVm s.vm)⟩,
      ⟨g, mk, s₂, L, rfl, rfl, hqc, rfl, hL, rfl, rfl⟩, ?_⟩
    show Steps p.tables e below _ ((({ U with heap := s₂.heap, slotsUsed := s₂.slotsUsed } : State).setVm s₂.vm).setTop { g with pc := g.pc + len₂, stack := v.toList ++ g.stack })
    rw [← hs₂]
    exact hsteps
  · obtain ⟨e2, q2, q3, q4, q5, q6⟩ := id hsm
    have e3 : s₂ = ({ (U.calling g mk a).setFrames s₂.frames with heap := s₂.heap, slotsUsed := s₂.slotsUsed } : State).setVm s₂.vm := by
      have : s₂ = ({ s₂ with vm := (U.calling g mk a).vm } : State).setVm s₂.vm := rfl
      rw [e2] at this
      exact this
    have hf₂ : s₂.frames = .throwing q :: .java g :: U.frames.tail := hend
    have hW' : U.WarmedH s₂.vm := hW₂
    have hs₂ : s₂ = ((({ U with heap := s₂.heap, slotsUsed := s₂.slotsUsed } : State).setVm s₂.vm).setTop g).pushFrame (.throwing q) := by
      refine e3.trans ?_
      rw [hf₂, State.calling_eq h.top, State.setFrames_setFrames, State.pushFrame, State.frames_setTop _ hr', State.setTop_of_frames _ hr', State.setFrames_setFrames, hr]
      rfl
    have hsame : U.sameButNew ({ U with heap := s₂.heap, slotsUsed := s₂.slotsUsed } : State) L mc ms := by
      refine ⟨?_, q2, q3, q4, q5, q6⟩
      obtain ⟨t, ht, -⟩ := State.frames_cons hr
      show ({ U with heap := s₂.heap, slotsUsed := s₂.slotsUsed } : State) = { U.setFrames U.frames with heap := s₂.heap, slotsUsed := s₂.slotsUsed }
      rw [State.setFrames_self ht]
    subst hg
    refine Or.inr ⟨q, ⟨(({ U with heap := s₂.heap, slotsUsed := s₂.slotsUsed } : State).setVm s₂.vm), Ls ++ L, c0 + mc, s0 + ms⟩,
      ⟨X.admits, X.cas, X.clock, X.frames, X.room, X.hears, X.method, X.code, (X.here.setHeapUsed s₂.heap s₂.slotsUsed).setVm hW'.alike, X.tail, State.WarmedH.trans X.warmed hW', X.limits, X.bytes, X.same.trans (hsame.setVm s.vm)⟩,
      ⟨g, mk, s₂, L, E, ce, rfl, rfl, hx, hce, hcv, hcl, rfl, hL, rfl, rfl⟩, ?_⟩
    show Steps p.tables e below _ (((({ U with heap := s₂.heap, slotsUsed := s₂.slotsUsed } : State).setVm s₂.vm).setTop g).pushFrame (.throwing q))
    rw [← hs₂]
    exact hsteps
end Payer
section Calls
variable {p : Program} {l : Launch} {e : Env} {R : Room} {s : State} {m : MethodId} {args : Array Value} {below : List Frame} {meth : Method} {c : Code} {T : State} {locs : List Loc} {cells slots : Nat}
theorem vx_callV (X : Stand p l e R s m args below meth c T locs cells slots) (hexec : p.tables.exec = Jvm.exec) {own C : String} {index : Nat} {y : MethodName} {bytes : ByteArray} {maxL : Nat} {ret : Option FieldType}
    (hown : s.vm.findClass own = some m.cls) (hlink : (Cond.methodLink own index y).before args s = true) (hinst : (Cond.instanceMethod y).before args s = true) (hsel : (Cond.selects C y y).before args s = true)
    (hcode : (Cond.code y bytes maxL ret).before args s = true) (hy : y.cls ≠ "java/lang/invoke/MethodHandle" ∧ y.cls ≠ "java/lang/invoke/VarHandle")
    {W9 : Nat} {Pre : Pt → Array Value → Prop} {Post : Pt → Array Value → Option Value → Pt → Prop} {PostX : Pt → Array Value → Addr → Pt → Prop} (hK : vx_Back l R p e below s args y 3 W9 Pre Post PostX)
    {b : Addr} {cellB : Cell} (hcell : T.heap[b]? = some cellB) (hobj : cellB.vm.isStatics = false) (hcls : s.vm.findClass C = some cellB.cls)
    {g : JFrame} (hg : g.method = m) (hsize : g.locals.size = c.maxLocals) {argsL rest : List Value} (hlen : ∀ sig, parseMethodDescriptor y.desc = some sig → argsL.length = sig.parameters.length)
    (hstack : g.stack = argsL.reverse ++ .ref b :: rest) (hW : 2 * g.monitorRoom + (rest.map fun v => v.category).sum ≤ W9) (hdg : decode c.code g.pc = .ok (.invokevirtual index, 3))
    (hpre : ∀ vm₁, s.WarmedH vm₁ → Pre ⟨T.setVm vm₁, locs, cells, slots⟩ (Value.ref b :: argsL).toArray) :
    (∃ (v : Option Value) (vm₁ : Vm) (B : Pt), s.WarmedH vm₁ ∧ Stand p l e R s m args below meth c B.U B.locs B.cells B.slots ∧ Post ⟨T.setVm vm₁, locs, cells, slots⟩ (Value.ref b :: argsL).toArray v B ∧
      ∀ target, Steps p.tables e below (B.U.setTop { g with pc := g.pc + 3, stack := v.toList ++ rest }) target → Steps p.tables e below (T.setTop g) target) ∨
    (∃ (q : Addr) (vm₁ : Vm) (B : Pt), s.WarmedH vm₁ ∧ Stand p l e R s m args below meth c B.U B.locs B.cells B.slots ∧ PostX ⟨T.setVm vm₁, locs, cells, slots⟩ (Value.ref b :: argsL).toArray q B ∧
      Steps p.tables e below (T.setTop g) ((B.U.setTop { g with stack := rest }).pushFrame (.throwing q))) := by
  obtain ⟨mk, methM, hnamed, hmethM, hstM, habM⟩ := Cond.instanceMethod_spec hinst
  obtain ⟨methM', cM, hmethM', -, -, -, -, -, -, hsigM⟩ := Cond.code_spec hnamed hcode
  cases hmethM.symm.trans hmethM'
  obtain ⟨c2, r2, m2, q1, q2, q3, q4, kP, hkP, hkPi⟩ := Cond.selects_spec hsel
  cases hcls.symm.trans q1
  cases (State.methodFound?_of_named hnamed hy).symm.trans q2
  cases hnamed.symm.trans q3
  have hselP : selectMethod e.platform s.vm cellB.cls mk = .method mk := by rw [Launch.admits_selectMethod X.admits]; exact q4
  obtain ⟨vm₁, X₁, hstep₁⟩ := X.invokevirtual hexec hown hlink hnamed hmethM hstM hkP hkPi hy (a := b) (cell := cellB) hcell
    (fun z h => by rw [h] at hobj; cases hobj) hselP hmethM habM hkP hkPi (g := g) hg (argsL := argsL) (rest := rest) (hlen _ hsigM) hstack hdg
  rcases hK m meth c ⟨T.setVm vm₁, locs, cells, slots⟩ { g with stack := rest } (.invokevirtual index) mk (Value.ref b :: argsL).toArray X₁ hg hsize hdg hW (X₁.named hnamed) (hpre vm₁ X₁.warmed) with ⟨v, B, X', hpost, hsteps⟩ | ⟨q, B, X', hpost, hsteps⟩
  · exact Or.inl ⟨v, vm₁, B, X₁.warmed, X', hpost, fun target h => hstep₁ _ fun acts => by rw [doInvoke_state]; exact hsteps.trans h⟩
  · exact Or.inr ⟨q, vm₁, B, X₁.warmed, X', hpost, hstep₁ _ fun acts => by rw [doInvoke_state]; exact hsteps⟩
theorem vx_callS (X : Stand p l e R s m args below meth c T locs cells slots) (hexec : p.tables.exec = Jvm.exec) {own : String} {index : Nat} {y : MethodName} {bytes : ByteArray} {maxL : Nat} {ret : Option FieldType}
    (hown : s.vm.findClass own = some m.cls) (hlink : (Cond.methodLink own index y).before args s = true) (hstat : (Cond.static y).before args s = true) (hinit : (Cond.initialized y.cls).before args s = true)
    (hcode : (Cond.code y bytes maxL ret).before args s = true) (hy : y.cls ≠ "java/lang/invoke/MethodHandle" ∧ y.cls ≠ "java/lang/invoke/VarHandle")
    {W9 : Nat} {Pre : Pt → Array Value → Prop} {Post : Pt → Array Value → Option Value → Pt → Prop} {PostX : Pt → Array Value → Addr → Pt → Prop} (hK : vx_Back l R p e below s args y 3 W9 Pre Post PostX)
    {g : JFrame} (hg : g.method = m) (hsize : g.locals.size = c.maxLocals) {argsL rest : List Value} (hlen : ∀ sig, parseMethodDescriptor y.desc = some sig → argsL.length = sig.parameters.length)
    (hstack : g.stack = argsL.reverse ++ rest) (hW : 2 * g.monitorRoom + (rest.map fun v => v.category).sum ≤ W9) (hdg : decode c.code g.pc = .ok (.invokestatic index, 3))
    (hpre : ∀ vm₁, s.WarmedH vm₁ → Pre ⟨T.setVm vm₁, locs, cells, slots⟩ argsL.toArray) :
    (∃ (v : Option Value) (vm₁ : Vm) (B : Pt), s.WarmedH vm₁ ∧ Stand p l e R s m args below meth c B.U B.locs B.cells B.slots ∧ Post ⟨T.setVm vm₁, locs, cells, slots⟩ argsL.toArray v B ∧
      ∀ target, Steps p.tables e below (B.U.setTop { g with pc := g.pc + 3, stack := v.toList ++ rest }) target → Steps p.tables e below (T.setTop g) target) ∨
    (∃ (q : Addr) (vm₁ : Vm) (B : Pt), s.WarmedH vm₁ ∧ Stand p l e R s m args below meth c B.U B.locs B.cells B.slots ∧ PostX ⟨T.setVm vm₁, locs, cells, slots⟩ argsL.toArray q B ∧
      Steps p.tables e below (T.setTop g) ((B.U.setTop { g with stack := rest }).pushFrame (.throwing q))) := by
  obtain ⟨mk, hnamed⟩ := Cond.code_named hcode
  obtain ⟨methM, cM, hmethM, -, -, -, -, -, -, hsigM⟩ := Cond.code_spec hnamed hcode
  have hstatic : methM.isStatic = true := Cond.static_spec hnamed hmethM hstat
  obtain ⟨kP, hkP, -⟩ := className_of_methodNamed hnamed
  have hinitP : kP.init = .initialized := Cond.initialized_spec (findClass_of_methodNamed hnamed) hkP hinit
  obtain ⟨vm₁, X₁, hstep₁⟩ := X.invokestatic hexec hown hlink hnamed hmethM hstatic hkP hinitP hy (g := g) hg (argsL := argsL) (rest := rest) (hlen _ hsigM) hstack hdg
  rcases hK m meth c ⟨T.setVm vm₁, locs, cells, slots⟩ { g with stack := rest } (.invokestatic index) mk argsL.toArray X₁ hg hsize hdg hW (X₁.named hnamed) (hpre vm₁ X₁.warmed) with ⟨v, B, X', hpost, hsteps⟩ | ⟨q, B, X', hpost, hsteps⟩
  · exact Or.inl ⟨v, vm₁, B, X₁.warmed, X', hpost, fun target h => hstep₁ _ fun acts => by rw [doInvoke_state]; exact hsteps.trans h⟩
  · exact Or.inr ⟨q, vm₁, B, X₁.warmed, X', hpost, hstep₁ _ fun acts => by rw [doInvoke_state]; exact hsteps⟩
end Calls
theorem vx_cls {s : State} {T : State} {vm₁ : Vm} {E : String} {k : ClassId} (hW : s.WarmedH vm₁) (h : (T.setVm vm₁).vm.findClass E = some k) : s.vm.findClass E = some k := by
  have h1 : vm₁.findClass E = some k := h
  rw [hW.alike.findClass] at h1
  exact h1
/-- the method's frame g, with q thrown over it -/
def vx_W (p : Program) (l : Launch) (e : Env) (R : Room) (s : State) (m : MethodId) (args : Array Value) (below : List Frame) (meth : Method) (c : Code) (H : Heap) (locs : List Loc) (cells slots : Nat) (Q : State → Prop) (g : JFrame) (q : Addr) : Prop :=
  ∀ T : State, T.heap = H → Stand p l e R s m args below meth c T locs cells slots → ∃ t, Steps p.tables e below ((T.setTop g).pushFrame (.throwing q)) t ∧ Q t
def vx_Run (p : Program) (l : Launch) (e : Env) (R : Room) (s : State) (m : MethodId) (args : Array Value) (below : List Frame) (meth : Method) (c : Code) (H : Heap) (locs : List Loc) (cells slots mc ms : Nat) (g : JFrame) (rest : List Value) (Qa : State → Outcome → State → Prop) (XC : String → State → State → Prop) (free : Addr → Prop) : Prop :=
  ∀ T : State, T.heap = H → Stand p l e R s m args below meth c T locs cells slots →
    (∃ (v : Option Value) (st₀ t T' : State) (L : List Loc), st₀.heap = H ∧ Stand p l e R s m args below meth c T' (locs ++ L) (cells + mc) (slots + ms) ∧ (∀ q ∈ L, free q.base) ∧ T'.heap = t.heap ∧ T'.vm = t.vm ∧ Qa st₀ (.returned v) t ∧
      Goes p e below T g T' { g with pc := g.pc + 3, stack := v.toList ++ rest }) ∨
    (∃ (q : Addr) (st₀ t T' : State) (L : List Loc) (E : String) (ce : Cell), st₀.heap = H ∧ Stand p l e R s m args below meth c T' (locs ++ L) (cells + mc) (slots + ms) ∧ (∀ z ∈ L, free z.base) ∧ T'.heap = t.heap ∧ T'.vm = t.vm ∧ XC E st₀ t ∧ t.heap[q]? = some ce ∧ ce.vm = .none ∧ s.vm.findClass E = some ce.cls ∧
      Steps p.tables e below (T.setTop g) ((T'.setTop { g with stack := rest }).pushFrame (.throwing q)))
def vx_X {S : Type} (px : S → Prop) (B : String → S → State → Prop) (A : Nat → Prop) : String → State → State → Prop := fun E st t => ∃ u : S, px u ∧ B E u t ∧ va_F A st t
section Runs
variable {p : Program} {l : Launch} {e : Env} {R : Room} {s : State} {m : MethodId} {args : Array Value} {below : List Frame} {meth : Method} {c : Code} {H : Heap} {locs : List Loc} {cells slots : Nat}
variable {y : MethodName} {bytes cc : ByteArray} {maxL nL mc ms n index : Nat} {ret : Option FieldType} {ws : List Cond} {rm : Room} {Pc : Array Value → State → Prop} {Qc : Array Value → State → Outcome → State → Prop} {XC : String → State → State → Prop} {free : Addr → Prop} {Ts : List Cond} {own C : String} {b : Addr} {As rest : List Value} {g : JFrame}
theorem vx_callBack (cb : CallB R s args own index y bytes maxL ret ws rm mc ms n) (hM : vx_Met l y ws rm Pc Qc XC mc ms free) (hbl : FrameBlind Pc) : vx_Back l R p e below s args y 3 8 (PreOf R mc ms Pc) (PostOf Qc mc ms free) (vx_Post XC mc ms free) := by
  obtain ⟨hrc, hrs, hfr, hlo, hws, hcw, -, hini, -⟩ := cb
  exact vx_back (bytes := bytes) (maxL := maxL) (ret := ret) hM hbl hrc hrs hfr hlo hws hcw (fun a' U hW => word_at hW (Or.inl (by first | rfl | simp [Cond.onTables, Cond.keeps, Cond.steady])) hini)
theorem vx_runV (S : CallFix p m c cc nL s args Ts own) (hM : vx_Met l y ws rm Pc Qc XC mc ms free) (cw : CallW R s args own C index y bytes maxL ret ws rm mc ms n) (hp : PreV s H C b Pc As)
    (hg : g.method = m) (hn : As.length = n) (hsize : g.locals.size = nL) (hstack : g.stack = As.reverse ++ .ref b :: rest) (hW : 2 * g.monitorRoom + (rest.map fun v => v.category).sum ≤ 8) (hdg : decode cc g.pc = .ok (.invokevirtual index, 3)) (hf : cells + mc ≤ R.cells ∧ slots + ms ≤ R.slots) :
    vx_Run p l e R s m args below meth c H locs cells slots mc ms g rest (Qc (Value.ref b :: As).toArray) XC free := by
  have hK : vx_Back l R p e below s args y 3 8 (PreOf R mc ms Pc) (PostOf Qc mc ms free) (vx_Post XC mc ms free) := vx_callBack cw.1 hM hp.1
  obtain ⟨⟨-, -, -, -, -, -, hcode, -, hy, hlen, hl⟩, hin, hse⟩ := cw
  obtain ⟨hx, hb, hml, ho, -⟩ := S
  obtain ⟨-, ⟨cellB, hcB, hoB, hclB⟩, hPc⟩ := hp
  intro T hT X
  rcases vx_callV X hx (C := C) (bytes := bytes) (maxL := maxL) (ret := ret) ho hl hin hse hcode hy hK (by rw [hT]; exact hcB) hoB hclB hg (hsize.trans hml.symm) (argsL := As) (rest := rest) (fun sig h => hn.trans (hlen sig h)) hstack hW (by rw [hb]; exact hdg)
    (fun vm₁ hW₁ => ⟨hf.1, hf.2, hPc (T.setVm vm₁) hT hW₁⟩) with ⟨v, vm₁, ⟨U', l2, c2, s2⟩, hW₁, X', ⟨g', mk, t, L, e1, e2, hq, h1, hL, h2, h3⟩, st⟩ | ⟨q, vm₁, ⟨U', l2, c2, s2⟩, hW₁, X', ⟨g', mk, t, L, E, ce, e1, e2, hq, hce, hcv, hcl, h1, hL, h2, h3⟩, st⟩
  · dsimp only [Pt.U, Pt.locs, Pt.cells, Pt.slots] at X' e1 e2 h1 h2 h3 st
    subst h1; subst h2; subst h3
    exact Or.inl ⟨v, (T.setVm vm₁).calling g' mk (Value.ref b :: As).toArray, t, U', L, hT, X', hL, e1, e2, hq, st⟩
  · dsimp only [Pt.U, Pt.locs, Pt.cells, Pt.slots] at X' e1 e2 h1 h2 h3 st hcl
    subst h1; subst h2; subst h3
    exact Or.inr ⟨q, (T.setVm vm₁).calling g' mk (Value.ref b :: As).toArray, t, U', L, E, ce, hT, X', hL, e1, e2, hq, hce, hcv, vx_cls hW₁ hcl, st⟩
theorem vx_runS (S : CallFix p m c cc nL s args Ts own) (hM : vx_Met l y ws rm Pc Qc XC mc ms free) (cw : CallB R s args own index y bytes maxL ret ws rm mc ms n ∧ (Cond.static y).before args s = true) (hp : PreS s H Pc As)
    (hg : g.method = m) (hn : As.length = n) (hsize : g.locals.size = nL) (hstack : g.stack = As.reverse ++ rest) (hW : 2 * g.monitorRoom + (rest.map fun v => v.category).sum ≤ 8) (hdg : decode cc g.pc = .ok (.invokestatic index, 3)) (hf : cells + mc ≤ R.cells ∧ slots + ms ≤ R.slots) :
    vx_Run p l e R s m args below meth c H locs cells slots mc ms g rest (Qc As.toArray) XC free := by
  have hK : vx_Back l R p e below s args y 3 8 (PreOf R mc ms Pc) (PostOf Qc mc ms free) (vx_Post XC mc ms free) := vx_callBack cw.1 hM hp.1
  obtain ⟨⟨-, -, -, -, -, -, hcode, hini, hy, hlen, hl⟩, hstt⟩ := cw
  obtain ⟨hx, hb, hml, ho, -⟩ := S
  intro T hT X
  rcases vx_callS X hx (bytes := bytes) (maxL := maxL) (ret := ret) ho hl hstt hini hcode hy hK hg (hsize.trans hml.symm) (argsL := As) (rest := rest) (fun sig h => hn.trans (hlen sig h)) hstack hW (by rw [hb]; exact hdg)
    (fun vm₁ hW₁ => ⟨hf.1, hf.2, hp.2 (T.setVm vm₁) hT hW₁⟩) with ⟨v, vm₁, ⟨U', l2, c2, s2⟩, hW₁, X', ⟨g', mk, t, L, e1, e2, hq, h1, hL, h2, h3⟩, st⟩ | ⟨q, vm₁, ⟨U', l2, c2, s2⟩, hW₁, X', ⟨g', mk, t, L, E, ce, e1, e2, hq, hce, hcv, hcl, h1, hL, h2, h3⟩, st⟩
  · dsimp only [Pt.U, Pt.locs, Pt.cells, Pt.slots] at X' e1 e2 h1 h2 h3 st
    subst h1; subst h2; subst h3
    exact Or.inl ⟨v, (T.setVm vm₁).calling g' mk As.toArray, t, U', L, hT, X', hL, e1, e2, hq, st⟩
  · dsimp only [Pt.U, Pt.locs, Pt.cells, Pt.slots] at X' e1 e2 h1 h2 h3 st hcl
    subst h1; subst h2; subst h3
    exact Or.inr ⟨q, (T.setVm vm₁).calling g' mk As.toArray, t, U', L, E, ce, hT, X', hL, e1, e2, hq, hce, hcv, vx_cls hW₁ hcl, st⟩
end Runs
section Rows
variable {p : Program} {l : Launch} {e : Env} {R : Room} {s : State} {m : MethodId} {args : Array Value} {below : List Frame} {meth : Method} {c : Code} {H : Heap} {locs : List Loc} {cells slots : Nat} {Q : State → Prop}
variable {mc ms : Nat} {free : Addr → Prop} {A0 A1 : Nat → Prop} {H0 : Heap} {a : Array Value} {pc : Nat} {ls : Array Slot} {st0 rest : List Value}
theorem vx_keep {st₀ t T' : State} {L : List Loc} (h0 : st₀.heap = H) (e1 : T'.heap = t.heap) (hS : va_S A0 H0 H locs) (hA : ∀ q, q < H.size → A1 q → A0 q) (hf : ∀ q, free q → A0 q) (hL : ∀ q ∈ L, free q.base) (hF : va_F A1 st₀ t) :
    H.size ≤ T'.heap.size ∧ (∀ q : Nat, q < H.size → ¬ A1 q → T'.heap[q]? = H[q]?) ∧ va_S A0 H0 T'.heap (locs ++ L) := by
  obtain ⟨hz, hk⟩ := hF
  rw [h0] at hz hk
  exact ⟨by rw [e1]; exact hz, fun q h1 h2 => by rw [e1]; exact hk q h1 h2,
    ⟨Nat.le_trans hS.1 (by rw [e1]; exact hz), fun q h1 h2 => by rw [e1, hk q (Nat.lt_of_lt_of_le h1 hS.1) (fun z => h2 (hA q (Nat.lt_of_lt_of_le h1 hS.1) z))]; exact hS.2.1 q h1 h2, fun q hq => by
      rcases List.mem_append.mp hq with h | h
      · exact hS.2.2 q h
      · exact hf _ (hL q h)⟩⟩
theorem vx_calli {S SX : Type} {post : Int32 → S → Prop} {px : SX → Prop} {B : S → State → Prop} {BX : String → SX → State → Prop} {AX : Nat → Prop} (hr : vx_Run p l e R s m args below meth c H locs cells slots mc ms (F0 m pc ls st0) rest (va_Qi post B A1 a) (vx_X px BX AX) free) (hS : va_S A0 H0 H locs) (hA : ∀ q, q < H.size → A1 q → A0 q) (hf : ∀ q, free q → A0 q) (hAX : ∀ q, q < H.size → AX q → A0 q)
    (kx : ∀ (E : String) (ce : Cell) (q9 : Addr) (u : SX) (t : State) (H1 : Heap) (locs1 : List Loc), t.heap = H1 → s.vm.Alike t.vm → px u → BX E u t → H.size ≤ H1.size → (∀ q : Nat, q < H.size → ¬ AX q → H1[q]? = H[q]?) → va_S A0 H0 H1 locs1 → H1[q9]? = some ce → ce.vm = .none → s.vm.findClass E = some ce.cls → vx_W p l e R s m args below meth c H1 locs1 (cells + mc) (slots + ms) Q (F0 m pc ls rest) q9)
    (kk : ∀ (r : Int32) (u : S) (t : State) (H1 : Heap) (locs1 : List Loc), t.heap = H1 → s.vm.Alike t.vm → post r u → B u t → H.size ≤ H1.size → (∀ q : Nat, q < H.size → ¬ A1 q → H1[q]? = H[q]?) → va_S A0 H0 H1 locs1 → W p l e R s m args below meth c H1 locs1 (cells + mc) (slots + ms) Q (F0 m (pc + 3) ls (.int r :: rest))) : W p l e R s m args below meth c H locs cells slots Q (F0 m pc ls st0) := by
  intro T hT X
  rcases hr T hT X with ⟨v, st₀, t, T', L, h0, X', hL, e1, e2, ⟨⟨r, u, hv, hp, hb⟩, hF⟩, st⟩ | ⟨q, st₀, t, T', L, E, ce, h0, X', hL, e1, e2, ⟨u, hp, hb, hF⟩, hce, hcv, hcl, st⟩
  · cases hv
    obtain ⟨k1, k2, k3⟩ := vx_keep h0 e1 hS hA hf hL hF
    obtain ⟨t2, a1, b1⟩ := kk r u t T'.heap (locs ++ L) e1.symm (by rw [← e2]; exact X'.warmed.alike) hp hb k1 k2 k3 T' rfl X'
    exact ⟨t2, st t2 a1, b1⟩
  · obtain ⟨k1, k2, k3⟩ := vx_keep h0 e1 hS hAX hf hL hF
    obtain ⟨t2, a1, b1⟩ := kx E ce q u t T'.heap (locs ++ L) e1.symm (by rw [← e2]; exact X'.warmed.alike) hp hb k1 k2 k3 (by rw [e1]; exact hce) hcv hcl T' rfl X'
    exact ⟨t2, st.trans a1, b1⟩
theorem vx_calll {S SX : Type} {post : Int64 → S → Prop} {px : SX → Prop} {B : S → State → Prop} {BX : String → SX → State → Prop} {AX : Nat → Prop} (hr : vx_Run p l e R s m args below meth c H locs cells slots mc ms (F0 m pc ls st0) rest (va_Ql post B A1 a) (vx_X px BX AX) free) (hS : va_S A0 H0 H locs) (hA : ∀ q, q < H.size → A1 q → A0 q) (hf : ∀ q, free q → A0 q) (hAX : ∀ q, q < H.size → AX q → A0 q)
    (kx : ∀ (E : String) (ce : Cell) (q9 : Addr) (u : SX) (t : State) (H1 : Heap) (locs1 : List Loc), t.heap = H1 → s.vm.Alike t.vm → px u → BX E u t → H.size ≤ H1.size → (∀ q : Nat, q < H.size → ¬ AX q → H1[q]? = H[q]?) → va_S A0 H0 H1 locs1 → H1[q9]? = some ce → ce.vm = .none → s.vm.findClass E = some ce.cls → vx_W p l e R s m args below meth c H1 locs1 (cells + mc) (slots + ms) Q (F0 m pc ls rest) q9)
    (kk : ∀ (r : Int64) (u : S) (t : State) (H1 : Heap) (locs1 : List Loc), t.heap = H1 → s.vm.Alike t.vm → post r u → B u t → H.size ≤ H1.size → (∀ q : Nat, q < H.size → ¬ A1 q → H1[q]? = H[q]?) → va_S A0 H0 H1 locs1 → W p l e R s m args below meth c H1 locs1 (cells + mc) (slots + ms) Q (F0 m (pc + 3) ls (.long r :: rest))) : W p l e R s m args below meth c H locs cells slots Q (F0 m pc ls st0) := by
  intro T hT X
  rcases hr T hT X with ⟨v, st₀, t, T', L, h0, X', hL, e1, e2, ⟨⟨r, u, hv, hp, hb⟩, hF⟩, st⟩ | ⟨q, st₀, t, T', L, E, ce, h0, X', hL, e1, e2, ⟨u, hp, hb, hF⟩, hce, hcv, hcl, st⟩
  · cases hv
    obtain ⟨k1, k2, k3⟩ := vx_keep h0 e1 hS hA hf hL hF
    obtain ⟨t2, a1, b1⟩ := kk r u t T'.heap (locs ++ L) e1.symm (by rw [← e2]; exact X'.warmed.alike) hp hb k1 k2 k3 T' rfl X'
    exact ⟨t2, st t2 a1, b1⟩
  · obtain ⟨k1, k2, k3⟩ := vx_keep h0 e1 hS hAX hf hL hF
    obtain ⟨t2, a1, b1⟩ := kx E ce q u t T'.heap (locs ++ L) e1.symm (by rw [← e2]; exact X'.warmed.alike) hp hb k1 k2 k3 (by rw [e1]; exact hce) hcv hcl T' rfl X'
    exact ⟨t2, st.trans a1, b1⟩
theorem vx_callf {S SX : Type} {post : UInt32 → S → Prop} {px : SX → Prop} {B : S → State → Prop} {BX : String → SX → State → Prop} {AX : Nat → Prop} (hr : vx_Run p l e R s m args below meth c H locs cells slots mc ms (F0 m pc ls st0) rest (va_Qf post B A1 a) (vx_X px BX AX) free) (hS : va_S A0 H0 H locs) (hA : ∀ q, q < H.size → A1 q → A0 q) (hf : ∀ q, free q → A0 q) (hAX : ∀ q, q < H.size → AX q → A0 q)
    (kx : ∀ (E : String) (ce : Cell) (q9 : Addr) (u : SX) (t : State) (H1 : Heap) (locs1 : List Loc), t.heap = H1 → s.vm.Alike t.vm → px u → BX E u t → H.size ≤ H1.size → (∀ q : Nat, q < H.size → ¬ AX q → H1[q]? = H[q]?) → va_S A0 H0 H1 locs1 → H1[q9]? = some ce → ce.vm = .none → s.vm.findClass E = some ce.cls → vx_W p l e R s m args below meth c H1 locs1 (cells + mc) (slots + ms) Q (F0 m pc ls rest) q9)
    (kk : ∀ (r : UInt32) (u : S) (t : State) (H1 : Heap) (locs1 : List Loc), t.heap = H1 → s.vm.Alike t.vm → post r u → B u t → H.size ≤ H1.size → (∀ q : Nat, q < H.size → ¬ A1 q → H1[q]? = H[q]?) → va_S A0 H0 H1 locs1 → W p l e R s m args below meth c H1 locs1 (cells + mc) (slots + ms) Q (F0 m (pc + 3) ls (.float r :: rest))) : W p l e R s m args below meth c H locs cells slots Q (F0 m pc ls st0) := by
  intro T hT X
  rcases hr T hT X with ⟨v, st₀, t, T', L, h0, X', hL, e1, e2, ⟨⟨r, u, hv, hp, hb⟩, hF⟩, st⟩ | ⟨q, st₀, t, T', L, E, ce, h0, X', hL, e1, e2, ⟨u, hp, hb, hF⟩, hce, hcv, hcl, st⟩
  · cases hv
    obtain ⟨k1, k2, k3⟩ := vx_keep h0 e1 hS hA hf hL hF
    obtain ⟨t2, a1, b1⟩ := kk r u t T'.heap (locs ++ L) e1.symm (by rw [← e2]; exact X'.warmed.alike) hp hb k1 k2 k3 T' rfl X'
    exact ⟨t2, st t2 a1, b1⟩
  · obtain ⟨k1, k2, k3⟩ := vx_keep h0 e1 hS hAX hf hL hF
    obtain ⟨t2, a1, b1⟩ := kx E ce q u t T'.heap (locs ++ L) e1.symm (by rw [← e2]; exact X'.warmed.alike) hp hb k1 k2 k3 (by rw [e1]; exact hce) hcv hcl T' rfl X'
    exact ⟨t2, st.trans a1, b1⟩
theorem vx_calld {S SX : Type} {post : UInt64 → S → Prop} {px : SX → Prop} {B : S → State → Prop} {BX : String → SX → State → Prop} {AX : Nat → Prop} (hr : vx_Run p l e R s m args below meth c H locs cells slots mc ms (F0 m pc ls st0) rest (va_Qd post B A1 a) (vx_X px BX AX) free) (hS : va_S A0 H0 H locs) (hA : ∀ q, q < H.size → A1 q → A0 q) (hf : ∀ q, free q → A0 q) (hAX : ∀ q, q < H.size → AX q → A0 q)
    (kx : ∀ (E : String) (ce : Cell) (q9 : Addr) (u : SX) (t : State) (H1 : Heap) (locs1 : List Loc), t.heap = H1 → s.vm.Alike t.vm → px u → BX E u t → H.size ≤ H1.size → (∀ q : Nat, q < H.size → ¬ AX q → H1[q]? = H[q]?) → va_S A0 H0 H1 locs1 → H1[q9]? = some ce → ce.vm = .none → s.vm.findClass E = some ce.cls → vx_W p l e R s m args below meth c H1 locs1 (cells + mc) (slots + ms) Q (F0 m pc ls rest) q9)
    (kk : ∀ (r : UInt64) (u : S) (t : State) (H1 : Heap) (locs1 : List Loc), t.heap = H1 → s.vm.Alike t.vm → post r u → B u t → H.size ≤ H1.size → (∀ q : Nat, q < H.size → ¬ A1 q → H1[q]? = H[q]?) → va_S A0 H0 H1 locs1 → W p l e R s m args below meth c H1 locs1 (cells + mc) (slots + ms) Q (F0 m (pc + 3) ls (.double r :: rest))) : W p l e R s m args below meth c H locs cells slots Q (F0 m pc ls st0) := by
  intro T hT X
  rcases hr T hT X with ⟨v, st₀, t, T', L, h0, X', hL, e1, e2, ⟨⟨r, u, hv, hp, hb⟩, hF⟩, st⟩ | ⟨q, st₀, t, T', L, E, ce, h0, X', hL, e1, e2, ⟨u, hp, hb, hF⟩, hce, hcv, hcl, st⟩
  · cases hv
    obtain ⟨k1, k2, k3⟩ := vx_keep h0 e1 hS hA hf hL hF
    obtain ⟨t2, a1, b1⟩ := kk r u t T'.heap (locs ++ L) e1.symm (by rw [← e2]; exact X'.warmed.alike) hp hb k1 k2 k3 T' rfl X'
    exact ⟨t2, st t2 a1, b1⟩
  · obtain ⟨k1, k2, k3⟩ := vx_keep h0 e1 hS hAX hf hL hF
    obtain ⟨t2, a1, b1⟩ := kx E ce q u t T'.heap (locs ++ L) e1.symm (by rw [← e2]; exact X'.warmed.alike) hp hb k1 k2 k3 (by rw [e1]; exact hce) hcv hcl T' rfl X'
    exact ⟨t2, st.trans a1, b1⟩
theorem vx_callv {S SX : Type} {post : S → Prop} {px : SX → Prop} {B : S → State → Prop} {BX : String → SX → State → Prop} {AX : Nat → Prop} (hr : vx_Run p l e R s m args below meth c H locs cells slots mc ms (F0 m pc ls st0) rest (va_Qv post B A1 a) (vx_X px BX AX) free) (hS : va_S A0 H0 H locs) (hA : ∀ q, q < H.size → A1 q → A0 q) (hf : ∀ q, free q → A0 q) (hAX : ∀ q, q < H.size → AX q → A0 q)
    (kx : ∀ (E : String) (ce : Cell) (q9 : Addr) (u : SX) (t : State) (H1 : Heap) (locs1 : List Loc), t.heap = H1 → s.vm.Alike t.vm → px u → BX E u t → H.size ≤ H1.size → (∀ q : Nat, q < H.size → ¬ AX q → H1[q]? = H[q]?) → va_S A0 H0 H1 locs1 → H1[q9]? = some ce → ce.vm = .none → s.vm.findClass E = some ce.cls → vx_W p l e R s m args below meth c H1 locs1 (cells + mc) (slots + ms) Q (F0 m pc ls rest) q9)
    (kk : ∀ (u : S) (t : State) (H1 : Heap) (locs1 : List Loc), t.heap = H1 → s.vm.Alike t.vm → post u → B u t → H.size ≤ H1.size → (∀ q : Nat, q < H.size → ¬ A1 q → H1[q]? = H[q]?) → va_S A0 H0 H1 locs1 → W p l e R s m args below meth c H1 locs1 (cells + mc) (slots + ms) Q (F0 m (pc + 3) ls (rest))) : W p l e R s m args below meth c H locs cells slots Q (F0 m pc ls st0) := by
  intro T hT X
  rcases hr T hT X with ⟨v, st₀, t, T', L, h0, X', hL, e1, e2, ⟨⟨u, hv, hp, hb⟩, hF⟩, st⟩ | ⟨q, st₀, t, T', L, E, ce, h0, X', hL, e1, e2, ⟨u, hp, hb, hF⟩, hce, hcv, hcl, st⟩
  · cases hv
    obtain ⟨k1, k2, k3⟩ := vx_keep h0 e1 hS hA hf hL hF
    obtain ⟨t2, a1, b1⟩ := kk u t T'.heap (locs ++ L) e1.symm (by rw [← e2]; exact X'.warmed.alike) hp hb k1 k2 k3 T' rfl X'
    exact ⟨t2, st t2 a1, b1⟩
  · obtain ⟨k1, k2, k3⟩ := vx_keep h0 e1 hS hAX hf hL hF
    obtain ⟨t2, a1, b1⟩ := kx E ce q u t T'.heap (locs ++ L) e1.symm (by rw [← e2]; exact X'.warmed.alike) hp hb k1 k2 k3 (by rw [e1]; exact hce) hcv hcl T' rfl X'
    exact ⟨t2, st.trans a1, b1⟩
/-- caught by the row x of this method's table; the rows ahead don't take it -/
theorem vx_catch {own name : String} {E : String} {ce : Cell} {q : Addr} (hown : s.vm.findClass own = some m.cls) (pre : List ExceptionTableEntry) (x : ExceptionTableEntry) (suf : List ExceptionTableEntry) (hsplit : c.exceptionTable.toList = pre ++ x :: suf)
    (hpass : ∀ z ∈ pre, covers z pc = false ∨ (z.catchType ≠ 0 ∧ ∃ nm : String, (Cond.classLink own z.catchType nm).before args s = true ∧ va_Nc E nm s)) (hx : covers x pc = true) (h0 : x.catchType ≠ 0)
    (hlink : (Cond.classLink own x.catchType name).before args s = true) (hcast : (Cond.castable E name).before args s = true) (hcell : H[q]? = some ce) (hv : ce.vm = .none) (hcl : s.vm.findClass E = some ce.cls)
    (kk : W p l e R s m args below meth c H locs cells slots Q (F0 m x.handlerPc ls [.ref q])) : vx_W p l e R s m args below meth c H locs cells slots Q (F0 m pc ls rest) q := by
  intro T hT X
  have hpl : e.platform.magicAccessors = ({} : Platform).magicAccessors := by rw [X.admits.platform]
  obtain ⟨c3, c4, hc3, hc4, hasg⟩ := Cond.castable_spec hcast
  cases Option.some.inj (hc3.symm.trans hcl)
  obtain ⟨c5, hc5, hcl5⟩ := Cond.classLink_spec hown hlink e.platform hpl
  cases Option.some.inj (hc4.symm.trans hc5)
  obtain ⟨vm', X', st⟩ := X.thenCaughtThrough q (g := F0 m pc ls rest) rfl (Steps.refl _) (by rw [hT]; exact hcell) (by rw [hv]; rfl) (by obtain ⟨k9, h9, -⟩ := Vm.findClass_spec hcl; exact ⟨k9, h9⟩) pre x suf hsplit
    (fun z hz => by
      rcases hpass z hz with h | ⟨hz0, nm, hl1, hn1⟩
      · exact Or.inl h
      · obtain ⟨c6, hc6, hcl6⟩ := Cond.classLink_spec hown hl1 e.platform hpl
        obtain ⟨a8, b8, h1, h2, h3⟩ := hn1
        cases Option.some.inj (h1.symm.trans hcl)
        cases Option.some.inj (h2.symm.trans hc6)
        exact Or.inr ⟨hz0, _, hcl6, h3⟩) hx (Or.inr ⟨h0, c4, hcl5, hasg⟩)
  obtain ⟨t, a1, b1⟩ := kk (T.setVm vm') hT X'
  exact ⟨t, st.trans a1, b1⟩
end Rows
section Ends
variable {p : Program} {l : Launch} {e : Env} {R : Room} {s : State} {m : MethodId} {args : Array Value} {below : List Frame} {meth : Method} {c : Code} {H : Heap} {locs : List Loc} {cells slots : Nat} {Q : State → Prop}
variable {mc ms : Nat} {free : Addr → Prop} {A0 A1 : Nat → Prop} {H0 : Heap} {a : Array Value} {ls : Array Slot} {st0 rest : List Value}
variable {Qc : Array Value → State → Outcome → State → Prop} {XC : String → State → State → Prop}
/-- what a body that may throw owes at its end -/
def vx_MQ (below : List Frame) (Qc : Array Value → State → Outcome → State → Prop) (XC : String → State → State → Prop) (a : Array Value) (s : State) (mc ms : Nat) (free : Addr → Prop) : State → Prop := fun t =>
  ∃ o, t.status = .running ∧ Ended t below o ∧ vx_Q Qc XC mc ms free a s o t
theorem vx_ret {g : JFrame} {mc ms : Nat} (k : W p l e R s m args below meth c H locs cells slots (MQ below Qc args s mc ms free) g) : W p l e R s m args below meth c H locs cells slots (vx_MQ below Qc XC args s mc ms free) g := by
  intro T hT X
  obtain ⟨t, a1, o, b1, b2, b3, b4⟩ := k T hT X
  exact ⟨t, a1, o, b1, b2, Or.inl ⟨b3, b4⟩⟩
/-- not caught here: it goes on to the caller -/
theorem vx_widen {g : JFrame} {q : Addr} {k n : Nat} (h1 : cells ≤ k) (h2 : slots ≤ n) (kk : vx_W p l e R s m args below meth c H locs k n Q g q) : vx_W p l e R s m args below meth c H locs cells slots Q g q := fun T hT X => kk T hT (stand_widen X h1 h2)
theorem vx_out {pc : Nat} {E : String} {ce : Cell} {q : Addr} {mc ms : Nat} (hout : ∀ x ∈ c.exceptionTable.toList, covers x pc = false) (hlocks : meth.locks = false) (hcell : H[q]? = some ce) (hv : ce.vm = .none) (hcl : s.vm.findClass E = some ce.cls)
    (hx : ∀ t : State, t.heap = H → s.vm.Alike t.vm → XC E s t) (hf : ∀ z ∈ locs, free z.base) (hc : cells ≤ mc) (hs : slots ≤ ms) :
    vx_W p l e R s m args below meth c H locs cells slots (vx_MQ below Qc XC args s mc ms free) (F0 m pc ls rest) q := by
  intro T hT X
  obtain ⟨st1, hrun, hend, hW, hsm⟩ := X.leaveThrown q (g := F0 m pc ls rest) rfl rfl rfl hout hlocks
  have hcell9 : (T.setFrames (.throwing q :: below)).heap[q]? = some ce := by
    show T.heap[q]? = some ce
    rw [hT]; exact hcell
  exact ⟨_, st1, .threw q, hrun, hend, Or.inr ⟨q, rfl, E, ce, locs, hx _ hT hW.alike, hcell9, hv, hcl, hW, hsm.mono hc hs, hf⟩⟩
theorem vx_frame {U : State} {k n : Nat} (h : s.sameButNew ({ U with vm := s.vm } : State) locs k n) : s.heap.size ≤ U.heap.size ∧ ∀ q : Nat, q < s.heap.size → (∀ z ∈ locs, z.base ≠ q) → U.heap[q]? = s.heap[q]? := by
  obtain ⟨-, h2, -, -, -, h6⟩ := h
  refine ⟨h2, fun q hq hz => ?_⟩
  obtain ⟨c9, e1, e2, e3, e4⟩ := h6 q _ (Array.getElem?_eq_getElem hq)
  have hs : c9.slots = (s.heap[q]).slots := Array.ext_getElem? fun i => e4 i fun hm => hz _ hm rfl
  have h9 : c9 = s.heap[q] := by
    rw [hs] at e2
    exact e2
  have e5 : U.heap[q]? = some c9 := e1
  rw [e5, h9, Array.getElem?_eq_getElem hq]
/-- the words of a throw but the four that speak of the heap -/
def vx_no (w : Cond) : Bool := decide (w ≠ .isRef (.static Bundle.tN "UNASSIGNED_STACK" Bundle.steD)) && decide (w ≠ .isRef (.static Bundle.tN "SUPPRESSED_SENTINEL" Bundle.listD)) && decide (w ≠ .laysStatic Bundle.tN "UNASSIGNED_STACK" Bundle.steD) && decide (w ≠ .laysStatic Bundle.tN "SUPPRESSED_SENTINEL" Bundle.listD)
def vx_at0 (own : String) (ic : Nat) (X : String) (names : List String) : List Cond := (Bundle.ownAtoms0 own ic X names).filter vx_no
def vx_atS (own : String) (ic : Nat) (X : String) (names : List String) : List Cond := (Bundle.ownAtoms own ic X names).filter vx_no
/-- a word that the tables alone decide, or a good one -/
def vx_ot (w : Cond) : Bool := w.onTables || goodWord w
theorem vx_ot_at {args a' : Array Value} {s U : State} {w : Cond} (hW : s.WarmedH U.vm) (hvm : s.vm = U.vm) (hg : vx_ot w = true) (h : w.before args s = true) : w.before a' U = true := by
  simp only [vx_ot, Bool.or_eq_true] at hg
  rcases hg with hg | hg
  · exact va_tabs hg hvm h
  · exact word_at hW (good_of_word hg) h
/-- a list's words: the good ones out of the method's own list, the others by premises of their own -/
theorem vx_hat {args : Array Value} {s : State} {L B : List Cond} (h1 : ∀ w ∈ L.filter goodWord, w.before args s = true) (h2 : ∀ w ∈ L.filter (fun w => !goodWord w), w ∈ B) (h3 : ∀ w ∈ B, w.before args s = true) : ∀ w ∈ L, w.before args s = true := by
  intro w hw
  by_cases g : goodWord w = true
  · exact h1 w (List.mem_filter.mpr ⟨hw, g⟩)
  · refine h3 w (h2 w (List.mem_filter.mpr ⟨hw, ?_⟩))
    show (!goodWord w) = true
    cases hgw : goodWord w
    · rfl
    · exact absurd hgw g
theorem vx_c {args : Array Value} {s : State} {w : Cond} {B : List Cond} (h : w.before args s = true) (t : ∀ w ∈ B, w.before args s = true) : ∀ w' ∈ w :: B, w'.before args s = true := fun w' h' => (List.mem_cons.mp h').elim (fun e => by rw [e]; exact h) (t w')
theorem vx_n {args : Array Value} {s : State} : ∀ w ∈ ([] : List Cond), w.before args s = true := fun _ h => nomatch h
theorem vx_own {args : Array Value} {s : State} {L : List Cond} (h1 : ∀ w ∈ L.filter vx_no, w.before args s = true)
    (hU : (Cond.isRef (.static Bundle.tN "UNASSIGNED_STACK" Bundle.steD)).before args s = true) (hN : (Cond.isRef (.static Bundle.tN "SUPPRESSED_SENTINEL" Bundle.listD)).before args s = true)
    (lU : (Cond.laysStatic Bundle.tN "UNASSIGNED_STACK" Bundle.steD).before args s = true) (lN : (Cond.laysStatic Bundle.tN "SUPPRESSED_SENTINEL" Bundle.listD).before args s = true) : ∀ w ∈ L, w.before args s = true := by
  intro w hw
  by_cases e1 : w = .isRef (.static Bundle.tN "UNASSIGNED_STACK" Bundle.steD)
  · rw [e1]; exact hU
  · by_cases e2 : w = .isRef (.static Bundle.tN "SUPPRESSED_SENTINEL" Bundle.listD)
    · rw [e2]; exact hN
    · by_cases e3 : w = .laysStatic Bundle.tN "UNASSIGNED_STACK" Bundle.steD
      · rw [e3]; exact lU
      · by_cases e4 : w = .laysStatic Bundle.tN "SUPPRESSED_SENTINEL" Bundle.listD
        · rw [e4]; exact lN
        · exact h1 w (List.mem_filter.mpr ⟨hw, by unfold vx_no; rw [decide_eq_true e1, decide_eq_true e2, decide_eq_true e3, decide_eq_true e4]; rfl⟩)
/-- where a static field lies, its class's statics cell in H -/
def vx_L (C n d : String) (A : Nat → Prop) (U : State) (H : Heap) : Prop := ∃ (c : ClassId) (k : Class) (i : Nat) (f : Field) (a : Nat) (cell : Cell), U.vm.findClass C = some c ∧ U.fieldFound? C n d = some (c, k, i, f) ∧ f.isStatic = true ∧ k.statics = some a ∧ H[a]? = some cell ∧ cell.vm.isStatics = true ∧ cell.cls = c ∧ f.slot < cell.slots.size ∧ k.staticTypes[f.slot]? = some f.type ∧ ¬ A a
theorem vx_L.moved {C n d : String} {A : Nat → Prop} {u U : State} {H : Heap} (hvm : u.vm.Alike U.vm) (h : vx_L C n d A u H) : vx_L C n d A U H := by
  obtain ⟨c, k, i, f, a, cell, h1, h2, h3, h4, h5, h6, h7, h8, h9, h10⟩ := h
  obtain ⟨k', hi', he⟩ := State.fieldFound?_setVm hvm h2
  exact ⟨c, k', i, f, a, cell, by rw [hvm.findClass]; exact h1, hi', h3, by rw [he]; exact h4, h5, h6, h7, h8, by rw [he]; exact h9, h10⟩
theorem vx_L.kept {C n d : String} {A : Nat → Prop} {U : State} {H H1 : Heap} (h : vx_L C n d A U H) (hq : ∀ a : Nat, a < H.size → ¬ A a → H1[a]? = H[a]?) : vx_L C n d A U H1 := by
  obtain ⟨c, k, i, f, a, cell, h1, h2, h3, h4, h5, h6, h7, h8, h9, h10⟩ := h
  exact ⟨c, k, i, f, a, cell, h1, h2, h3, h4, by rw [hq a (Array.getElem?_eq_some_iff.mp h5).1 h10]; exact h5, h6, h7, h8, h9, h10⟩
theorem vx_L.narrow {C n d : String} {A B : Nat → Prop} {U : State} {H : Heap} (h : vx_L C n d A U H) (hAB : ∀ q, B q → A q) : vx_L C n d B U H := by
  obtain ⟨c, k, i, f, a, cell, h1, h2, h3, h4, h5, h6, h7, h8, h9, h10⟩ := h
  exact ⟨c, k, i, f, a, cell, h1, h2, h3, h4, h5, h6, h7, h8, h9, fun z => h10 (hAB _ z)⟩
theorem vx_L.word {C n d : String} {A : Nat → Prop} {s : State} {args : Array Value} (h : vx_L C n d A s s.heap) : (Cond.laysStatic C n d).before args s = true := by
  obtain ⟨c, k, i, f, a, cell, h1, h2, h3, h4, h5, h6, h7, h8, h9, -⟩ := h
  show (Cond.laysStatic C n d).holds args s none s [] = true
  exact Cond.laysStatic_of h1 h2 h3 h4 h5 h6 h7 h8 h9
/-- .. and what it holds: null or some reference -/
def vx_Zq (C n d : String) (A : Nat → Prop) (U : State) (H : Heap) : Prop := va_Zq C n d A U H ∧ vx_L C n d A U H
theorem vx_Zq.moved {C n d : String} {A : Nat → Prop} {u U : State} {H : Heap} (hvm : u.vm.Alike U.vm) (h : vx_Zq C n d A u H) : vx_Zq C n d A U H := ⟨va_Zq.moved hvm h.1, vx_L.moved hvm h.2⟩
theorem vx_Zq.kept {C n d : String} {A : Nat → Prop} {U : State} {H H1 : Heap} (h : vx_Zq C n d A U H) (hq : ∀ a : Nat, a < H.size → ¬ A a → H1[a]? = H[a]?) : vx_Zq C n d A U H1 := ⟨va_Zq.kept h.1 hq, vx_L.kept h.2 hq⟩
theorem vx_Zq.narrow {C n d : String} {A B : Nat → Prop} {U : State} {H : Heap} (h : vx_Zq C n d A U H) (hAB : ∀ q, B q → A q) : vx_Zq C n d B U H := ⟨va_Zq.narrow h.1 hAB, vx_L.narrow h.2 hAB⟩
theorem vx_Zqof {args : Array Value} {s : State} {C n d : String} {A : Nat → Prop} (hl : (Cond.laysStatic C n d).before args s = true) (hini : (Cond.initialized C).before args s = true) (h : (Cond.isRef (.static C n d)).before args s = true) (hA : ∀ a : Nat, a < s.heap.size → ¬ A a) : vx_Zq C n d A s s.heap := by
  refine ⟨va_Zqof hl hini h hA, ?_⟩
  obtain ⟨c, k, i, f, a, cell, h1, h2, h3, h4, h5, h6, h7, h8, h9⟩ := Cond.laysStatic_spec hl
  exact ⟨c, k, i, f, a, cell, h1, h2, h3, h4, h5, h6, h7, h8, h9, hA a (Array.getElem?_eq_some_iff.mp h5).1⟩
theorem vx_isRef {C n d : String} {v : Value} {A : Nat → Prop} {s : State} {args : Array Value} (h : va_Z C n d v A s s.heap) (hv : v.isRef = true) : (Cond.isRef (.static C n d)).before args s = true := by
  obtain ⟨cf, kf, fi, f, a, cell, h1, h2, h3, h4, h5, h6, h7, -⟩ := h
  have he : (Term.static C n d).eval args s none [] s = some v := by
    simp [Term.eval, State.fieldNamed?, h1, h2, h4, h5, h6, h7]
  simp only [Cond.before, Cond.holds, Cond.value, he]
  cases v <;> simp_all [Value.isRef]
theorem vx_isRefq {C n d : String} {A : Nat → Prop} {s : State} {args : Array Value} (h : va_Zq C n d A s s.heap) : (Cond.isRef (.static C n d)).before args s = true := by
  rcases h with h | ⟨t, h⟩
  · exact vx_isRef h rfl
  · exact vx_isRef h rfl
/-- the same frame, seen from here: as if the method were called anew in this heap -/
theorem vx_rebase {T : State} (X : Stand p l e R s m args below meth c T locs cells slots) {R' : Room} (hf : R'.frames ≤ R.frames) (hl : R'.locals ≤ R.locals) (hc : cells + R'.cells ≤ R.cells) (hs : slots + R'.slots ≤ R.slots) :
    Stand p l e R' ((T.setVm s.vm).setFrames (.invoking m args :: below)) m args below meth c T [] 0 0 := by
  have htop : (T.setVm s.vm).topJava?.isSome := X.here.top
  have hF : ((T.setVm s.vm).setFrames (.invoking m args :: below)).frames = .invoking m args :: below := State.frames_setFrames _ (State.cur_lt_of_top htop)
  obtain ⟨g₀, hg0⟩ := Option.isSome_iff_exists.mp htop
  obtain ⟨r, hr⟩ := State.topJava?_eq_some.mp hg0
  have hl9 : e.platform.stackLimits (T.setVm s.vm).me = e.platform.stackLimits s.me := X.limits
  have hb9 : (T.setVm s.vm).me.stackBytes = s.me.stackBytes := X.bytes
  refine ⟨X.admits, X.cas, X.clock, hF, ?_, X.hears, X.method, X.code, X.here, X.tail, X.warmed, ?_, ?_, ?_⟩
  · have h := X.room
    have hU : ((T.setVm s.vm).setFrames (.invoking m args :: below)).localsInUse = s.localsInUse := by
      rw [State.localsInUse_invoking hF (meth := meth) (c := c) X.method X.code, State.localsInUse_invoking X.frames X.method X.code]
    simp only [State.hasRoom, Bool.and_eq_true, decide_eq_true_eq] at h ⊢
    obtain ⟨⟨⟨⟨h1, h2, h3, h4, h5, h6⟩, h7⟩, h8⟩, h9⟩ := h
    rw [X.frames, List.length_cons] at h2 h3
    have q1 := X.heapSize
    have q2 := X.used
    simp only [hF, hU, List.length_cons, State.stackLimits_setFrames, State.stackBytes_setFrames, hl9, hb9]
    refine ⟨⟨⟨⟨by omega, by omega, by omega, by omega, by omega, h6⟩, ?_⟩, ?_⟩, X.book⟩
    · show T.heap.size + R'.cells ≤ e.platform.maxCells
      omega
    · show T.slotsUsed + R'.slots ≤ e.platform.maxSlots
      omega
  · rw [State.stackLimits_setFrames]; rfl
  · rw [State.stackBytes_setFrames]; rfl
  · refine ⟨?_, Nat.le_refl _, Nat.le_refl _, ?_, ?_, fun a c9 h9 => ⟨c9, h9, rfl, rfl, fun _ _ => rfl⟩⟩
    · obtain ⟨t, ht, -⟩ := State.frames_cons hr
      show T.setVm s.vm = { ((T.setVm s.vm).setFrames (.invoking m args :: below)).setFrames (T.setVm s.vm).frames with heap := T.heap, slotsUsed := T.slotsUsed }
      rw [State.setFrames_setFrames, State.setFrames_self ht]
      rfl
    · show T.slotsUsed = T.slotsUsed + ((T.heap.toList.drop T.heap.size).map (·.slots.size)).sum
      rw [List.drop_eq_nil_of_le (Nat.le_of_eq Array.length_toList)]
      rfl
    · show ((T.heap.toList.drop T.heap.size).map (·.slots.size)).sum ≤ 0
      rw [List.drop_eq_nil_of_le (Nat.le_of_eq Array.length_toList)]
      exact Nat.le_refl _
/-- 'throw new E()': new; dup; invokespecial; athrow -/
theorem vx_throw0 {cc : ByteArray} {pc : Nat} (hexec : p.tables.exec = Jvm.exec) (hb : c.code = cc) (hl : l.stackTraces = false) {own cls : String} {names : List String} {ik ic mc ms : Nat} {A : Nat → Prop}
    (hown : s.vm.findClass own = some m.cls) (hcls : Bundle.fit cls = true) (hnames : ∀ n ∈ names, Bundle.fit n = true)
    (hk : (Cond.classLink own ik cls).before args s = true) (hini : (Cond.initialized cls).before args s = true) (hat : ∀ w ∈ vx_at0 own ic cls names, w.before args s = true)
    (hgood : ∀ w ∈ Cond.classLink own ik cls :: Cond.initialized cls :: vx_at0 own ic cls names, vx_ot w = true)
    (hU : vx_Zq Bundle.tN "UNASSIGNED_STACK" Bundle.steD A s s.heap) (hN : vx_Zq Bundle.tN "SUPPRESSED_SENTINEL" Bundle.listD A s s.heap) (hS : va_S A s.heap H locs) (hsize : ls.size = c.maxLocals)
    (d0 : decode cc pc = .ok (.new ik, 3)) (d3 : decode cc (pc + 3) = .ok (.dup, 1)) (d4 : decode cc (pc + 4) = .ok (.invokespecial ic, 3)) (d7 : decode cc (pc + 7) = .ok (.athrow, 1))
    (hout : ∀ x ∈ c.exceptionTable.toList, covers x (pc + 7) = false)
    (hRframes : names.length + 3 < R.frames) (hRlocals : (rest.map fun v => v.category).sum + (13 * (names.length + 1) + 42) ≤ R.locals) (hRcells : cells + 1 ≤ R.cells) (hRslots : slots + 6 ≤ R.slots) (hlocks : meth.locks = false)
    (hx : ∀ t : State, s.vm.Alike t.vm → H.size ≤ t.heap.size → (∀ q : Nat, q < H.size → t.heap[q]? = H[q]?) → XC cls s t)
    (hf : ∀ z ∈ locs, free z.base) (hc : cells + 1 ≤ mc) (hs : slots + 6 ≤ ms) :
    W p l e R s m args below meth c H locs cells slots (vx_MQ below Qc XC args s mc ms free) (F0 m pc ls rest) := by
  intro T hT X
  have htr : e.platform.stackTraces = false := (show e.platform.stackTraces = l.stackTraces by rw [X.admits.platform]).trans hl
  have Y := vx_rebase X (R' := { frames := R.frames, locals := R.locals, cells := 1, slots := 6 }) (Nat.le_refl _) (Nat.le_refl _) hRcells hRslots
  obtain ⟨s', hA⟩ : ∃ z, z = (T.setVm s.vm).setFrames (.invoking m args :: below) := ⟨_, rfl⟩
  rw [← hA] at Y
  have hvm : s'.vm = s.vm := by rw [hA]; rfl
  have hhp : s'.heap = H := by rw [hA]; exact hT
  have hW0 : s.WarmedH s'.vm := by rw [hvm]; exact State.WarmedH.refl s
  have hat' : ∀ w ∈ vx_at0 own ic cls names, w.before args s' = true := fun w hw => vx_ot_at hW0 hvm.symm (hgood w (List.mem_cons_of_mem _ (List.mem_cons_of_mem _ hw))) (hat w hw)
  have hk' : (Cond.classLink own ik cls).before args s' = true := vx_ot_at hW0 hvm.symm (hgood _ List.mem_cons_self) hk
  have hini' : (Cond.initialized cls).before args s' = true := vx_ot_at hW0 hvm.symm (hgood _ (List.mem_cons_of_mem _ List.mem_cons_self)) hini
  have hU' : vx_Zq Bundle.tN "UNASSIGNED_STACK" Bundle.steD A s' s'.heap := by rw [hhp]; exact vx_Zq.moved hW0.alike (hU.kept hS.2.1)
  have hN' : vx_Zq Bundle.tN "SUPPRESSED_SENTINEL" Bundle.listD A s' s'.heap := by rw [hhp]; exact vx_Zq.moved hW0.alike (hN.kept hS.2.1)
  have h : ∀ w ∈ Bundle.ownAtoms0 own ic cls names, w.before args s' = true := vx_own hat' (vx_isRefq hU'.1) (vx_isRefq hN'.1) hU'.2.word hN'.2.word
  have hown' : s'.vm.findClass own = some m.cls := by rw [hvm]; exact hown
  have hins : (Cond.instantiable cls 6).before args s' = true := h _ (by simp [Bundle.ownAtoms0])
  obtain ⟨vm₁, cX, kX, hfX, hkX, -, -, X₁, st1⟩ := Y.newCold hexec (own := own) (C := cls) (index := ik) (n := 6) hown' hk' hins hini'
    (g := F0 m pc ls rest) rfl (by rw [hb]; exact d0) (Nat.le_refl _) (Nat.le_refl _)
  generalize hT1 : (T.setVm vm₁).pushCell { cls := cX, slots := kX.instanceTypes.map defaultValue, vm := .none } = T1 at X₁ st1
  have hcat : (Value.ref T.heap.size).category = 1 := rfl
  have hcellA : T1.heap[T.heap.size]? = some (freshCell cX kX) := by rw [← hT1]; exact State.heap_pushCell_size _ _
  have d3' : decode c.code (pc + 3) = .ok (.dup, 1) := by rw [hb]; exact d3
  obtain ⟨U, hsteps, hrun, hend, hW, hsame, ce, hce, hO⟩ := X₁.ctorThrow0 hexec htr (own := own) (cls := cls) (names := names) (ic := ic) hown' hcls hnames h (fun x hx => nomatch hx) hfX hkX hcellA (by rw [hhp, hT]; exact Nat.le_refl _)
    (g := { method := m, pc := pc + 4, locals := ls, stack := .ref T.heap.size :: .ref T.heap.size :: rest, locked := none }) rfl hsize rfl rfl (rest := rest) rfl
    (by rw [hb]; exact d4) (by rw [hb]; exact d7) hout hRframes (by simp only [List.map_cons, List.sum_cons, hcat]; omega) hlocks
  obtain ⟨f1, f2⟩ := vx_frame hsame
  rw [hhp] at f1 f2
  have hWs : s.WarmedH U.vm := State.WarmedH.trans hW0 hW
  have hcl : s.vm.findClass cls = some ce.cls := by
    have h9 := hO.cls
    rw [hvm] at h9
    exact h9
  have hall : s.sameButNew ({ U with vm := s.vm } : State) locs mc ms := by
    subst hA
    obtain ⟨e1, e2⟩ := hsame
    rw [State.setFrames_setFrames] at e1
    have h2 : (T.setVm s.vm).sameButNew ({ U with vm := s.vm } : State) [] (0 + 1) (0 + 6) := ⟨e1, e2⟩
    have h3 := X.same.trans h2
    rw [List.append_nil] at h3
    exact h3.mono hc hs
  refine ⟨U, ?_, .threw T.heap.size, hrun, hend, Or.inr ⟨T.heap.size, rfl, cls, ce, locs, hx U hWs.alike f1 (fun q hq => f2 q hq (fun z hz => nomatch hz)), hce, hO.vm, hcl, hWs, hall, hf⟩⟩
  refine st1 _ ?_
  show Steps p.tables e below (T1.setTop { method := m, pc := pc + 3, locals := ls, stack := .ref T.heap.size :: rest, locked := none }) _
  jvm_step X₁.here [X₁.here.top, hexec, d3', Value.category]
  exact hsteps
/-- 'throw new E("text")': new; dup; ldc; invokespecial; athrow -/
theorem vx_throwS {cc : ByteArray} {pc : Nat} (hexec : p.tables.exec = Jvm.exec) (hb : c.code = cc) (hl : l.stackTraces = false) {own cls text : String} {names : List String} {ik is ic mc ms sa : Nat} {A : Nat → Prop}
    (hown : s.vm.findClass own = some m.cls) (hcls : Bundle.fit cls = true) (hnames : ∀ n ∈ names, Bundle.fit n = true)
    (hk : (Cond.classLink own ik cls).before args s = true) (hini : (Cond.initialized cls).before args s = true) (hstr : vk_R own is text sa s) (hat : ∀ w ∈ vx_atS own ic cls names, w.before args s = true)
    (hgood : ∀ w ∈ Cond.classLink own ik cls :: Cond.initialized cls :: vx_atS own ic cls names, vx_ot w = true)
    (hU : vx_Zq Bundle.tN "UNASSIGNED_STACK" Bundle.steD A s s.heap) (hN : vx_Zq Bundle.tN "SUPPRESSED_SENTINEL" Bundle.listD A s s.heap) (hS : va_S A s.heap H locs) (hsize : ls.size = c.maxLocals)
    (d0 : decode cc pc = .ok (.new ik, 3)) (d3 : decode cc (pc + 3) = .ok (.dup, 1)) (d4 : decode cc (pc + 4) = .ok (.ldc is, 2)) (d6 : decode cc (pc + 6) = .ok (.invokespecial ic, 3)) (d9 : decode cc (pc + 9) = .ok (.athrow, 1))
    (hout : ∀ x ∈ c.exceptionTable.toList, covers x (pc + 9) = false)
    (hRframes : names.length + 3 < R.frames) (hRlocals : (rest.map fun v => v.category).sum + (13 * (names.length + 1) + 43) ≤ R.locals) (hRcells : cells + 1 ≤ R.cells) (hRslots : slots + 6 ≤ R.slots) (hlocks : meth.locks = false)
    (hx : ∀ t : State, s.vm.Alike t.vm → H.size ≤ t.heap.size → (∀ q : Nat, q < H.size → t.heap[q]? = H[q]?) → XC cls s t)
    (hf : ∀ z ∈ locs, free z.base) (hc : cells + 1 ≤ mc) (hs : slots + 6 ≤ ms) :
    W p l e R s m args below meth c H locs cells slots (vx_MQ below Qc XC args s mc ms free) (F0 m pc ls rest) := by
  intro T hT X
  have htr : e.platform.stackTraces = false := (show e.platform.stackTraces = l.stackTraces by rw [X.admits.platform]).trans hl
  have Y := vx_rebase X (R' := { frames := R.frames, locals := R.locals, cells := 1, slots := 6 }) (Nat.le_refl _) (Nat.le_refl _) hRcells hRslots
  obtain ⟨s', hA⟩ : ∃ z, z = (T.setVm s.vm).setFrames (.invoking m args :: below) := ⟨_, rfl⟩
  rw [← hA] at Y
  have hvm : s'.vm = s.vm := by rw [hA]; rfl
  have hhp : s'.heap = H := by rw [hA]; exact hT
  have hW0 : s.WarmedH s'.vm := by rw [hvm]; exact State.WarmedH.refl s
  have hat' : ∀ w ∈ vx_atS own ic cls names, w.before args s' = true := fun w hw => vx_ot_at hW0 hvm.symm (hgood w (List.mem_cons_of_mem _ (List.mem_cons_of_mem _ hw))) (hat w hw)
  have hk' : (Cond.classLink own ik cls).before args s' = true := vx_ot_at hW0 hvm.symm (hgood _ List.mem_cons_self) hk
  have hini' : (Cond.initialized cls).before args s' = true := vx_ot_at hW0 hvm.symm (hgood _ (List.mem_cons_of_mem _ List.mem_cons_self)) hini
  have hU' : vx_Zq Bundle.tN "UNASSIGNED_STACK" Bundle.steD A s' s'.heap := by rw [hhp]; exact vx_Zq.moved hW0.alike (hU.kept hS.2.1)
  have hN' : vx_Zq Bundle.tN "SUPPRESSED_SENTINEL" Bundle.listD A s' s'.heap := by rw [hhp]; exact vx_Zq.moved hW0.alike (hN.kept hS.2.1)
  have h : ∀ w ∈ Bundle.ownAtoms own ic cls names, w.before args s' = true := vx_own hat' (vx_isRefq hU'.1) (vx_isRefq hN'.1) hU'.2.word hN'.2.word
  have hown' : s'.vm.findClass own = some m.cls := by rw [hvm]; exact hown
  have hins : (Cond.instantiable cls 6).before args s' = true := h _ (by simp [Bundle.ownAtoms])
  obtain ⟨vm₁, cX, kX, hfX, hkX, -, -, X₁, st1⟩ := Y.newCold hexec (own := own) (C := cls) (index := ik) (n := 6) hown' hk' hins hini'
    (g := F0 m pc ls rest) rfl (by rw [hb]; exact d0) (Nat.le_refl _) (Nat.le_refl _)
  generalize hT1 : (T.setVm vm₁).pushCell { cls := cX, slots := kX.instanceTypes.map defaultValue, vm := .none } = T1 at X₁ st1
  have hcat : (Value.ref T.heap.size).category = 1 := rfl
  have hcellA : T1.heap[T.heap.size]? = some (freshCell cX kX) := by rw [← hT1]; exact State.heap_pushCell_size _ _
  have d3' : decode c.code (pc + 3) = .ok (.dup, 1) := by rw [hb]; exact d3
  have d4' : decode c.code (pc + 4) = .ok (.ldc is, 2) := by rw [hb]; exact d4
  have hstr' : vk_R own is text sa s' := vk_R.warm hW0 hstr
  obtain ⟨U, hsteps, hrun, hend, hW, hsame, ce, hce, hO⟩ := X₁.ctorThrowS hexec htr (own := own) (cls := cls) (names := names) (ic := ic) hown' hcls hnames h (fun x hx => nomatch hx) hfX hkX hcellA (by rw [hhp, hT]; exact Nat.le_refl _) (msg := .ref sa) rfl
    (g := { method := m, pc := pc + 6, locals := ls, stack := .ref sa :: .ref T.heap.size :: .ref T.heap.size :: rest, locked := none }) rfl hsize rfl rfl (rest := rest) rfl
    (by rw [hb]; exact d6) (by rw [hb]; exact d9) hout hRframes (by simp only [List.map_cons, List.sum_cons, hcat]; omega) hlocks
  obtain ⟨f1, f2⟩ := vx_frame hsame
  rw [hhp] at f1 f2
  have hWs : s.WarmedH U.vm := State.WarmedH.trans hW0 hW
  have hcl : s.vm.findClass cls = some ce.cls := by
    have h9 := hO.cls
    rw [hvm] at h9
    exact h9
  have hall : s.sameButNew ({ U with vm := s.vm } : State) locs mc ms := by
    subst hA
    obtain ⟨e1, e2⟩ := hsame
    rw [State.setFrames_setFrames] at e1
    have h2 : (T.setVm s.vm).sameButNew ({ U with vm := s.vm } : State) [] (0 + 1) (0 + 6) := ⟨e1, e2⟩
    have h3 := X.same.trans h2
    rw [List.append_nil] at h3
    exact h3.mono hc hs
  refine ⟨U, ?_, .threw T.heap.size, hrun, hend, Or.inr ⟨T.heap.size, rfl, cls, ce, locs, hx U hWs.alike f1 (fun q hq => f2 q hq (fun z hz => nomatch hz)), hce, hO.vm, hcl, hWs, hall, hf⟩⟩
  refine st1 _ ?_
  show Steps p.tables e below (T1.setTop { method := m, pc := pc + 3, locals := ls, stack := .ref T.heap.size :: rest, locked := none }) _
  jvm_step X₁.here [X₁.here.top, hexec, d3', Value.category]
  exact X₁.ldcString hexec (own := own) (text := text) (index := is) (a := sa) hown' hstr'.1 hstr'.2
    (g := { method := m, pc := pc + 4, locals := ls, stack := .ref T.heap.size :: .ref T.heap.size :: rest, locked := none }) rfl d4' _ hsteps
/-- 'throw new E("text")', the text by a wide index -/
theorem vx_throwSW {cc : ByteArray} {pc : Nat} (hexec : p.tables.exec = Jvm.exec) (hb : c.code = cc) (hl : l.stackTraces = false) {own cls text : String} {names : List String} {ik is ic mc ms sa : Nat} {A : Nat → Prop}
    (hown : s.vm.findClass own = some m.cls) (hcls : Bundle.fit cls = true) (hnames : ∀ n ∈ names, Bundle.fit n = true)
    (hk : (Cond.classLink own ik cls).before args s = true) (hini : (Cond.initialized cls).before args s = true) (hstr : vk_R own is text sa s) (hat : ∀ w ∈ vx_atS own ic cls names, w.before args s = true)
    (hgood : ∀ w ∈ Cond.classLink own ik cls :: Cond.initialized cls :: vx_atS own ic cls names, vx_ot w = true)
    (hU : vx_Zq Bundle.tN "UNASSIGNED_STACK" Bundle.steD A s s.heap) (hN : vx_Zq Bundle.tN "SUPPRESSED_SENTINEL" Bundle.listD A s s.heap) (hS : va_S A s.heap H locs) (hsize : ls.size = c.maxLocals)
    (d0 : decode cc pc = .ok (.new ik, 3)) (d3 : decode cc (pc + 3) = .ok (.dup, 1)) (d4 : decode cc (pc + 4) = .ok (.ldc_w is, 3)) (d7 : decode cc (pc + 7) = .ok (.invokespecial ic, 3)) (d10 : decode cc (pc + 10) = .ok (.athrow, 1))
    (hout : ∀ x ∈ c.exceptionTable.toList, covers x (pc + 10) = false)
    (hRframes : names.length + 3 < R.frames) (hRlocals : (rest.map fun v => v.category).sum + (13 * (names.length + 1) + 43) ≤ R.locals) (hRcells : cells + 1 ≤ R.cells) (hRslots : slots + 6 ≤ R.slots) (hlocks : meth.locks = false)
    (hx : ∀ t : State, s.vm.Alike t.vm → H.size ≤ t.heap.size → (∀ q : Nat, q < H.size → t.heap[q]? = H[q]?) → XC cls s t)
    (hf : ∀ z ∈ locs, free z.base) (hc : cells + 1 ≤ mc) (hs : slots + 6 ≤ ms) :
    W p l e R s m args below meth c H locs cells slots (vx_MQ below Qc XC args s mc ms free) (F0 m pc ls rest) := by
  intro T hT X
  have htr : e.platform.stackTraces = false := (show e.platform.stackTraces = l.stackTraces by rw [X.admits.platform]).trans hl
  have Y := vx_rebase X (R' := { frames := R.frames, locals := R.locals, cells := 1, slots := 6 }) (Nat.le_refl _) (Nat.le_refl _) hRcells hRslots
  obtain ⟨s', hA⟩ : ∃ z, z = (T.setVm s.vm).setFrames (.invoking m args :: below) := ⟨_, rfl⟩
  rw [← hA] at Y
  have hvm : s'.vm = s.vm := by rw [hA]; rfl
  have hhp : s'.heap = H := by rw [hA]; exact hT
  have hW0 : s.WarmedH s'.vm := by rw [hvm]; exact State.WarmedH.refl s
  have hat' : ∀ w ∈ vx_atS own ic cls names, w.before args s' = true := fun w hw => vx_ot_at hW0 hvm.symm (hgood w (List.mem_cons_of_mem _ (List.mem_cons_of_mem _ hw))) (hat w hw)
  have hk' : (Cond.classLink own ik cls).before args s' = true := vx_ot_at hW0 hvm.symm (hgood _ List.mem_cons_self) hk
  have hini' : (Cond.initialized cls).before args s' = true := vx_ot_at hW0 hvm.symm (hgood _ (List.mem_cons_of_mem _ List.mem_cons_self)) hini
  have hU' : vx_Zq Bundle.tN "UNASSIGNED_STACK" Bundle.steD A s' s'.heap := by rw [hhp]; exact vx_Zq.moved hW0.alike (hU.kept hS.2.1)
  have hN' : vx_Zq Bundle.tN "SUPPRESSED_SENTINEL" Bundle.listD A s' s'.heap := by rw [hhp]; exact vx_Zq.moved hW0.alike (hN.kept hS.2.1)
  have h : ∀ w ∈ Bundle.ownAtoms own ic cls names, w.before args s' = true := vx_own hat' (vx_isRefq hU'.1) (vx_isRefq hN'.1) hU'.2.word hN'.2.word
  have hown' : s'.vm.findClass own = some m.cls := by rw [hvm]; exact hown
  have hins : (Cond.instantiable cls 6).before args s' = true := h _ (by simp [Bundle.ownAtoms])
  obtain ⟨vm₁, cX, kX, hfX, hkX, -, -, X₁, st1⟩ := Y.newCold hexec (own := own) (C := cls) (index := ik) (n := 6) hown' hk' hins hini'
    (g := F0 m pc ls rest) rfl (by rw [hb]; exact d0) (Nat.le_refl _) (Nat.le_refl _)
  generalize hT1 : (T.setVm vm₁).pushCell { cls := cX, slots := kX.instanceTypes.map defaultValue, vm := .none } = T1 at X₁ st1
  have hcat : (Value.ref T.heap.size).category = 1 := rfl
  have hcellA : T1.heap[T.heap.size]? = some (freshCell cX kX) := by rw [← hT1]; exact State.heap_pushCell_size _ _
  have d3' : decode c.code (pc + 3) = .ok (.dup, 1) := by rw [hb]; exact d3
  have d4' : decode c.code (pc + 4) = .ok (.ldc_w is, 3) := by rw [hb]; exact d4
  have hstr' : vk_R own is text sa s' := vk_R.warm hW0 hstr
  obtain ⟨U, hsteps, hrun, hend, hW, hsame, ce, hce, hO⟩ := X₁.ctorThrowS hexec htr (own := own) (cls := cls) (names := names) (ic := ic) hown' hcls hnames h (fun x hx => nomatch hx) hfX hkX hcellA (by rw [hhp, hT]; exact Nat.le_refl _) (msg := .ref sa) rfl
    (g := { method := m, pc := pc + 7, locals := ls, stack := .ref sa :: .ref T.heap.size :: .ref T.heap.size :: rest, locked := none }) rfl hsize rfl rfl (rest := rest) rfl
    (by rw [hb]; exact d7) (by rw [hb]; exact d10) hout hRframes (by simp only [List.map_cons, List.sum_cons, hcat]; omega) hlocks
  obtain ⟨f1, f2⟩ := vx_frame hsame
  rw [hhp] at f1 f2
  have hWs : s.WarmedH U.vm := State.WarmedH.trans hW0 hW
  have hcl : s.vm.findClass cls = some ce.cls := by
    have h9 := hO.cls
    rw [hvm] at h9
    exact h9
  have hall : s.sameButNew ({ U with vm := s.vm } : State) locs mc ms := by
    subst hA
    obtain ⟨e1, e2⟩ := hsame
    rw [State.setFrames_setFrames] at e1
    have h2 : (T.setVm s.vm).sameButNew ({ U with vm := s.vm } : State) [] (0 + 1) (0 + 6) := ⟨e1, e2⟩
    have h3 := X.same.trans h2
    rw [List.append_nil] at h3
    exact h3.mono hc hs
  refine ⟨U, ?_, .threw T.heap.size, hrun, hend, Or.inr ⟨T.heap.size, rfl, cls, ce, locs, hx U hWs.alike f1 (fun q hq => f2 q hq (fun z hz => nomatch hz)), hce, hO.vm, hcl, hWs, hall, hf⟩⟩
  refine st1 _ ?_
  show Steps p.tables e below (T1.setTop { method := m, pc := pc + 3, locals := ls, stack := .ref T.heap.size :: rest, locked := none }) _
  jvm_step X₁.here [X₁.here.top, hexec, d3', Value.category]
  exact X₁.ldcStringW hexec (own := own) (text := text) (index := is) (a := sa) hown' hstr'.1 hstr'.2
    (g := { method := m, pc := pc + 4, locals := ls, stack := .ref T.heap.size :: .ref T.heap.size :: rest, locked := none }) rfl d4' _ hsteps
end Ends
section Bodies
variable {l : Launch}
theorem vx_ofW {y : MethodName} {ws ws' : List Cond} {rm : Room} {Pc : Array Value → State → Prop} {Qc : Array Value → State → Outcome → State → Prop} {XC : String → State → State → Prop} {mc ms : Nat} {free : Addr → Prop} {cc : ByteArray} {maxL : Nat} {ret : Option FieldType}
    (hy : plainName y.cls = true) (hw : ws = Cond.code y cc maxL ret :: ws')
    (body : ∀ p e s m args below meth c s₁, BodyLoose p l y (headSpec ws rm) cc maxL ret e s m args below meth c s₁ → c.maxLocals = maxL → (∀ x ∈ c.exceptionTable.toList, False) → Pc args s →
      W p l e (headSpec ws rm).room s m args below meth c s.heap [] 0 0 (vx_MQ below Qc XC args s mc ms free) (entryFrame m args maxL)) : vx_Met l y ws rm Pc Qc XC mc ms free := by
  refine MetFree.of_bodyS (code := cc) (maxLocals := maxL) (ret := ret) hy ?_ ?_
  · intro args s m h hn
    obtain ⟨meth, c, h1, h2, h3, h4, h5, h6, -, -⟩ := Cond.code_spec hn (atoms_spec (ws := ws) h _ (by rw [hw]; exact List.mem_cons_self))
    exact ⟨meth, c, h1, h2, h3, h4, h5, h6⟩
  · intro p e s m args below meth c s₁ B hml hP _
    have hh0 : s₁.heap = s.heap := by rw [B.state]; rfl
    have ht : ∀ x ∈ c.exceptionTable.toList, False := by
      obtain ⟨meth9, c9, h1, h2, -, -, -, -, h7, -⟩ := Cond.code_spec B.named (atoms_spec (ws := ws) B.pre _ (by rw [hw]; exact List.mem_cons_self))
      cases Option.some.inj (h1.symm.trans B.method)
      cases Option.some.inj (h2.symm.trans (Stand.of_body B).code)
      intro x hx
      rw [Array.isEmpty_iff.mp h7] at hx
      cases hx
    obtain ⟨t, a1, o, b1, b2, b3⟩ := body p e s m args below meth c s₁ B hml ht hP s₁ hh0 (Stand.of_body B)
    exact ⟨t, o, a1, b1, b2, b3⟩
/-- the table of a body with handlers -/
theorem vx_table {p : Program} {x y : MethodName} {S : Spec} {cc bytes : ByteArray} {maxL maxL' : Nat} {ret ret' : Option FieldType} {e : Env} {s s₁ : State} {m : MethodId} {args : Array Value} {below : List Frame} {meth : Method} {c : Code} {hh : List (Nat × Nat × Nat × Nat)}
    (B : BodyLoose p l y S cc maxL ret e s m args below meth c s₁) (h : (Cond.codeWith y bytes maxL' ret' hh).before args s = true) : c.exceptionTable.toList = tableOf hh := by
  obtain ⟨m9, meth9, c9, hn9, h1, h2, -, -, h6, -⟩ := Cond.codeWith_spec h
  cases Option.some.inj (hn9.symm.trans B.named)
  cases Option.some.inj (h1.symm.trans B.method)
  cases Option.some.inj (h2.symm.trans (Stand.of_body B).code)
  rw [← h6, table_eq]
end Bodies
end VXA
/-! ===== END ===== -/
/-! ===== BEGIN a static call of a method with an exception table ===== -/
section VXS
variable {p : Program} {l : Launch} {e : Env} {R : Room} {s : State} {m : MethodId} {args : Array Value} {below : List Frame} {meth : Method} {c : Code} {T : State} {H : Heap} {locs : List Loc} {cells slots : Nat}
abbrev vx_CSW (R : Room) (s : State) (args : Array Value) (own : String) (index : Nat) (y : MethodName) (bytes : ByteArray) (maxL : Nat) (ret : Option FieldType) (hh : List (Nat × Nat × Nat × Nat)) (ws : List Cond) (rm : Room) (mc ms n : Nat) : Prop :=
  (rm.cells = mc ∧ rm.slots = ms ∧ rm.frames + 1 ≤ R.frames ∧ 8 + (maxL + 11) + rm.locals ≤ R.locals ∧ (∀ w ∈ ws, ∀ (a' : Array Value) (U : State), s.WarmedH U.vm → w.before a' U = true) ∧ Cond.codeWith y bytes maxL ret hh ∈ ws) ∧
  (Cond.codeWith y bytes maxL ret hh).before args s = true ∧ (Cond.initialized y.cls).before args s = true ∧ (y.cls ≠ "java/lang/invoke/MethodHandle" ∧ y.cls ≠ "java/lang/invoke/VarHandle") ∧
  (∀ sig, parseMethodDescriptor y.desc = some sig → n = sig.parameters.length) ∧ (Cond.methodLink own index y).before args s = true ∧ (Cond.static y).before args s = true
theorem vx_cwSW {own : String} {index maxL mc ms : Nat} {y : MethodName} {bytes : ByteArray} {ret : Option FieldType} {hh : List (Nat × Nat × Nat × Nat)} {Ts ws ws' : List Cond} {rm : Room} (n : Nat) (ht : ∀ w ∈ Ts, w.before args s = true) (hT : GoodIn Ts (va_wsS own index y ws)) (hw : ws = Cond.codeWith y bytes maxL ret hh :: ws') (hrc : rm.cells = mc) (hrs : rm.slots = ms)
    (hd : y.cls ≠ "java/lang/invoke/MethodHandle" ∧ y.cls ≠ "java/lang/invoke/VarHandle" ∧ (parseMethodDescriptor y.desc).map (fun d => d.parameters.length) = some n) (hR : rm.frames + 1 ≤ R.frames ∧ 8 + (maxL + 11) + rm.locals ≤ R.locals) :
    vx_CSW R s args own index y bytes maxL ret hh ws rm mc ms n := by
  have ok : ∀ w ∈ va_wsS own index y ws, w.before args s = true := fun w h => ht w (hT w h).1
  have hG : GoodIn Ts ws := fun w h => hT w (by unfold va_wsS; exact List.mem_append_right _ h)
  have hc : Cond.codeWith y bytes maxL ret hh ∈ ws := by rw [hw]; exact List.mem_cons_self
  refine ⟨⟨hrc, hrs, hR.1, hR.2, pay_in ht hG, hc⟩, ht _ (hG _ hc).1, ok _ (by simp [va_wsS]), ⟨hd.1, hd.2.1⟩, fun sig h => ?_, ok _ (by simp [va_wsS]), ok _ (by simp [va_wsS])⟩
  have h2 := hd.2.2
  rw [h] at h2
  exact (Option.some.inj h2).symm
theorem vx_callSW (X : Stand p l e R s m args below meth c T locs cells slots) (hexec : p.tables.exec = Jvm.exec) {own : String} {index : Nat} {y : MethodName} {bytes : ByteArray} {maxL : Nat} {ret : Option FieldType} {hh : List (Nat × Nat × Nat × Nat)}
    (hown : s.vm.findClass own = some m.cls) (hlink : (Cond.methodLink own index y).before args s = true) (hstat : (Cond.static y).before args s = true) (hinit : (Cond.initialized y.cls).before args s = true)
    (hcode : (Cond.codeWith y bytes maxL ret hh).before args s = true) (hy : y.cls ≠ "java/lang/invoke/MethodHandle" ∧ y.cls ≠ "java/lang/invoke/VarHandle")
    {W9 : Nat} {Pre : Pt → Array Value → Prop} {Post : Pt → Array Value → Option Value → Pt → Prop} (hK : Back l R p e below s args y 3 W9 Pre Post)
    {g : JFrame} (hg : g.method = m) (hsize : g.locals.size = c.maxLocals) {argsL rest : List Value} (hlen : ∀ sig, parseMethodDescriptor y.desc = some sig → argsL.length = sig.parameters.length)
    (hstack : g.stack = argsL.reverse ++ rest) (hW : 2 * g.monitorRoom + (rest.map fun v => v.category).sum ≤ W9) (hdg : decode c.code g.pc = .ok (.invokestatic index, 3))
    (hpre : ∀ vm₁, s.WarmedH vm₁ → Pre ⟨T.setVm vm₁, locs, cells, slots⟩ argsL.toArray) :
    ∃ (v : Option Value) (vm₁ : Vm) (B : Pt), s.WarmedH vm₁ ∧ Stand p l e R s m args below meth c B.U B.locs B.cells B.slots ∧ Post ⟨T.setVm vm₁, locs, cells, slots⟩ argsL.toArray v B ∧
      ∀ target, Steps p.tables e below (B.U.setTop { g with pc := g.pc + 3, stack := v.toList ++ rest }) target → Steps p.tables e below (T.setTop g) target := by
  obtain ⟨mk, methM, cM, hnamed, hmethM, -, -, -, -, -, -, hsigM⟩ := Cond.codeWith_spec hcode
  have hstatic : methM.isStatic = true := Cond.static_spec hnamed hmethM hstat
  obtain ⟨kP, hkP, -⟩ := className_of_methodNamed hnamed
  have hinitP : kP.init = .initialized := Cond.initialized_spec (findClass_of_methodNamed hnamed) hkP hinit
  obtain ⟨vm₁, X₁, hstep₁⟩ := X.invokestatic hexec hown hlink hnamed hmethM hstatic hkP hinitP hy (g := g) hg (argsL := argsL) (rest := rest) (hlen _ hsigM) hstack hdg
  obtain ⟨v, B, X', hpost, hsteps⟩ := hK m meth c ⟨T.setVm vm₁, locs, cells, slots⟩ { g with stack := rest } (.invokestatic index) mk argsL.toArray X₁ hg hsize hdg hW (X₁.named hnamed) (hpre vm₁ X₁.warmed)
  exact ⟨v, vm₁, B, X₁.warmed, X', hpost, fun target h => hstep₁ _ fun acts => by rw [doInvoke_state]; exact hsteps.trans h⟩
theorem vx_runSW {y : MethodName} {bytes cc : ByteArray} {maxL nL mc ms n index : Nat} {ret : Option FieldType} {hh : List (Nat × Nat × Nat × Nat)} {ws : List Cond} {rm : Room} {Pc : Array Value → State → Prop} {Qc : Array Value → State → Outcome → State → Prop} {free : Addr → Prop} {Ts : List Cond} {own : String} {As rest : List Value} {g : JFrame}
    (S : CallFix p m c cc nL s args Ts own) (hM : Met l y ws rm Pc Qc mc ms free) (cw : vx_CSW R s args own index y bytes maxL ret hh ws rm mc ms n) (hp : PreS s H Pc As)
    (hg : g.method = m) (hn : As.length = n) (hsize : g.locals.size = nL) (hstack : g.stack = As.reverse ++ rest) (hW : 2 * g.monitorRoom + (rest.map fun v => v.category).sum ≤ 8) (hdg : decode cc g.pc = .ok (.invokestatic index, 3)) (hf : cells + mc ≤ R.cells ∧ slots + ms ≤ R.slots) :
    va_Run p l e R s m args below meth c H locs cells slots mc ms g rest (Qc As.toArray) (free) := by
  obtain ⟨⟨hrc, hrs, hfr, hlo, hws, hcw⟩, hcode, hini, hy, hlen, hl, hstt⟩ := cw
  have hK : Back l R p e below s args y 3 8 (PreOf R mc ms Pc) (PostOf Qc mc ms free) := va_backW (hh := hh) (bytes := bytes) (maxL := maxL) (ret := ret) hM hp.1 hrc hrs hfr hlo hws hcw (fun a' U hW => word_at hW (Or.inl (by first | rfl | simp [Cond.onTables, Cond.keeps, Cond.steady])) hini)
  obtain ⟨hx, hb, hml, ho, -⟩ := S
  intro T hT X
  obtain ⟨v, vm₁, ⟨U', l2, c2, s2⟩, hW₁, X', ⟨g', mk, t, L, e1, e2, hq, h1, hL, h2, h3⟩, st⟩ := vx_callSW X hx (hh := hh) (bytes := bytes) (maxL := maxL) (ret := ret) ho hl hstt hini hcode hy hK hg (hsize.trans hml.symm) (argsL := As) (rest := rest) (fun sig h => hn.trans (hlen sig h)) hstack hW (by rw [hb]; exact hdg)
    (fun vm₁ hW₁ => ⟨hf.1, hf.2, hp.2 (T.setVm vm₁) hT hW₁⟩)
  dsimp only [Pt.U, Pt.locs, Pt.cells, Pt.slots] at X' e1 e2 h1 h2 h3 st
  subst h1; subst h2; subst h3
  exact ⟨v, (T.setVm vm₁).calling g' mk As.toArray, t, U', L, hT, X', hL, e1, e2, hq, st⟩
/-- not caught here, past rows that name other classes: it goes on to the caller -/
theorem vx_outP {p : Program} {l : Launch} {e : Env} {R : Room} {s : State} {m : MethodId} {args : Array Value} {below : List Frame} {meth : Method} {c : Code} {H : Heap} {locs : List Loc} {cells slots : Nat} {free : Addr → Prop} {ls : Array Slot} {rest : List Value} {Qc : Array Value → State → Outcome → State → Prop} {XC : String → State → State → Prop}
    {pc : Nat} {own E : String} {ce : Cell} {q : Addr} {mc ms : Nat} (hown : s.vm.findClass own = some m.cls) (hlocks : meth.locks = false)
    (hpass : ∀ z ∈ c.exceptionTable.toList, covers z pc = false ∨ (z.catchType ≠ 0 ∧ ∃ nm : String, (Cond.classLink own z.catchType nm).before args s = true ∧ va_Nc E nm s)) (hcell : H[q]? = some ce) (hv : ce.vm = .none) (hcl : s.vm.findClass E = some ce.cls)
    (hx : ∀ t : State, t.heap = H → s.vm.Alike t.vm → XC E s t) (hf : ∀ z ∈ locs, free z.base) (hc : cells ≤ mc) (hs : slots ≤ ms) :
    vx_W p l e R s m args below meth c H locs cells slots (vx_MQ below Qc XC args s mc ms free) (F0 m pc ls rest) q := by
  intro T hT X
  have hpl : e.platform.magicAccessors = ({} : Platform).magicAccessors := by rw [X.admits.platform]
  obtain ⟨vm', hW', X', st⟩ := X.outThrough hlocks q (g := F0 m pc ls rest) rfl rfl rfl (cell := ce) (by rw [hT]; exact hcell) (by rw [hv]; rfl)
    (by obtain ⟨k9, h9, -⟩ := Vm.findClass_spec hcl; exact ⟨k9, h9⟩) (fun z hz => by
      rcases hpass z hz with h | ⟨hz0, nm, hl1, hn1⟩
      · exact Or.inl h
      · obtain ⟨c6, hc6, hcl6⟩ := Cond.classLink_spec hown hl1 e.platform hpl
        obtain ⟨a8, b8, h1, h2, h3⟩ := hn1
        cases Option.some.inj (h1.symm.trans hcl)
        cases Option.some.inj (h2.symm.trans hc6)
        exact Or.inr ⟨hz0, _, hcl6, h3⟩)
  obtain ⟨g₀, hfr⟩ := X'.frames_eq
  have hcell9 : ((T.setVm vm').setFrames (.throwing q :: below)).heap[q]? = some ce := by
    show T.heap[q]? = some ce
    rw [hT]; exact hcell
  have hend : Ended ((T.setVm vm').setFrames (.throwing q :: below)) below (.threw q) := State.frames_setFrames _ (State.cur_lt_of_frames hfr)
  refine ⟨(T.setVm vm').setFrames (.throwing q :: below), ?_, .threw q, X'.here.running, hend, Or.inr ⟨q, rfl, E, ce, locs, hx _ hT (X'.ends _).1.alike, hcell9, hv, hcl, (X'.ends _).1, (X'.ends _).2.mono hc hs, hf⟩⟩
  rw [X.pushThrowing_eq]
  exact st
/-- a thing of a world lies in the heap -/
theorem vx_lt {D : va_G} {cl : List vw_C} {ws : va_W} {H1 : Heap} (h : va_P D cl ws H1) {k : Nat} {q : Nat × va_E} (hk : ws[k]? = some q) : q.1 < H1.size := (h k q hk).lt
end VXS
/-! ===== END ===== -/
/-! ===== BEGIN methods with a table of their own: called by a name, returning or throwing ===== -/
section VXH
/-! vx_backW, vx_callVX, vx_callSX, vx_callVW, vx_runVW, vx_runVX, vx_runSX, vx_ofWH follow the same proofs as their sisters above (Free/Laws.lean, Shelf42/LK1.lean); vx_outP calls Shelf42/NT130.lean (outThrough). -/
section
variable {l : Launch} {R : Room} {p : Program} {e : Env} {below : List Frame} {s : State} {sargs : Array Value} {y : MethodName} {len W9 : Nat}
theorem vx_backW {ws : List Cond} {rm : Room} {Pc : Array Value → State → Prop} {Qc : Array Value → State → Outcome → State → Prop} {XC : String → State → State → Prop} {mc ms : Nat} {free : Addr → Prop} {bytes : ByteArray} {maxL : Nat} {ret : Option FieldType} {hh : List (Nat × Nat × Nat × Nat)}
    (hM : vx_Met l y ws rm Pc Qc XC mc ms free) (hblind : FrameBlind Pc) (hrc : rm.cells = mc) (hrs : rm.slots = ms)
    (hframes : rm.frames + 1 ≤ R.frames) (hlocals : W9 + (maxL + 11) + rm.locals ≤ R.locals)
    (hws : ∀ w ∈ ws, ∀ a' U, s.WarmedH U.vm → w.before a' U = true) (hcode : Cond.codeWith y bytes maxL ret hh ∈ ws) (hinit : ∀ a' U, s.WarmedH U.vm → (Cond.initialized y.cls).before a' U = true) :
    vx_Back l R p e below s sargs y len W9 (PreOf R mc ms Pc) (PostOf Qc mc ms free) (vx_Post XC mc ms free) := by
  intro m meth c A g ig mk a X hg hsize hdg hW hn hp
  have h1 : (headSpec ws rm).pre.before a A.U = true := atoms_intro fun w hw => hws w hw _ _ X.warmed
  have h2 : (Cond.codeWith y bytes maxL ret hh).before a A.U = true := hws _ hcode _ _ X.warmed
  have h3 : (Cond.initialized y.cls).before a A.U = true := hinit _ _ X.warmed
  have h4 : A.cells + (headSpec ws rm).room.cells ≤ R.cells := by rw [show (headSpec ws rm).room.cells = mc from hrc]; exact hp.1
  have h5 : A.slots + (headSpec ws rm).room.slots ≤ R.slots := by rw [show (headSpec ws rm).room.slots = ms from hrs]; exact hp.2.1
  have hPc : Pc a (A.U.calling g mk a) := hblind _ _ _ _ hp.2.2
  obtain ⟨U, Ls, c0, s0⟩ := A
  dsimp only [Pt.U, Pt.locs, Pt.cells, Pt.slots] at h1 h2 h3 h4 h5 X hn hPc ⊢
  obtain ⟨m9, methY, cY, hn9, hmY, hcY, -, hlY, -⟩ := Cond.codeWith_spec h2
  cases Option.some.inj (hn9.symm.trans hn)
  obtain ⟨kY, hkY, -⟩ := className_of_methodNamed hn
  have hinitY : kY.init = .initialized := Cond.initialized_spec (findClass_of_methodNamed hn) hkY h3
  have h : At U g.method c below := by rw [hg]; exact X.here
  have hlocals9 : W9 + (maxL + 11) + (headSpec ws rm).room.locals ≤ R.locals := hlocals
  have happ : (headSpec ws rm).appliesLoose y e.platform (U.calling g mk a) = true :=
    Spec.appliesLoose_calling (g := g) h hdg hn hkY hinitY
      (X.room_calling (g := g) (R' := (headSpec ws rm).room) hsize hmY hcY hframes (by rw [hlY]; omega) h4 h5) h1
  obtain ⟨mid, hmid⟩ := h.above
  have hfr : (U.setTop g).frames = (.java g :: mid) ++ below := by rw [State.frames_setTop' g h.top, hmid]; rfl
  obtain ⟨o, s₂, hsteps, -, hend, hq⟩ := Steps.callFree hM p X.admits X.cas X.clock (acts := []) hfr happ hPc trivial
  have hq' : vx_Q Qc XC mc ms free a (U.calling g mk a) o s₂ := hq
  rw [State.frames_setTop' g h.top] at hend
  obtain ⟨g₀, hg0⟩ := Option.isSome_iff_exists.mp h.top
  obtain ⟨r, hr⟩ := State.topJava?_eq_some.mp hg0
  have hr' : (({ U with heap := s₂.heap, slotsUsed := s₂.slotsUsed } : State).setVm s₂.vm).frames = .java g₀ :: r := hr
  rcases hq' with ⟨hqc, L, hfe, hL⟩ | ⟨q, rfl, E, ce, L, hx, hce, hcv, hcl, hW₂, hsm, hL⟩
  · obtain ⟨⟨v, rfl⟩, hW₂, e2, q2, q3, q4, q5, q6⟩ := id hfe
    have e3 : s₂ = ({ (U.calling g mk a).setFrames s₂.frames with heap := s₂.heap, slotsUsed := s₂.slotsUsed } : State).setVm s₂.vm := by
      have : s₂ = ({ s₂ with vm := (U.calling g mk a).vm } : State).setVm s₂.vm := rfl
      rw [e2] at this
      exact this
    obtain ⟨c₂, i₂, len₂, hc₂, hd₂, hf₂⟩ := hend
    have hW' : U.WarmedH s₂.vm := hW₂
    have hcc : c₂ = c := by
      have h1 : s₂.code? g.method = U.code? g.method := by
        rw [State.code?_eq, State.code?_eq, hW'.alike.method?]
      exact Option.some.inj (hc₂.symm.trans (h1.trans h.code))
    subst hcc
    have hlen : len₂ = len := by rw [hdg] at hd₂; cases hd₂; rfl
    subst hlen
    have hs₂ : s₂ = (({ U with heap := s₂.heap, slotsUsed := s₂.slotsUsed } : State).setVm s₂.vm).setTop { g with pc := g.pc + len₂, stack := v.toList ++ g.stack } := by
      refine e3.trans ?_
      rw [hf₂, State.calling_eq h.top, State.setFrames_setFrames, State.setTop_of_frames _ hr', hr]
      rfl
    have hsame : U.sameButNew ({ U with heap := s₂.heap, slotsUsed := s₂.slotsUsed } : State) L mc ms := by
      refine ⟨?_, q2, q3, q4, q5, q6⟩
      obtain ⟨t, ht, -⟩ := State.frames_cons hr
      show ({ U with heap := s₂.heap, slotsUsed := s₂.slotsUsed } : State) = { U.setFrames U.frames with heap := s₂.heap, slotsUsed := s₂.slotsUsed }
      rw [State.setFrames_self ht]
    subst hg
    refine Or.inl ⟨v, ⟨(({ U with heap := s₂.heap, slotsUsed := s₂.slotsUsed } : State).setVm s₂.vm), Ls ++ L, c0 + mc, s0 + ms⟩,
      ⟨X.admits, X.cas, X.clock, X.frames, X.room, X.hears, X.method, X.code, (X.here.setHeapUsed s₂.heap s₂.slotsUsed).setVm hW'.alike, X.tail, State.WarmedH.trans X.warmed hW', X.limits, X.bytes, X.same.trans (hsame.setVm s.vm)⟩,
      ⟨g, mk, s₂, L, rfl, rfl, hqc, rfl, hL, rfl, rfl⟩, ?_⟩
    show Steps p.tables e below _ ((({ U with heap := s₂.heap, slotsUsed := s₂.slotsUsed } : State).setVm s₂.vm).setTop { g with pc := g.pc + len₂, stack := v.toList ++ g.stack })
    rw [← hs₂]
    exact hsteps
  · obtain ⟨e2, q2, q3, q4, q5, q6⟩ := id hsm
    have e3 : s₂ = ({ (U.calling g mk a).setFrames s₂.frames with heap := s₂.heap, slotsUsed := s₂.slotsUsed } : State).setVm s₂.vm := by
      have : s₂ = ({ s₂ with vm := (U.calling g mk a).vm } : State).setVm s₂.vm := rfl
      rw [e2] at this
      exact this
    have hf₂ : s₂.frames = .throwing q :: .java g :: U.frames.tail := hend
    have hW' : U.WarmedH s₂.vm := hW₂
    have hs₂ : s₂ = ((({ U with heap := s₂.heap, slotsUsed := s₂.slotsUsed } : State).setVm s₂.vm).setTop g).pushFrame (.throwing q) := by
      refine e3.trans ?_
      rw [hf₂, State.calling_eq h.top, State.setFrames_setFrames, State.pushFrame, State.frames_setTop _ hr', State.setTop_of_frames _ hr', State.setFrames_setFrames, hr]
      rfl
    have hsame : U.sameButNew ({ U with heap := s₂.heap, slotsUsed := s₂.slotsUsed } : State) L mc ms := by
      refine ⟨?_, q2, q3, q4, q5, q6⟩
      obtain ⟨t, ht, -⟩ := State.frames_cons hr
      show ({ U with heap := s₂.heap, slotsUsed := s₂.slotsUsed } : State) = { U.setFrames U.frames with heap := s₂.heap, slotsUsed := s₂.slotsUsed }
      rw [State.setFrames_self ht]
    subst hg
    refine Or.inr ⟨q, ⟨(({ U with heap := s₂.heap, slotsUsed := s₂.slotsUsed } : State).setVm s₂.vm), Ls ++ L, c0 + mc, s0 + ms⟩,
      ⟨X.admits, X.cas, X.clock, X.frames, X.room, X.hears, X.method, X.code, (X.here.setHeapUsed s₂.heap s₂.slotsUsed).setVm hW'.alike, X.tail, State.WarmedH.trans X.warmed hW', X.limits, X.bytes, X.same.trans (hsame.setVm s.vm)⟩,
      ⟨g, mk, s₂, L, E, ce, rfl, rfl, hx, hce, hcv, hcl, rfl, hL, rfl, rfl⟩, ?_⟩
    show Steps p.tables e below _ (((({ U with heap := s₂.heap, slotsUsed := s₂.slotsUsed } : State).setVm s₂.vm).setTop g).pushFrame (.throwing q))
    rw [← hs₂]
    exact hsteps
end
variable {p : Program} {l : Launch} {e : Env} {R : Room} {s : State} {m : MethodId} {args : Array Value} {below : List Frame} {meth : Method} {c : Code} {T : State} {H : Heap} {locs : List Loc} {cells slots : Nat}
theorem vx_callVX (X : Stand p l e R s m args below meth c T locs cells slots) (hexec : p.tables.exec = Jvm.exec) {own C : String} {index : Nat} {y : MethodName} {bytes : ByteArray} {maxL : Nat} {ret : Option FieldType} {hh : List (Nat × Nat × Nat × Nat)}
    (hown : s.vm.findClass own = some m.cls) (hlink : (Cond.methodLink own index y).before args s = true) (hinst : (Cond.instanceMethod y).before args s = true) (hsel : (Cond.selects C y y).before args s = true)
    (hcode : (Cond.codeWith y bytes maxL ret hh).before args s = true) (hy : y.cls ≠ "java/lang/invoke/MethodHandle" ∧ y.cls ≠ "java/lang/invoke/VarHandle")
    {W9 : Nat} {Pre : Pt → Array Value → Prop} {Post : Pt → Array Value → Option Value → Pt → Prop} {PostX : Pt → Array Value → Addr → Pt → Prop} (hK : vx_Back l R p e below s args y 3 W9 Pre Post PostX)
    {b : Addr} {cellB : Cell} (hcell : T.heap[b]? = some cellB) (hobj : cellB.vm.isStatics = false) (hcls : s.vm.findClass C = some cellB.cls)
    {g : JFrame} (hg : g.method = m) (hsize : g.locals.size = c.maxLocals) {argsL rest : List Value} (hlen : ∀ sig, parseMethodDescriptor y.desc = some sig → argsL.length = sig.parameters.length)
    (hstack : g.stack = argsL.reverse ++ .ref b :: rest) (hW : 2 * g.monitorRoom + (rest.map fun v => v.category).sum ≤ W9) (hdg : decode c.code g.pc = .ok (.invokevirtual index, 3))
    (hpre : ∀ vm₁, s.WarmedH vm₁ → Pre ⟨T.setVm vm₁, locs, cells, slots⟩ (Value.ref b :: argsL).toArray) :
    (∃ (v : Option Value) (vm₁ : Vm) (B : Pt), s.WarmedH vm₁ ∧ Stand p l e R s m args below meth c B.U B.locs B.cells B.slots ∧ Post ⟨T.setVm vm₁, locs, cells, slots⟩ (Value.ref b :: argsL).toArray v B ∧
      ∀ target, Steps p.tables e below (B.U.setTop { g with pc := g.pc + 3, stack := v.toList ++ rest }) target → Steps p.tables e below (T.setTop g) target) ∨
    (∃ (q : Addr) (vm₁ : Vm) (B : Pt), s.WarmedH vm₁ ∧ Stand p l e R s m args below meth c B.U B.locs B.cells B.slots ∧ PostX ⟨T.setVm vm₁, locs, cells, slots⟩ (Value.ref b :: argsL).toArray q B ∧
      Steps p.tables e below (T.setTop g) ((B.U.setTop { g with stack := rest }).pushFrame (.throwing q))) := by
  obtain ⟨mk, methM, hnamed, hmethM, hstM, habM⟩ := Cond.instanceMethod_spec hinst
  obtain ⟨m8, methM', cM, hn8, hmethM', -, -, -, -, -, -, hsigM⟩ := Cond.codeWith_spec hcode
  cases Option.some.inj (hn8.symm.trans hnamed)
  cases hmethM.symm.trans hmethM'
  obtain ⟨c2, r2, m2, q1, q2, q3, q4, kP, hkP, hkPi⟩ := Cond.selects_spec hsel
  cases hcls.symm.trans q1
  cases (State.methodFound?_of_named hnamed hy).symm.trans q2
  cases hnamed.symm.trans q3
  have hselP : selectMethod e.platform s.vm cellB.cls mk = .method mk := by rw [Launch.admits_selectMethod X.admits]; exact q4
  obtain ⟨vm₁, X₁, hstep₁⟩ := X.invokevirtual hexec hown hlink hnamed hmethM hstM hkP hkPi hy (a := b) (cell := cellB) hcell
    (fun z h => by rw [h] at hobj; cases hobj) hselP hmethM habM hkP hkPi (g := g) hg (argsL := argsL) (rest := rest) (hlen _ hsigM) hstack hdg
  rcases hK m meth c ⟨T.setVm vm₁, locs, cells, slots⟩ { g with stack := rest } (.invokevirtual index) mk (Value.ref b :: argsL).toArray X₁ hg hsize hdg hW (X₁.named hnamed) (hpre vm₁ X₁.warmed) with ⟨v, B, X', hpost, hsteps⟩ | ⟨q, B, X', hpost, hsteps⟩
  · exact Or.inl ⟨v, vm₁, B, X₁.warmed, X', hpost, fun target h => hstep₁ _ fun acts => by rw [doInvoke_state]; exact hsteps.trans h⟩
  · exact Or.inr ⟨q, vm₁, B, X₁.warmed, X', hpost, hstep₁ _ fun acts => by rw [doInvoke_state]; exact hsteps⟩
theorem vx_callSX (X : Stand p l e R s m args below meth c T locs cells slots) (hexec : p.tables.exec = Jvm.exec) {own : String} {index : Nat} {y : MethodName} {bytes : ByteArray} {maxL : Nat} {ret : Option FieldType} {hh : List (Nat × Nat × Nat × Nat)}
    (hown : s.vm.findClass own = some m.cls) (hlink : (Cond.methodLink own index y).before args s = true) (hstat : (Cond.static y).before args s = true) (hinit : (Cond.initialized y.cls).before args s = true)
    (hcode : (Cond.codeWith y bytes maxL ret hh).before args s = true) (hy : y.cls ≠ "java/lang/invoke/MethodHandle" ∧ y.cls ≠ "java/lang/invoke/VarHandle")
    {W9 : Nat} {Pre : Pt → Array Value → Prop} {Post : Pt → Array Value → Option Value → Pt → Prop} {PostX : Pt → Array Value → Addr → Pt → Prop} (hK : vx_Back l R p e below s args y 3 W9 Pre Post PostX)
    {g : JFrame} (hg : g.method = m) (hsize : g.locals.size = c.maxLocals) {argsL rest : List Value} (hlen : ∀ sig, parseMethodDescriptor y.desc = some sig → argsL.length = sig.parameters.length)
    (hstack : g.stack = argsL.reverse ++ rest) (hW : 2 * g.monitorRoom + (rest.map fun v => v.category).sum ≤ W9) (hdg : decode c.code g.pc = .ok (.invokestatic index, 3))
    (hpre : ∀ vm₁, s.WarmedH vm₁ → Pre ⟨T.setVm vm₁, locs, cells, slots⟩ argsL.toArray) :
    (∃ (v : Option Value) (vm₁ : Vm) (B : Pt), s.WarmedH vm₁ ∧ Stand p l e R s m args below meth c B.U B.locs B.cells B.slots ∧ Post ⟨T.setVm vm₁, locs, cells, slots⟩ argsL.toArray v B ∧
      ∀ target, Steps p.tables e below (B.U.setTop { g with pc := g.pc + 3, stack := v.toList ++ rest }) target → Steps p.tables e below (T.setTop g) target) ∨
    (∃ (q : Addr) (vm₁ : Vm) (B : Pt), s.WarmedH vm₁ ∧ Stand p l e R s m args below meth c B.U B.locs B.cells B.slots ∧ PostX ⟨T.setVm vm₁, locs, cells, slots⟩ argsL.toArray q B ∧
      Steps p.tables e below (T.setTop g) ((B.U.setTop { g with stack := rest }).pushFrame (.throwing q))) := by
  obtain ⟨mk, methM, cM, hnamed, hmethM, -, -, -, -, -, -, hsigM⟩ := Cond.codeWith_spec hcode
  have hstatic : methM.isStatic = true := Cond.static_spec hnamed hmethM hstat
  obtain ⟨kP, hkP, -⟩ := className_of_methodNamed hnamed
  have hinitP : kP.init = .initialized := Cond.initialized_spec (findClass_of_methodNamed hnamed) hkP hinit
  obtain ⟨vm₁, X₁, hstep₁⟩ := X.invokestatic hexec hown hlink hnamed hmethM hstatic hkP hinitP hy (g := g) hg (argsL := argsL) (rest := rest) (hlen _ hsigM) hstack hdg
  rcases hK m meth c ⟨T.setVm vm₁, locs, cells, slots⟩ { g with stack := rest } (.invokestatic index) mk argsL.toArray X₁ hg hsize hdg hW (X₁.named hnamed) (hpre vm₁ X₁.warmed) with ⟨v, B, X', hpost, hsteps⟩ | ⟨q, B, X', hpost, hsteps⟩
  · exact Or.inl ⟨v, vm₁, B, X₁.warmed, X', hpost, fun target h => hstep₁ _ fun acts => by rw [doInvoke_state]; exact hsteps.trans h⟩
  · exact Or.inr ⟨q, vm₁, B, X₁.warmed, X', hpost, hstep₁ _ fun acts => by rw [doInvoke_state]; exact hsteps⟩
theorem vx_callVW (X : Stand p l e R s m args below meth c T locs cells slots) (hexec : p.tables.exec = Jvm.exec) {own C : String} {index : Nat} {y : MethodName} {bytes : ByteArray} {maxL : Nat} {ret : Option FieldType} {hh : List (Nat × Nat × Nat × Nat)}
    (hown : s.vm.findClass own = some m.cls) (hlink : (Cond.methodLink own index y).before args s = true) (hinst : (Cond.instanceMethod y).before args s = true) (hsel : (Cond.selects C y y).before args s = true)
    (hcode : (Cond.codeWith y bytes maxL ret hh).before args s = true) (hy : y.cls ≠ "java/lang/invoke/MethodHandle" ∧ y.cls ≠ "java/lang/invoke/VarHandle")
    {W9 : Nat} {Pre : Pt → Array Value → Prop} {Post : Pt → Array Value → Option Value → Pt → Prop} (hK : Back l R p e below s args y 3 W9 Pre Post)
    {b : Addr} {cellB : Cell} (hcell : T.heap[b]? = some cellB) (hobj : cellB.vm.isStatics = false) (hcls : s.vm.findClass C = some cellB.cls)
    {g : JFrame} (hg : g.method = m) (hsize : g.locals.size = c.maxLocals) {argsL rest : List Value} (hlen : ∀ sig, parseMethodDescriptor y.desc = some sig → argsL.length = sig.parameters.length)
    (hstack : g.stack = argsL.reverse ++ .ref b :: rest) (hW : 2 * g.monitorRoom + (rest.map fun v => v.category).sum ≤ W9) (hdg : decode c.code g.pc = .ok (.invokevirtual index, 3))
    (hpre : ∀ vm₁, s.WarmedH vm₁ → Pre ⟨T.setVm vm₁, locs, cells, slots⟩ (Value.ref b :: argsL).toArray) :
    ∃ (v : Option Value) (vm₁ : Vm) (B : Pt), s.WarmedH vm₁ ∧ Stand p l e R s m args below meth c B.U B.locs B.cells B.slots ∧ Post ⟨T.setVm vm₁, locs, cells, slots⟩ (Value.ref b :: argsL).toArray v B ∧
      ∀ target, Steps p.tables e below (B.U.setTop { g with pc := g.pc + 3, stack := v.toList ++ rest }) target → Steps p.tables e below (T.setTop g) target := by
  obtain ⟨mk, methM, hnamed, hmethM, hstM, habM⟩ := Cond.instanceMethod_spec hinst
  obtain ⟨m8, methM', cM, hn8, hmethM', -, -, -, -, -, -, hsigM⟩ := Cond.codeWith_spec hcode
  cases Option.some.inj (hn8.symm.trans hnamed)
  cases hmethM.symm.trans hmethM'
  obtain ⟨c2, r2, m2, q1, q2, q3, q4, kP, hkP, hkPi⟩ := Cond.selects_spec hsel
  cases hcls.symm.trans q1
  cases (State.methodFound?_of_named hnamed hy).symm.trans q2
  cases hnamed.symm.trans q3
  have hselP : selectMethod e.platform s.vm cellB.cls mk = .method mk := by rw [Launch.admits_selectMethod X.admits]; exact q4
  obtain ⟨vm₁, X₁, hstep₁⟩ := X.invokevirtual hexec hown hlink hnamed hmethM hstM hkP hkPi hy (a := b) (cell := cellB) hcell
    (fun z h => by rw [h] at hobj; cases hobj) hselP hmethM habM hkP hkPi (g := g) hg (argsL := argsL) (rest := rest) (hlen _ hsigM) hstack hdg
  obtain ⟨v, B, X', hpost, hsteps⟩ := hK m meth c ⟨T.setVm vm₁, locs, cells, slots⟩ { g with stack := rest } (.invokevirtual index) mk (Value.ref b :: argsL).toArray X₁ hg hsize hdg hW (X₁.named hnamed) (hpre vm₁ X₁.warmed)
  exact ⟨v, vm₁, B, X₁.warmed, X', hpost, fun target h => hstep₁ _ fun acts => by rw [doInvoke_state]; exact hsteps.trans h⟩
abbrev vx_CVW (R : Room) (s : State) (args : Array Value) (own C : String) (index : Nat) (y : MethodName) (bytes : ByteArray) (maxL : Nat) (ret : Option FieldType) (hh : List (Nat × Nat × Nat × Nat)) (ws : List Cond) (rm : Room) (mc ms n : Nat) : Prop :=
  (rm.cells = mc ∧ rm.slots = ms ∧ rm.frames + 1 ≤ R.frames ∧ 8 + (maxL + 11) + rm.locals ≤ R.locals ∧ (∀ w ∈ ws, ∀ (a' : Array Value) (U : State), s.WarmedH U.vm → w.before a' U = true) ∧ Cond.codeWith y bytes maxL ret hh ∈ ws) ∧
  (Cond.codeWith y bytes maxL ret hh).before args s = true ∧ (Cond.initialized y.cls).before args s = true ∧ (y.cls ≠ "java/lang/invoke/MethodHandle" ∧ y.cls ≠ "java/lang/invoke/VarHandle") ∧
  (∀ sig, parseMethodDescriptor y.desc = some sig → n = sig.parameters.length) ∧ (Cond.methodLink own index y).before args s = true ∧ (Cond.instanceMethod y).before args s = true ∧ (Cond.selects C y y).before args s = true
theorem vx_cwVW {own C : String} {index maxL mc ms : Nat} {y : MethodName} {bytes : ByteArray} {ret : Option FieldType} {hh : List (Nat × Nat × Nat × Nat)} {Ts ws ws' : List Cond} {rm : Room} (n : Nat) (ht : ∀ w ∈ Ts, w.before args s = true) (hT : GoodIn Ts (wsV own index C y ws)) (hw : ws = Cond.codeWith y bytes maxL ret hh :: ws') (hrc : rm.cells = mc) (hrs : rm.slots = ms)
    (hd : y.cls = C ∧ y.cls ≠ "java/lang/invoke/MethodHandle" ∧ y.cls ≠ "java/lang/invoke/VarHandle" ∧ (parseMethodDescriptor y.desc).map (fun d => d.parameters.length) = some n) (hR : rm.frames + 1 ≤ R.frames ∧ 8 + (maxL + 11) + rm.locals ≤ R.locals) :
    vx_CVW R s args own C index y bytes maxL ret hh ws rm mc ms n := by
  obtain ⟨hC, hd⟩ := hd
  subst hC
  have ok : ∀ w ∈ wsV own index y.cls y ws, w.before args s = true := fun w h => ht w (hT w h).1
  have hG : GoodIn Ts ws := fun w h => hT w (by unfold wsV; exact List.mem_append_right _ h)
  have hc : Cond.codeWith y bytes maxL ret hh ∈ ws := by rw [hw]; exact List.mem_cons_self
  refine ⟨⟨hrc, hrs, hR.1, hR.2, pay_in ht hG, hc⟩, ht _ (hG _ hc).1, ok _ (by simp [wsV]), ⟨hd.1, hd.2.1⟩, fun sig h => ?_, ok _ (by simp [wsV]), ok _ (by simp [wsV]), ok _ (by simp [wsV])⟩
  have h2 := hd.2.2
  rw [h] at h2
  exact (Option.some.inj h2).symm
theorem vx_runVW {y : MethodName} {bytes cc : ByteArray} {maxL nL mc ms n index : Nat} {ret : Option FieldType} {hh : List (Nat × Nat × Nat × Nat)} {ws : List Cond} {rm : Room} {Pc : Array Value → State → Prop} {Qc : Array Value → State → Outcome → State → Prop} {free : Addr → Prop} {Ts : List Cond} {own C : String} {b : Addr} {As rest : List Value} {g : JFrame}
    (S : CallFix p m c cc nL s args Ts own) (hM : Met l y ws rm Pc Qc mc ms free) (cw : vx_CVW R s args own C index y bytes maxL ret hh ws rm mc ms n) (hp : PreV s H C b Pc As)
    (hg : g.method = m) (hn : As.length = n) (hsize : g.locals.size = nL) (hstack : g.stack = As.reverse ++ .ref b :: rest) (hW : 2 * g.monitorRoom + (rest.map fun v => v.category).sum ≤ 8) (hdg : decode cc g.pc = .ok (.invokevirtual index, 3)) (hf : cells + mc ≤ R.cells ∧ slots + ms ≤ R.slots) :
    va_Run p l e R s m args below meth c H locs cells slots mc ms g rest (Qc (Value.ref b :: As).toArray) free := by
  obtain ⟨⟨hrc, hrs, hfr, hlo, hws, hcw⟩, hcode, hini, hy, hlen, hl, hin, hse⟩ := cw
  have hK : Back l R p e below s args y 3 8 (PreOf R mc ms Pc) (PostOf Qc mc ms free) := va_backW (hh := hh) (bytes := bytes) (maxL := maxL) (ret := ret) hM hp.1 hrc hrs hfr hlo hws hcw (fun a' U hW => word_at hW (Or.inl (by first | rfl | simp [Cond.onTables, Cond.keeps, Cond.steady])) hini)
  obtain ⟨hx, hb, hml, ho, -⟩ := S
  obtain ⟨-, ⟨cellB, hcB, hoB, hclB⟩, hPc⟩ := hp
  intro T hT X
  obtain ⟨v, vm₁, ⟨U', l2, c2, s2⟩, hW₁, X', ⟨g', mk, t, L, e1, e2, hq, h1, hL, h2, h3⟩, st⟩ := vx_callVW X hx (C := C) (hh := hh) (bytes := bytes) (maxL := maxL) (ret := ret) ho hl hin hse hcode hy hK (by rw [hT]; exact hcB) hoB hclB hg (hsize.trans hml.symm) (argsL := As) (rest := rest) (fun sig h => hn.trans (hlen sig h)) hstack hW (by rw [hb]; exact hdg)
    (fun vm₁ hW₁ => ⟨hf.1, hf.2, hPc (T.setVm vm₁) hT hW₁⟩)
  dsimp only [Pt.U, Pt.locs, Pt.cells, Pt.slots] at X' e1 e2 h1 h2 h3 st
  subst h1; subst h2; subst h3
  exact ⟨v, (T.setVm vm₁).calling g' mk (Value.ref b :: As).toArray, t, U', L, hT, X', hL, e1, e2, hq, st⟩
section
variable {y : MethodName} {bytes cc : ByteArray} {maxL nL mc ms n index : Nat} {ret : Option FieldType} {ws : List Cond} {rm : Room} {Pc : Array Value → State → Prop} {Qc : Array Value → State → Outcome → State → Prop} {XC : String → State → State → Prop} {free : Addr → Prop} {Ts : List Cond} {own C : String} {b : Addr} {As rest : List Value} {g : JFrame}
theorem vx_runVX {hh : List (Nat × Nat × Nat × Nat)} (S : CallFix p m c cc nL s args Ts own) (hM : vx_Met l y ws rm Pc Qc XC mc ms free) (cw : vx_CVW R s args own C index y bytes maxL ret hh ws rm mc ms n) (hp : PreV s H C b Pc As)
    (hg : g.method = m) (hn : As.length = n) (hsize : g.locals.size = nL) (hstack : g.stack = As.reverse ++ .ref b :: rest) (hW : 2 * g.monitorRoom + (rest.map fun v => v.category).sum ≤ 8) (hdg : decode cc g.pc = .ok (.invokevirtual index, 3)) (hf : cells + mc ≤ R.cells ∧ slots + ms ≤ R.slots) :
    vx_Run p l e R s m args below meth c H locs cells slots mc ms g rest (Qc (Value.ref b :: As).toArray) XC free := by
  obtain ⟨⟨hrc, hrs, hfr, hlo, hws, hcw⟩, hcode, hini, hy, hlen, hl, hin, hse⟩ := cw
  have hK : vx_Back l R p e below s args y 3 8 (PreOf R mc ms Pc) (PostOf Qc mc ms free) (vx_Post XC mc ms free) := vx_backW (hh := hh) (bytes := bytes) (maxL := maxL) (ret := ret) hM hp.1 hrc hrs hfr hlo hws hcw (fun a' U hW => word_at hW (Or.inl (by first | rfl | simp [Cond.onTables, Cond.keeps, Cond.steady])) hini)
  obtain ⟨hx, hb, hml, ho, -⟩ := S
  obtain ⟨-, ⟨cellB, hcB, hoB, hclB⟩, hPc⟩ := hp
  intro T hT X
  rcases vx_callVX X hx (C := C) (hh := hh) (bytes := bytes) (maxL := maxL) (ret := ret) ho hl hin hse hcode hy hK (by rw [hT]; exact hcB) hoB hclB hg (hsize.trans hml.symm) (argsL := As) (rest := rest) (fun sig h => hn.trans (hlen sig h)) hstack hW (by rw [hb]; exact hdg)
    (fun vm₁ hW₁ => ⟨hf.1, hf.2, hPc (T.setVm vm₁) hT hW₁⟩) with ⟨v, vm₁, ⟨U', l2, c2, s2⟩, hW₁, X', ⟨g', mk, t, L, e1, e2, hq, h1, hL, h2, h3⟩, st⟩ | ⟨q, vm₁, ⟨U', l2, c2, s2⟩, hW₁, X', ⟨g', mk, t, L, E, ce, e1, e2, hq, hce, hcv, hcl, h1, hL, h2, h3⟩, st⟩
  · dsimp only [Pt.U, Pt.locs, Pt.cells, Pt.slots] at X' e1 e2 h1 h2 h3 st
    subst h1; subst h2; subst h3
    exact Or.inl ⟨v, (T.setVm vm₁).calling g' mk (Value.ref b :: As).toArray, t, U', L, hT, X', hL, e1, e2, hq, st⟩
  · dsimp only [Pt.U, Pt.locs, Pt.cells, Pt.slots] at X' e1 e2 h1 h2 h3 st hcl
    subst h1; subst h2; subst h3
    exact Or.inr ⟨q, (T.setVm vm₁).calling g' mk (Value.ref b :: As).toArray, t, U', L, E, ce, hT, X', hL, e1, e2, hq, hce, hcv, vx_cls hW₁ hcl, st⟩
theorem vx_runSX {hh : List (Nat × Nat × Nat × Nat)} (S : CallFix p m c cc nL s args Ts own) (hM : vx_Met l y ws rm Pc Qc XC mc ms free) (cw : vx_CSW R s args own index y bytes maxL ret hh ws rm mc ms n) (hp : PreS s H Pc As)
    (hg : g.method = m) (hn : As.length = n) (hsize : g.locals.size = nL) (hstack : g.stack = As.reverse ++ rest) (hW : 2 * g.monitorRoom + (rest.map fun v => v.category).sum ≤ 8) (hdg : decode cc g.pc = .ok (.invokestatic index, 3)) (hf : cells + mc ≤ R.cells ∧ slots + ms ≤ R.slots) :
    vx_Run p l e R s m args below meth c H locs cells slots mc ms g rest (Qc As.toArray) XC free := by
  obtain ⟨⟨hrc, hrs, hfr, hlo, hws, hcw⟩, hcode, hini, hy, hlen, hl, hstt⟩ := cw
  have hK : vx_Back l R p e below s args y 3 8 (PreOf R mc ms Pc) (PostOf Qc mc ms free) (vx_Post XC mc ms free) := vx_backW (hh := hh) (bytes := bytes) (maxL := maxL) (ret := ret) hM hp.1 hrc hrs hfr hlo hws hcw (fun a' U hW => word_at hW (Or.inl (by first | rfl | simp [Cond.onTables, Cond.keeps, Cond.steady])) hini)
  obtain ⟨hx, hb, hml, ho, -⟩ := S
  intro T hT X
  rcases vx_callSX X hx (hh := hh) (bytes := bytes) (maxL := maxL) (ret := ret) ho hl hstt hini hcode hy hK hg (hsize.trans hml.symm) (argsL := As) (rest := rest) (fun sig h => hn.trans (hlen sig h)) hstack hW (by rw [hb]; exact hdg)
    (fun vm₁ hW₁ => ⟨hf.1, hf.2, hp.2 (T.setVm vm₁) hT hW₁⟩) with ⟨v, vm₁, ⟨U', l2, c2, s2⟩, hW₁, X', ⟨g', mk, t, L, e1, e2, hq, h1, hL, h2, h3⟩, st⟩ | ⟨q, vm₁, ⟨U', l2, c2, s2⟩, hW₁, X', ⟨g', mk, t, L, E, ce, e1, e2, hq, hce, hcv, hcl, h1, hL, h2, h3⟩, st⟩
  · dsimp only [Pt.U, Pt.locs, Pt.cells, Pt.slots] at X' e1 e2 h1 h2 h3 st
    subst h1; subst h2; subst h3
    exact Or.inl ⟨v, (T.setVm vm₁).calling g' mk As.toArray, t, U', L, hT, X', hL, e1, e2, hq, st⟩
  · dsimp only [Pt.U, Pt.locs, Pt.cells, Pt.slots] at X' e1 e2 h1 h2 h3 st hcl
    subst h1; subst h2; subst h3
    exact Or.inr ⟨q, (T.setVm vm₁).calling g' mk As.toArray, t, U', L, E, ce, hT, X', hL, e1, e2, hq, hce, hcv, vx_cls hW₁ hcl, st⟩
end
end VXH
theorem vx_ofWH {l : Launch} {y : MethodName} {ws ws' : List Cond} {rm : Room} {Pc : Array Value → State → Prop} {Qc : Array Value → State → Outcome → State → Prop} {XC : String → State → State → Prop} {mc ms : Nat} {free : Addr → Prop} {cc : ByteArray} {maxL : Nat} {ret : Option FieldType} {hh : List (Nat × Nat × Nat × Nat)}
    (hy : plainName y.cls = true) (hw : ws = Cond.codeWith y cc maxL ret hh :: ws')
    (body : ∀ p e s m args below meth c s₁, BodyLoose p l y (headSpec ws rm) cc maxL ret e s m args below meth c s₁ → c.maxLocals = maxL → Pc args s →
      W p l e (headSpec ws rm).room s m args below meth c s.heap [] 0 0 (vx_MQ below Qc XC args s mc ms free) (entryFrame m args maxL)) : vx_Met l y ws rm Pc Qc XC mc ms free := by
  refine MetFree.of_bodyS (code := cc) (maxLocals := maxL) (ret := ret) hy ?_ ?_
  · intro args s m h hn
    obtain ⟨m9, meth, c, hn9, h1, h2, h3, h4, -, h5, h6, -⟩ := Cond.codeWith_spec (atoms_spec (ws := ws) h _ (by rw [hw]; exact List.mem_cons_self))
    cases hn.symm.trans hn9
    exact ⟨meth, c, h1, h2, h3, h4, h5, h6⟩
  · intro p e s m args below meth c s₁ B hml hP _
    have hh0 : s₁.heap = s.heap := by rw [B.state]; rfl
    obtain ⟨t, a1, o, b1, b2, b3⟩ := body p e s m args below meth c s₁ B hml hP s₁ hh0 (Stand.of_body B)
    exact ⟨t, o, a1, b1, b2, b3⟩
/-! ===== END ===== -/
end
section
def RX0 : String := "ProfitsOffice$Fund"
def TX0 : u_T := fun k => match k with
  | _ => ("ProfitsOffice$Fund", "amount", "J", false)
def tyX0 : Nat → FieldType := fun k => match k with
  | _ => .long
abbrev wsX00 : List Cond := u_ws RX0 TX0 1
theorem nmX0 : ∀ a, a < 1 → ∀ b, b < 1 → a ≠ b → (TX0 a).2.1 ≠ (TX0 b).2.1 := by decide +kernel
theorem tyX0_ok : ∀ k, k < 1 → parseFieldDescriptor (TX0 k).2.2.1 = some (tyX0 k) := by decide +kernel
abbrev cX0_init : ByteArray := prog_2_method_1_code
def yX0_init : MethodName := ⟨RX0, "<init>", "()V"⟩
abbrev cX0_earn : ByteArray := prog_2_method_2_code
def yX0_earn : MethodName := ⟨RX0, "earn", "(I)J"⟩
abbrev cX0_takeCharge : ByteArray := prog_2_method_3_code
def yX0_takeCharge : MethodName := ⟨RX0, "takeCharge", "(I)J"⟩
def RX1 : String := "ProfitsOffice$Generation"
def TX1 : u_T := fun k => match k with
  | 0 => ("ProfitsOffice$Generation", "begun", "I", true)
  | 1 => ("ProfitsOffice$Generation", "term", "I", true)
  | 2 => ("ProfitsOffice$Generation", "fund", "LProfitsOffice$Fund;", true)
  | _ => ("ProfitsOffice$Generation", "premiums", "J", false)
def tyX1 : Nat → FieldType := fun k => match k with
  | 0 => .int
  | 1 => .int
  | 2 => .object "ProfitsOffice$Fund"
  | _ => .long
abbrev wsX10 : List Cond := u_ws RX1 TX1 4
theorem nmX1 : ∀ a, a < 4 → ∀ b, b < 4 → a ≠ b → (TX1 a).2.1 ≠ (TX1 b).2.1 := by decide +kernel
theorem tyX1_ok : ∀ k, k < 4 → parseFieldDescriptor (TX1 k).2.2.1 = some (tyX1 k) := by decide +kernel
abbrev cX1_init : ByteArray := prog_3_method_1_code
def yX1_init : MethodName := ⟨RX1, "<init>", "(II)V"⟩
abbrev cX1_shareFor : ByteArray := prog_3_method_2_code
def yX1_shareFor : MethodName := ⟨RX1, "shareFor", "(I)J"⟩
abbrev cX1_release : ByteArray := prog_3_method_3_code
def yX1_release : MethodName := ⟨RX1, "release", "(I)J"⟩
def RX2 : String := "ProfitsOffice$Policy"
def TX2 : u_T := fun k => match k with
  | 0 => ("ProfitsOffice$Policy", "generation", "LProfitsOffice$Generation;", true)
  | 1 => ("ProfitsOffice$Policy", "premium", "I", true)
  | 2 => ("ProfitsOffice$Policy", "sum", "I", true)
  | 3 => ("ProfitsOffice$Policy", "alone", "LProfitsOffice$Fund;", true)
  | 4 => ("ProfitsOffice$Policy", "bonuses", "J", false)
  | 5 => ("ProfitsOffice$Policy", "state", "I", false)
  | _ => ("ProfitsOffice$Policy", "paid", "J", false)
def tyX2 : Nat → FieldType := fun k => match k with
  | 0 => .object "ProfitsOffice$Generation"
  | 1 => .int
  | 2 => .int
  | 3 => .object "ProfitsOffice$Fund"
  | 4 => .long
  | 5 => .int
  | _ => .long
abbrev wsX20 : List Cond := u_ws RX2 TX2 7
theorem nmX2 : ∀ a, a < 7 → ∀ b, b < 7 → a ≠ b → (TX2 a).2.1 ≠ (TX2 b).2.1 := by decide +kernel
theorem tyX2_ok : ∀ k, k < 7 → parseFieldDescriptor (TX2 k).2.2.1 = some (tyX2 k) := by decide +kernel
abbrev cX2_init : ByteArray := prog_4_method_1_code
def yX2_init : MethodName := ⟨RX2, "<init>", "(LProfitsOffice$Generation;II)V"⟩
abbrev cX2_isInForce : ByteArray := prog_4_method_2_code
def yX2_isInForce : MethodName := ⟨RX2, "isInForce", "()Z"⟩
abbrev cX2_guaranteed : ByteArray := prog_4_method_3_code
def yX2_guaranteed : MethodName := ⟨RX2, "guaranteed", "()J"⟩
abbrev cX2_assetShare : ByteArray := prog_4_method_4_code
def yX2_assetShare : MethodName := ⟨RX2, "assetShare", "()J"⟩
def RX3 : String := "ProfitsOffice"
def TX3 : u_T := fun k => match k with
  | 0 => ("ProfitsOffice", "policies", "[LProfitsOffice$Policy;", true)
  | 1 => ("ProfitsOffice", "generations", "[LProfitsOffice$Generation;", true)
  | 2 => ("ProfitsOffice", "lastRatios", "[J", true)
  | 3 => ("ProfitsOffice", "ratiosBefore", "[J", true)
  | 4 => ("ProfitsOffice", "policyCount", "I", false)
  | 5 => ("ProfitsOffice", "generationCount", "I", false)
  | 6 => ("ProfitsOffice", "year", "I", false)
  | 7 => ("ProfitsOffice", "bonusRate", "I", false)
  | 8 => ("ProfitsOffice", "charge", "I", false)
  | 9 => ("ProfitsOffice", "scale", "I", false)
  | 10 => ("ProfitsOffice", "step", "I", false)
  | 11 => ("ProfitsOffice", "floor", "I", false)
  | 12 => ("ProfitsOffice", "estate", "J", false)
  | _ => ("ProfitsOffice", "assets", "J", false)
def tyX3 : Nat → FieldType := fun k => match k with
  | 0 => .array (.object "ProfitsOffice$Policy")
  | 1 => .array (.object "ProfitsOffice$Generation")
  | 2 => .array .long
  | 3 => .array .long
  | 4 => .int
  | 5 => .int
  | 6 => .int
  | 7 => .int
  | 8 => .int
  | 9 => .int
  | 10 => .int
  | 11 => .int
  | 12 => .long
  | _ => .long
abbrev wsX30 : List Cond := u_ws RX3 TX3 14
theorem nmX3 : ∀ a, a < 14 → ∀ b, b < 14 → a ≠ b → (TX3 a).2.1 ≠ (TX3 b).2.1 := by decide +kernel
theorem tyX3_ok : ∀ k, k < 14 → parseFieldDescriptor (TX3 k).2.2.1 = some (tyX3 k) := by decide +kernel
abbrev cX3_init : ByteArray := prog_1_method_1_code
def yX3_init : MethodName := ⟨RX3, "<init>", "()V"⟩
abbrev cX3_begin : ByteArray := prog_1_method_2_code
def yX3_begin : MethodName := ⟨RX3, "begin", "(III)I"⟩
abbrev cX3_surrender : ByteArray := prog_1_method_3_code
def yX3_surrender : MethodName := ⟨RX3, "surrender", "(I)I"⟩
abbrev cX3_setRates : ByteArray := prog_1_method_4_code
def yX3_setRates : MethodName := ⟨RX3, "setRates", "(II)I"⟩
abbrev cX3_setScale : ByteArray := prog_1_method_5_code
def yX3_setScale : MethodName := ⟨RX3, "setScale", "(III)I"⟩
abbrev cX3_endow : ByteArray := prog_1_method_6_code
def yX3_endow : MethodName := ⟨RX3, "endow", "(I)J"⟩
abbrev cX3_run : ByteArray := prog_1_method_7_code
def yX3_run : MethodName := ⟨RX3, "run", "(I)I"⟩
abbrev cX3_year : ByteArray := prog_1_method_8_code
def yX3_year : MethodName := ⟨RX3, "year", "()I"⟩
abbrev cX3_policies : ByteArray := prog_1_method_9_code
def yX3_policies : MethodName := ⟨RX3, "policies", "()I"⟩
abbrev cX3_stateOf : ByteArray := prog_1_method_10_code
def yX3_stateOf : MethodName := ⟨RX3, "stateOf", "(I)I"⟩
abbrev cX3_bonuses : ByteArray := prog_1_method_11_code
def yX3_bonuses : MethodName := ⟨RX3, "bonuses", "(I)I"⟩
abbrev cX3_shareOf : ByteArray := prog_1_method_12_code
def yX3_shareOf : MethodName := ⟨RX3, "shareOf", "(I)I"⟩
abbrev cX3_shareAlone : ByteArray := prog_1_method_13_code
def yX3_shareAlone : MethodName := ⟨RX3, "shareAlone", "(I)I"⟩
abbrev cX3_generation : ByteArray := prog_1_method_14_code
def yX3_generation : MethodName := ⟨RX3, "generation", "(II)I"⟩
abbrev cX3_paid : ByteArray := prog_1_method_15_code
def yX3_paid : MethodName := ⟨RX3, "paid", "(I)I"⟩
abbrev cX3_worth : ByteArray := prog_1_method_16_code
def yX3_worth : MethodName := ⟨RX3, "worth", "(I)I"⟩
abbrev cX3_lastRatio : ByteArray := prog_1_method_17_code
def yX3_lastRatio : MethodName := ⟨RX3, "lastRatio", "(I)I"⟩
abbrev cX3_estate : ByteArray := prog_1_method_18_code
def yX3_estate : MethodName := ⟨RX3, "estate", "()J"⟩
abbrev cX3_sharesAndEstate : ByteArray := prog_1_method_19_code
def yX3_sharesAndEstate : MethodName := ⟨RX3, "sharesAndEstate", "()J"⟩
abbrev cX3_assets : ByteArray := prog_1_method_20_code
def yX3_assets : MethodName := ⟨RX3, "assets", "()J"⟩
abbrev cX3_shortfall : ByteArray := prog_1_method_21_code
def yX3_shortfall : MethodName := ⟨RX3, "shortfall", "()I"⟩
abbrev cX3_isWithin : ByteArray := prog_1_method_22_code
def yX3_isWithin : MethodName := ⟨RX3, "isWithin", "(III)Z"⟩
abbrev cX3_isTerm : ByteArray := prog_1_method_23_code
def yX3_isTerm : MethodName := ⟨RX3, "isTerm", "(I)Z"⟩
abbrev cX3_knownPolicy : ByteArray := prog_1_method_24_code
def yX3_knownPolicy : MethodName := ⟨RX3, "knownPolicy", "(I)LProfitsOffice$Policy;"⟩
abbrev cX3_checkSurrenderable : ByteArray := prog_1_method_25_code
def yX3_checkSurrenderable : MethodName := ⟨RX3, "checkSurrenderable", "(LProfitsOffice$Policy;)V"⟩
abbrev cX3_yearsRun : ByteArray := prog_1_method_26_code
def yX3_yearsRun : MethodName := ⟨RX3, "yearsRun", "(LProfitsOffice$Policy;)I"⟩
abbrev cX3_findGeneration : ByteArray := prog_1_method_27_code
def yX3_findGeneration : MethodName := ⟨RX3, "findGeneration", "(II)LProfitsOffice$Generation;"⟩
abbrev cX3_joinGeneration : ByteArray := prog_1_method_28_code
def yX3_joinGeneration : MethodName := ⟨RX3, "joinGeneration", "(II)LProfitsOffice$Generation;"⟩
abbrev cX3_ratioIn : ByteArray := prog_1_method_29_code
def yX3_ratioIn : MethodName := ⟨RX3, "ratioIn", "([JI)J"⟩
abbrev cX3_growGenerations : ByteArray := prog_1_method_30_code
def yX3_growGenerations : MethodName := ⟨RX3, "growGenerations", "(I)V"⟩
abbrev cX3_growPoliciesAlone : ByteArray := prog_1_method_31_code
def yX3_growPoliciesAlone : MethodName := ⟨RX3, "growPoliciesAlone", "(I)V"⟩
abbrev cX3_giveBonuses : ByteArray := prog_1_method_32_code
def yX3_giveBonuses : MethodName := ⟨RX3, "giveBonuses", "()V"⟩
abbrev cX3_maturePolicies : ByteArray := prog_1_method_33_code
def yX3_maturePolicies : MethodName := ⟨RX3, "maturePolicies", "()I"⟩
abbrev cX3_mature : ByteArray := prog_1_method_34_code
def yX3_mature : MethodName := ⟨RX3, "mature", "(LProfitsOffice$Policy;)V"⟩
abbrev cX3_smooth : ByteArray := prog_1_method_35_code
def yX3_smooth : MethodName := ⟨RX3, "smooth", "(JJ)J"⟩
abbrev cX3_surrenderWorth : ByteArray := prog_1_method_36_code
def yX3_surrenderWorth : MethodName := ⟨RX3, "surrenderWorth", "(LProfitsOffice$Policy;)J"⟩
abbrev cX3_close : ByteArray := prog_1_method_37_code
def yX3_close : MethodName := ⟨RX3, "close", "(LProfitsOffice$Policy;IJ)V"⟩
abbrev cX3_thousandths : ByteArray := prog_1_method_38_code
def yX3_thousandths : MethodName := ⟨RX3, "thousandths", "(JJ)J"⟩
abbrev cX3_parted : ByteArray := prog_1_method_39_code
def yX3_parted : MethodName := ⟨RX3, "parted", "(JJ)J"⟩
def RX4 : String := "ProfitsOfficeModel"
def TX4 : u_T := fun k => match k with
  | _ => ("", "", "", false)
def tyX4 : Nat → FieldType := fun k => match k with
  | _ => .int
abbrev wsX40 : List Cond := u_ws RX4 TX4 0
theorem nmX4 : ∀ a, a < 0 → ∀ b, b < 0 → a ≠ b → (TX4 a).2.1 ≠ (TX4 b).2.1 := by decide +kernel
theorem tyX4_ok : ∀ k, k < 0 → parseFieldDescriptor (TX4 k).2.2.1 = some (tyX4 k) := by decide +kernel
def RJ9 : String := "java/lang/Math"
def TJ9 : u_T := fun k => match k with
  | _ => ("", "", "", false)
def tyJ9 : Nat → FieldType := fun k => match k with
  | _ => .int
abbrev wsJ90 : List Cond := u_ws RJ9 TJ9 0
theorem nmJ9 : ∀ a, a < 0 → ∀ b, b < 0 → a ≠ b → (TJ9 a).2.1 ≠ (TJ9 b).2.1 := by decide +kernel
theorem tyJ9_ok : ∀ k, k < 0 → parseFieldDescriptor (TJ9 k).2.2.1 = some (tyJ9 k) := by decide +kernel
abbrev cJ9_floorDiv_f86c9 : ByteArray := prog_11_method_49_code
def yJ9_floorDiv_f86c9 : MethodName := ⟨RJ9, "floorDiv", "(JJ)J"⟩
abbrev cJ9_max_f86c9 : ByteArray := prog_11_method_66_code
def yJ9_max_f86c9 : MethodName := ⟨RJ9, "max", "(JJ)J"⟩
abbrev cJ9_min_f86c9 : ByteArray := prog_11_method_70_code
def yJ9_min_f86c9 : MethodName := ⟨RJ9, "min", "(JJ)J"⟩
def RJ0 : String := "java/lang/String"
def TJ0 : u_T := fun k => match k with
  | _ => ("", "", "", false)
def tyJ0 : Nat → FieldType := fun k => match k with
  | _ => .int
abbrev wsJ00 : List Cond := u_ws RJ0 TJ0 0
theorem nmJ0 : ∀ a, a < 0 → ∀ b, b < 0 → a ≠ b → (TJ0 a).2.1 ≠ (TJ0 b).2.1 := by decide +kernel
theorem tyJ0_ok : ∀ k, k < 0 → parseFieldDescriptor (TJ0 k).2.2.1 = some (tyJ0 k) := by decide +kernel
def RL : String := "ProfitsOfficeLaw"
abbrev cL_low : ByteArray := method_2_code
def yL_low : MethodName := ⟨RL, "low", "(II)I"⟩
abbrev cL_cell : ByteArray := method_3_code
def yL_cell : MethodName := ⟨RL, "cell", "([II)I"⟩
abbrev cL_begin : ByteArray := method_4_code
def yL_begin : MethodName := ⟨RL, "begin", "(LProfitsOffice;III)I"⟩
abbrev cL_surrender : ByteArray := method_5_code
def yL_surrender : MethodName := ⟨RL, "surrender", "(LProfitsOffice;I)I"⟩
abbrev cL_worth : ByteArray := method_6_code
def yL_worth : MethodName := ⟨RL, "worth", "(LProfitsOffice;I)I"⟩
abbrev cL_run : ByteArray := method_7_code
def yL_run : MethodName := ⟨RL, "run", "(LProfitsOffice;I)I"⟩
abbrev cL_holds : ByteArray := method_8_code
def yL_holds : MethodName := ⟨RL, "holds", "(LProfitsOffice;)Z"⟩
abbrev cL_generations : ByteArray := method_9_code
def yL_generations : MethodName := ⟨RL, "generations", "(LProfitsOffice;)Z"⟩
abbrev cL_law : ByteArray := code
def yL_law : MethodName := ⟨RL, "law", "([I)Z"⟩
abbrev vwCl : List vw_C := [(RX0, TX0, 1), (RX1, TX1, 4), (RX2, TX2, 7), (RX3, TX3, 14)]
end
section
theorem dX0_init_0 : decode cX0_init 0 = .ok (.aload_n 0, 1) := by decide +kernel
theorem dX0_init_1 : decode cX0_init 1 = .ok (.invokespecial 1, 3) := by decide +kernel
theorem dX0_init_4 : decode cX0_init 4 = .ok (.return_, 1) := by decide +kernel
theorem dX0_earn_0 : decode cX0_earn 0 = .ok (.aload_n 0, 1) := by decide +kernel
theorem dX0_earn_1 : decode cX0_earn 1 = .ok (.getfield 7, 3) := by decide +kernel
theorem dX0_earn_4 : decode cX0_earn 4 = .ok (.iload_n 1, 1) := by decide +kernel
theorem dX0_earn_5 : decode cX0_earn 5 = .ok (.i2l, 1) := by decide +kernel
theorem dX0_earn_6 : decode cX0_earn 6 = .ok (.invokestatic 13, 3) := by decide +kernel
theorem dX0_earn_9 : decode cX0_earn 9 = .ok (.lstore_n 2, 1) := by decide +kernel
theorem dX0_earn_10 : decode cX0_earn 10 = .ok (.aload_n 0, 1) := by decide +kernel
theorem dX0_earn_11 : decode cX0_earn 11 = .ok (.dup, 1) := by decide +kernel
theorem dX0_earn_12 : decode cX0_earn 12 = .ok (.getfield 7, 3) := by decide +kernel
theorem dX0_earn_15 : decode cX0_earn 15 = .ok (.lload_n 2, 1) := by decide +kernel
theorem dX0_earn_16 : decode cX0_earn 16 = .ok (.ladd, 1) := by decide +kernel
theorem dX0_earn_17 : decode cX0_earn 17 = .ok (.putfield 7, 3) := by decide +kernel
theorem dX0_earn_20 : decode cX0_earn 20 = .ok (.lload_n 2, 1) := by decide +kernel
theorem dX0_earn_21 : decode cX0_earn 21 = .ok (.lreturn, 1) := by decide +kernel
theorem dX0_takeCharge_0 : decode cX0_takeCharge 0 = .ok (.aload_n 0, 1) := by decide +kernel
theorem dX0_takeCharge_1 : decode cX0_takeCharge 1 = .ok (.getfield 7, 3) := by decide +kernel
theorem dX0_takeCharge_4 : decode cX0_takeCharge 4 = .ok (.lconst 0, 1) := by decide +kernel
theorem dX0_takeCharge_5 : decode cX0_takeCharge 5 = .ok (.lcmp, 1) := by decide +kernel
theorem dX0_takeCharge_6 : decode cX0_takeCharge 6 = .ok (.ifCond .le 15, 3) := by decide +kernel
theorem dX0_takeCharge_9 : decode cX0_takeCharge 9 = .ok (.aload_n 0, 1) := by decide +kernel
theorem dX0_takeCharge_10 : decode cX0_takeCharge 10 = .ok (.getfield 7, 3) := by decide +kernel
theorem dX0_takeCharge_13 : decode cX0_takeCharge 13 = .ok (.iload_n 1, 1) := by decide +kernel
theorem dX0_takeCharge_14 : decode cX0_takeCharge 14 = .ok (.i2l, 1) := by decide +kernel
theorem dX0_takeCharge_15 : decode cX0_takeCharge 15 = .ok (.invokestatic 13, 3) := by decide +kernel
theorem dX0_takeCharge_18 : decode cX0_takeCharge 18 = .ok (.goto 4, 3) := by decide +kernel
theorem dX0_takeCharge_21 : decode cX0_takeCharge 21 = .ok (.lconst 0, 1) := by decide +kernel
theorem dX0_takeCharge_22 : decode cX0_takeCharge 22 = .ok (.lstore_n 2, 1) := by decide +kernel
theorem dX0_takeCharge_23 : decode cX0_takeCharge 23 = .ok (.aload_n 0, 1) := by decide +kernel
theorem dX0_takeCharge_24 : decode cX0_takeCharge 24 = .ok (.dup, 1) := by decide +kernel
theorem dX0_takeCharge_25 : decode cX0_takeCharge 25 = .ok (.getfield 7, 3) := by decide +kernel
theorem dX0_takeCharge_28 : decode cX0_takeCharge 28 = .ok (.lload_n 2, 1) := by decide +kernel
theorem dX0_takeCharge_29 : decode cX0_takeCharge 29 = .ok (.lsub, 1) := by decide +kernel
theorem dX0_takeCharge_30 : decode cX0_takeCharge 30 = .ok (.putfield 7, 3) := by decide +kernel
theorem dX0_takeCharge_33 : decode cX0_takeCharge 33 = .ok (.lload_n 2, 1) := by decide +kernel
theorem dX0_takeCharge_34 : decode cX0_takeCharge 34 = .ok (.lreturn, 1) := by decide +kernel
theorem dX1_init_0 : decode cX1_init 0 = .ok (.aload_n 0, 1) := by decide +kernel
theorem dX1_init_1 : decode cX1_init 1 = .ok (.invokespecial 1, 3) := by decide +kernel
theorem dX1_init_4 : decode cX1_init 4 = .ok (.aload_n 0, 1) := by decide +kernel
theorem dX1_init_5 : decode cX1_init 5 = .ok (.iload_n 1, 1) := by decide +kernel
theorem dX1_init_6 : decode cX1_init 6 = .ok (.putfield 7, 3) := by decide +kernel
theorem dX1_init_9 : decode cX1_init 9 = .ok (.aload_n 0, 1) := by decide +kernel
theorem dX1_init_10 : decode cX1_init 10 = .ok (.iload_n 2, 1) := by decide +kernel
theorem dX1_init_11 : decode cX1_init 11 = .ok (.putfield 13, 3) := by decide +kernel
theorem dX1_init_14 : decode cX1_init 14 = .ok (.aload_n 0, 1) := by decide +kernel
theorem dX1_init_15 : decode cX1_init 15 = .ok (.new 16, 3) := by decide +kernel
theorem dX1_init_18 : decode cX1_init 18 = .ok (.dup, 1) := by decide +kernel
theorem dX1_init_19 : decode cX1_init 19 = .ok (.invokespecial 18, 3) := by decide +kernel
theorem dX1_init_22 : decode cX1_init 22 = .ok (.putfield 19, 3) := by decide +kernel
theorem dX1_init_25 : decode cX1_init 25 = .ok (.return_, 1) := by decide +kernel
theorem dX1_shareFor_0 : decode cX1_shareFor 0 = .ok (.aload_n 0, 1) := by decide +kernel
theorem dX1_shareFor_1 : decode cX1_shareFor 1 = .ok (.getfield 19, 3) := by decide +kernel
theorem dX1_shareFor_4 : decode cX1_shareFor 4 = .ok (.getfield 23, 3) := by decide +kernel
theorem dX1_shareFor_7 : decode cX1_shareFor 7 = .ok (.iload_n 1, 1) := by decide +kernel
theorem dX1_shareFor_8 : decode cX1_shareFor 8 = .ok (.i2l, 1) := by decide +kernel
theorem dX1_shareFor_9 : decode cX1_shareFor 9 = .ok (.lmul, 1) := by decide +kernel
theorem dX1_shareFor_10 : decode cX1_shareFor 10 = .ok (.aload_n 0, 1) := by decide +kernel
theorem dX1_shareFor_11 : decode cX1_shareFor 11 = .ok (.getfield 27, 3) := by decide +kernel
theorem dX1_shareFor_14 : decode cX1_shareFor 14 = .ok (.invokestatic 30, 3) := by decide +kernel
theorem dX1_shareFor_17 : decode cX1_shareFor 17 = .ok (.lreturn, 1) := by decide +kernel
theorem dX1_release_0 : decode cX1_release 0 = .ok (.aload_n 0, 1) := by decide +kernel
theorem dX1_release_1 : decode cX1_release 1 = .ok (.iload_n 1, 1) := by decide +kernel
theorem dX1_release_2 : decode cX1_release 2 = .ok (.invokevirtual 36, 3) := by decide +kernel
theorem dX1_release_5 : decode cX1_release 5 = .ok (.lstore_n 2, 1) := by decide +kernel
theorem dX1_release_6 : decode cX1_release 6 = .ok (.aload_n 0, 1) := by decide +kernel
theorem dX1_release_7 : decode cX1_release 7 = .ok (.dup, 1) := by decide +kernel
theorem dX1_release_8 : decode cX1_release 8 = .ok (.getfield 27, 3) := by decide +kernel
theorem dX1_release_11 : decode cX1_release 11 = .ok (.iload_n 1, 1) := by decide +kernel
theorem dX1_release_12 : decode cX1_release 12 = .ok (.i2l, 1) := by decide +kernel
theorem dX1_release_13 : decode cX1_release 13 = .ok (.lsub, 1) := by decide +kernel
theorem dX1_release_14 : decode cX1_release 14 = .ok (.putfield 27, 3) := by decide +kernel
theorem dX1_release_17 : decode cX1_release 17 = .ok (.aload_n 0, 1) := by decide +kernel
theorem dX1_release_18 : decode cX1_release 18 = .ok (.getfield 27, 3) := by decide +kernel
theorem dX1_release_21 : decode cX1_release 21 = .ok (.lconst 0, 1) := by decide +kernel
theorem dX1_release_22 : decode cX1_release 22 = .ok (.lcmp, 1) := by decide +kernel
theorem dX1_release_23 : decode cX1_release 23 = .ok (.ifCond .gt 11, 3) := by decide +kernel
theorem dX1_release_26 : decode cX1_release 26 = .ok (.aload_n 0, 1) := by decide +kernel
theorem dX1_release_27 : decode cX1_release 27 = .ok (.getfield 19, 3) := by decide +kernel
theorem dX1_release_30 : decode cX1_release 30 = .ok (.getfield 23, 3) := by decide +kernel
theorem dX1_release_33 : decode cX1_release 33 = .ok (.lstore_n 2, 1) := by decide +kernel
theorem dX1_release_34 : decode cX1_release 34 = .ok (.aload_n 0, 1) := by decide +kernel
theorem dX1_release_35 : decode cX1_release 35 = .ok (.getfield 19, 3) := by decide +kernel
theorem dX1_release_38 : decode cX1_release 38 = .ok (.dup, 1) := by decide +kernel
theorem dX1_release_39 : decode cX1_release 39 = .ok (.getfield 23, 3) := by decide +kernel
theorem dX1_release_42 : decode cX1_release 42 = .ok (.lload_n 2, 1) := by decide +kernel
theorem dX1_release_43 : decode cX1_release 43 = .ok (.lsub, 1) := by decide +kernel
theorem dX1_release_44 : decode cX1_release 44 = .ok (.putfield 23, 3) := by decide +kernel
theorem dX1_release_47 : decode cX1_release 47 = .ok (.lload_n 2, 1) := by decide +kernel
theorem dX1_release_48 : decode cX1_release 48 = .ok (.lreturn, 1) := by decide +kernel
theorem dX2_init_0 : decode cX2_init 0 = .ok (.aload_n 0, 1) := by decide +kernel
theorem dX2_init_1 : decode cX2_init 1 = .ok (.invokespecial 3, 3) := by decide +kernel
theorem dX2_init_4 : decode cX2_init 4 = .ok (.aload_n 0, 1) := by decide +kernel
theorem dX2_init_5 : decode cX2_init 5 = .ok (.aload_n 1, 1) := by decide +kernel
theorem dX2_init_6 : decode cX2_init 6 = .ok (.putfield 9, 3) := by decide +kernel
theorem dX2_init_9 : decode cX2_init 9 = .ok (.aload_n 0, 1) := by decide +kernel
theorem dX2_init_10 : decode cX2_init 10 = .ok (.iload_n 2, 1) := by decide +kernel
theorem dX2_init_11 : decode cX2_init 11 = .ok (.putfield 15, 3) := by decide +kernel
theorem dX2_init_14 : decode cX2_init 14 = .ok (.aload_n 0, 1) := by decide +kernel
theorem dX2_init_15 : decode cX2_init 15 = .ok (.iload_n 3, 1) := by decide +kernel
theorem dX2_init_16 : decode cX2_init 16 = .ok (.putfield 19, 3) := by decide +kernel
theorem dX2_init_19 : decode cX2_init 19 = .ok (.aload_n 0, 1) := by decide +kernel
theorem dX2_init_20 : decode cX2_init 20 = .ok (.new 22, 3) := by decide +kernel
theorem dX2_init_23 : decode cX2_init 23 = .ok (.dup, 1) := by decide +kernel
theorem dX2_init_24 : decode cX2_init 24 = .ok (.invokespecial 24, 3) := by decide +kernel
theorem dX2_init_27 : decode cX2_init 27 = .ok (.putfield 25, 3) := by decide +kernel
theorem dX2_init_30 : decode cX2_init 30 = .ok (.aload_n 0, 1) := by decide +kernel
theorem dX2_init_31 : decode cX2_init 31 = .ok (.iconst 0, 1) := by decide +kernel
theorem dX2_init_32 : decode cX2_init 32 = .ok (.putfield 29, 3) := by decide +kernel
theorem dX2_init_35 : decode cX2_init 35 = .ok (.aload_n 0, 1) := by decide +kernel
theorem dX2_init_36 : decode cX2_init 36 = .ok (.ldc2_w 32, 3) := by decide +kernel
theorem dX2_init_39 : decode cX2_init 39 = .ok (.putfield 34, 3) := by decide +kernel
theorem dX2_init_42 : decode cX2_init 42 = .ok (.return_, 1) := by decide +kernel
theorem dX2_isInForce_0 : decode cX2_isInForce 0 = .ok (.aload_n 0, 1) := by decide +kernel
theorem dX2_isInForce_1 : decode cX2_isInForce 1 = .ok (.getfield 29, 3) := by decide +kernel
theorem dX2_isInForce_4 : decode cX2_isInForce 4 = .ok (.ifCond .ne 7, 3) := by decide +kernel
theorem dX2_isInForce_7 : decode cX2_isInForce 7 = .ok (.iconst 1, 1) := by decide +kernel
theorem dX2_isInForce_8 : decode cX2_isInForce 8 = .ok (.goto 4, 3) := by decide +kernel
theorem dX2_isInForce_11 : decode cX2_isInForce 11 = .ok (.iconst 0, 1) := by decide +kernel
theorem dX2_isInForce_12 : decode cX2_isInForce 12 = .ok (.ireturn, 1) := by decide +kernel
theorem dX2_guaranteed_0 : decode cX2_guaranteed 0 = .ok (.aload_n 0, 1) := by decide +kernel
theorem dX2_guaranteed_1 : decode cX2_guaranteed 1 = .ok (.getfield 19, 3) := by decide +kernel
theorem dX2_guaranteed_4 : decode cX2_guaranteed 4 = .ok (.i2l, 1) := by decide +kernel
theorem dX2_guaranteed_5 : decode cX2_guaranteed 5 = .ok (.aload_n 0, 1) := by decide +kernel
theorem dX2_guaranteed_6 : decode cX2_guaranteed 6 = .ok (.getfield 38, 3) := by decide +kernel
theorem dX2_guaranteed_9 : decode cX2_guaranteed 9 = .ok (.ladd, 1) := by decide +kernel
theorem dX2_guaranteed_10 : decode cX2_guaranteed 10 = .ok (.lreturn, 1) := by decide +kernel
theorem dX2_assetShare_0 : decode cX2_assetShare 0 = .ok (.aload_n 0, 1) := by decide +kernel
theorem dX2_assetShare_1 : decode cX2_assetShare 1 = .ok (.invokevirtual 41, 3) := by decide +kernel
theorem dX2_assetShare_4 : decode cX2_assetShare 4 = .ok (.ifCond .eq 17, 3) := by decide +kernel
theorem dX2_assetShare_7 : decode cX2_assetShare 7 = .ok (.aload_n 0, 1) := by decide +kernel
theorem dX2_assetShare_8 : decode cX2_assetShare 8 = .ok (.getfield 9, 3) := by decide +kernel
theorem dX2_assetShare_11 : decode cX2_assetShare 11 = .ok (.aload_n 0, 1) := by decide +kernel
theorem dX2_assetShare_12 : decode cX2_assetShare 12 = .ok (.getfield 15, 3) := by decide +kernel
theorem dX2_assetShare_15 : decode cX2_assetShare 15 = .ok (.invokevirtual 45, 3) := by decide +kernel
theorem dX2_assetShare_18 : decode cX2_assetShare 18 = .ok (.goto 4, 3) := by decide +kernel
theorem dX2_assetShare_21 : decode cX2_assetShare 21 = .ok (.lconst 0, 1) := by decide +kernel
theorem dX2_assetShare_22 : decode cX2_assetShare 22 = .ok (.lreturn, 1) := by decide +kernel
theorem dX3_init_0 : decode cX3_init 0 = .ok (.aload_n 0, 1) := by decide +kernel
theorem dX3_init_1 : decode cX3_init 1 = .ok (.invokespecial 1, 3) := by decide +kernel
theorem dX3_init_4 : decode cX3_init 4 = .ok (.aload_n 0, 1) := by decide +kernel
theorem dX3_init_5 : decode cX3_init 5 = .ok (.bipush 30, 2) := by decide +kernel
theorem dX3_init_7 : decode cX3_init 7 = .ok (.anewarray 9, 3) := by decide +kernel
theorem dX3_init_10 : decode cX3_init 10 = .ok (.putfield 11, 3) := by decide +kernel
theorem dX3_init_13 : decode cX3_init 13 = .ok (.aload_n 0, 1) := by decide +kernel
theorem dX3_init_14 : decode cX3_init 14 = .ok (.bipush 30, 2) := by decide +kernel
theorem dX3_init_16 : decode cX3_init 16 = .ok (.anewarray 15, 3) := by decide +kernel
theorem dX3_init_19 : decode cX3_init 19 = .ok (.putfield 17, 3) := by decide +kernel
theorem dX3_init_22 : decode cX3_init 22 = .ok (.aload_n 0, 1) := by decide +kernel
theorem dX3_init_23 : decode cX3_init 23 = .ok (.bipush 21, 2) := by decide +kernel
theorem dX3_init_25 : decode cX3_init 25 = .ok (.newarray .long, 2) := by decide +kernel
theorem dX3_init_27 : decode cX3_init 27 = .ok (.putfield 21, 3) := by decide +kernel
theorem dX3_init_30 : decode cX3_init 30 = .ok (.aload_n 0, 1) := by decide +kernel
theorem dX3_init_31 : decode cX3_init 31 = .ok (.bipush 21, 2) := by decide +kernel
theorem dX3_init_33 : decode cX3_init 33 = .ok (.newarray .long, 2) := by decide +kernel
theorem dX3_init_35 : decode cX3_init 35 = .ok (.putfield 25, 3) := by decide +kernel
theorem dX3_init_38 : decode cX3_init 38 = .ok (.iconst 0, 1) := by decide +kernel
theorem dX3_init_39 : decode cX3_init 39 = .ok (.istore_n 1, 1) := by decide +kernel
theorem dX3_init_40 : decode cX3_init 40 = .ok (.iload_n 1, 1) := by decide +kernel
theorem dX3_init_41 : decode cX3_init 41 = .ok (.aload_n 0, 1) := by decide +kernel
theorem dX3_init_42 : decode cX3_init 42 = .ok (.getfield 21, 3) := by decide +kernel
theorem dX3_init_45 : decode cX3_init 45 = .ok (.arraylength, 1) := by decide +kernel
theorem dX3_init_46 : decode cX3_init 46 = .ok (.if_icmp .ge 18, 3) := by decide +kernel
theorem dX3_init_49 : decode cX3_init 49 = .ok (.aload_n 0, 1) := by decide +kernel
theorem dX3_init_50 : decode cX3_init 50 = .ok (.getfield 21, 3) := by decide +kernel
theorem dX3_init_53 : decode cX3_init 53 = .ok (.iload_n 1, 1) := by decide +kernel
theorem dX3_init_54 : decode cX3_init 54 = .ok (.ldc2_w 28, 3) := by decide +kernel
theorem dX3_init_57 : decode cX3_init 57 = .ok (.lastore, 1) := by decide +kernel
theorem dX3_init_58 : decode cX3_init 58 = .ok (.iinc 1 1, 3) := by decide +kernel
theorem dX3_init_61 : decode cX3_init 61 = .ok (.goto (-21), 3) := by decide +kernel
theorem dX3_init_64 : decode cX3_init 64 = .ok (.aload_n 0, 1) := by decide +kernel
theorem dX3_init_65 : decode cX3_init 65 = .ok (.bipush 20, 2) := by decide +kernel
theorem dX3_init_67 : decode cX3_init 67 = .ok (.putfield 30, 3) := by decide +kernel
theorem dX3_init_70 : decode cX3_init 70 = .ok (.aload_n 0, 1) := by decide +kernel
theorem dX3_init_71 : decode cX3_init 71 = .ok (.iconst 5, 1) := by decide +kernel
theorem dX3_init_72 : decode cX3_init 72 = .ok (.putfield 34, 3) := by decide +kernel
theorem dX3_init_75 : decode cX3_init 75 = .ok (.aload_n 0, 1) := by decide +kernel
theorem dX3_init_76 : decode cX3_init 76 = .ok (.sipush 1000, 3) := by decide +kernel
theorem dX3_init_79 : decode cX3_init 79 = .ok (.putfield 37, 3) := by decide +kernel
theorem dX3_init_82 : decode cX3_init 82 = .ok (.aload_n 0, 1) := by decide +kernel
theorem dX3_init_83 : decode cX3_init 83 = .ok (.bipush 100, 2) := by decide +kernel
theorem dX3_init_85 : decode cX3_init 85 = .ok (.putfield 40, 3) := by decide +kernel
theorem dX3_init_88 : decode cX3_init 88 = .ok (.aload_n 0, 1) := by decide +kernel
theorem dX3_init_89 : decode cX3_init 89 = .ok (.sipush 500, 3) := by decide +kernel
theorem dX3_init_92 : decode cX3_init 92 = .ok (.putfield 43, 3) := by decide +kernel
theorem dX3_init_95 : decode cX3_init 95 = .ok (.return_, 1) := by decide +kernel
theorem dX3_begin_0 : decode cX3_begin 0 = .ok (.iload_n 1, 1) := by decide +kernel
theorem dX3_begin_1 : decode cX3_begin 1 = .ok (.invokestatic 46, 3) := by decide +kernel
theorem dX3_begin_4 : decode cX3_begin 4 = .ok (.ifCond .eq 24, 3) := by decide +kernel
theorem dX3_begin_7 : decode cX3_begin 7 = .ok (.iload_n 2, 1) := by decide +kernel
theorem dX3_begin_8 : decode cX3_begin 8 = .ok (.iconst 1, 1) := by decide +kernel
theorem dX3_begin_9 : decode cX3_begin 9 = .ok (.sipush 1000, 3) := by decide +kernel
theorem dX3_begin_12 : decode cX3_begin 12 = .ok (.invokestatic 50, 3) := by decide +kernel
theorem dX3_begin_15 : decode cX3_begin 15 = .ok (.ifCond .eq 13, 3) := by decide +kernel
theorem dX3_begin_18 : decode cX3_begin 18 = .ok (.iload_n 3, 1) := by decide +kernel
theorem dX3_begin_19 : decode cX3_begin 19 = .ok (.iconst 0, 1) := by decide +kernel
theorem dX3_begin_20 : decode cX3_begin 20 = .ok (.ldc 54, 2) := by decide +kernel
theorem dX3_begin_22 : decode cX3_begin 22 = .ok (.invokestatic 50, 3) := by decide +kernel
theorem dX3_begin_25 : decode cX3_begin 25 = .ok (.ifCond .ne 13, 3) := by decide +kernel
theorem dX3_begin_28 : decode cX3_begin 28 = .ok (.new 55, 3) := by decide +kernel
theorem dX3_begin_31 : decode cX3_begin 31 = .ok (.dup, 1) := by decide +kernel
theorem dX3_begin_32 : decode cX3_begin 32 = .ok (.ldc 57, 2) := by decide +kernel
theorem dX3_begin_34 : decode cX3_begin 34 = .ok (.invokespecial 59, 3) := by decide +kernel
theorem dX3_begin_37 : decode cX3_begin 37 = .ok (.athrow, 1) := by decide +kernel
theorem dX3_begin_38 : decode cX3_begin 38 = .ok (.aload_n 0, 1) := by decide +kernel
theorem dX3_begin_39 : decode cX3_begin 39 = .ok (.getfield 62, 3) := by decide +kernel
theorem dX3_begin_42 : decode cX3_begin 42 = .ok (.istore 4, 2) := by decide +kernel
theorem dX3_begin_44 : decode cX3_begin 44 = .ok (.iload 4, 2) := by decide +kernel
theorem dX3_begin_46 : decode cX3_begin 46 = .ok (.ifCond .lt 13, 3) := by decide +kernel
theorem dX3_begin_49 : decode cX3_begin 49 = .ok (.iload 4, 2) := by decide +kernel
theorem dX3_begin_51 : decode cX3_begin 51 = .ok (.aload_n 0, 1) := by decide +kernel
theorem dX3_begin_52 : decode cX3_begin 52 = .ok (.getfield 11, 3) := by decide +kernel
theorem dX3_begin_55 : decode cX3_begin 55 = .ok (.arraylength, 1) := by decide +kernel
theorem dX3_begin_56 : decode cX3_begin 56 = .ok (.if_icmp .lt 13, 3) := by decide +kernel
theorem dX3_begin_59 : decode cX3_begin 59 = .ok (.new 65, 3) := by decide +kernel
theorem dX3_begin_62 : decode cX3_begin 62 = .ok (.dup, 1) := by decide +kernel
theorem dX3_begin_63 : decode cX3_begin 63 = .ok (.ldc 67, 2) := by decide +kernel
theorem dX3_begin_65 : decode cX3_begin 65 = .ok (.invokespecial 69, 3) := by decide +kernel
theorem dX3_begin_68 : decode cX3_begin 68 = .ok (.athrow, 1) := by decide +kernel
theorem dX3_begin_69 : decode cX3_begin 69 = .ok (.aload_n 0, 1) := by decide +kernel
theorem dX3_begin_70 : decode cX3_begin 70 = .ok (.getfield 11, 3) := by decide +kernel
theorem dX3_begin_73 : decode cX3_begin 73 = .ok (.iload 4, 2) := by decide +kernel
theorem dX3_begin_75 : decode cX3_begin 75 = .ok (.new 9, 3) := by decide +kernel
theorem dX3_begin_78 : decode cX3_begin 78 = .ok (.dup, 1) := by decide +kernel
theorem dX3_begin_79 : decode cX3_begin 79 = .ok (.aload_n 0, 1) := by decide +kernel
theorem dX3_begin_80 : decode cX3_begin 80 = .ok (.iload_n 1, 1) := by decide +kernel
theorem dX3_begin_81 : decode cX3_begin 81 = .ok (.iload_n 2, 1) := by decide +kernel
theorem dX3_begin_82 : decode cX3_begin 82 = .ok (.invokevirtual 70, 3) := by decide +kernel
theorem dX3_begin_85 : decode cX3_begin 85 = .ok (.iload_n 2, 1) := by decide +kernel
theorem dX3_begin_86 : decode cX3_begin 86 = .ok (.iload_n 3, 1) := by decide +kernel
theorem dX3_begin_87 : decode cX3_begin 87 = .ok (.invokespecial 74, 3) := by decide +kernel
theorem dX3_begin_90 : decode cX3_begin 90 = .ok (.aastore, 1) := by decide +kernel
theorem dX3_begin_91 : decode cX3_begin 91 = .ok (.aload_n 0, 1) := by decide +kernel
theorem dX3_begin_92 : decode cX3_begin 92 = .ok (.iload 4, 2) := by decide +kernel
theorem dX3_begin_94 : decode cX3_begin 94 = .ok (.iconst 1, 1) := by decide +kernel
theorem dX3_begin_95 : decode cX3_begin 95 = .ok (.iadd, 1) := by decide +kernel
theorem dX3_begin_96 : decode cX3_begin 96 = .ok (.putfield 62, 3) := by decide +kernel
theorem dX3_begin_99 : decode cX3_begin 99 = .ok (.iload 4, 2) := by decide +kernel
theorem dX3_begin_101 : decode cX3_begin 101 = .ok (.ireturn, 1) := by decide +kernel
theorem dX3_surrender_0 : decode cX3_surrender 0 = .ok (.aload_n 0, 1) := by decide +kernel
theorem dX3_surrender_1 : decode cX3_surrender 1 = .ok (.iload_n 1, 1) := by decide +kernel
theorem dX3_surrender_2 : decode cX3_surrender 2 = .ok (.invokevirtual 77, 3) := by decide +kernel
theorem dX3_surrender_5 : decode cX3_surrender 5 = .ok (.astore_n 2, 1) := by decide +kernel
theorem dX3_surrender_6 : decode cX3_surrender 6 = .ok (.aload_n 0, 1) := by decide +kernel
theorem dX3_surrender_7 : decode cX3_surrender 7 = .ok (.aload_n 2, 1) := by decide +kernel
theorem dX3_surrender_8 : decode cX3_surrender 8 = .ok (.invokevirtual 81, 3) := by decide +kernel
theorem dX3_surrender_11 : decode cX3_surrender 11 = .ok (.aload_n 0, 1) := by decide +kernel
theorem dX3_surrender_12 : decode cX3_surrender 12 = .ok (.aload_n 2, 1) := by decide +kernel
theorem dX3_surrender_13 : decode cX3_surrender 13 = .ok (.invokevirtual 85, 3) := by decide +kernel
theorem dX3_surrender_16 : decode cX3_surrender 16 = .ok (.lstore_n 3, 1) := by decide +kernel
theorem dX3_surrender_17 : decode cX3_surrender 17 = .ok (.aload_n 0, 1) := by decide +kernel
theorem dX3_surrender_18 : decode cX3_surrender 18 = .ok (.aload_n 2, 1) := by decide +kernel
theorem dX3_surrender_19 : decode cX3_surrender 19 = .ok (.iconst 2, 1) := by decide +kernel
theorem dX3_surrender_20 : decode cX3_surrender 20 = .ok (.lload_n 3, 1) := by decide +kernel
theorem dX3_surrender_21 : decode cX3_surrender 21 = .ok (.invokevirtual 89, 3) := by decide +kernel
theorem dX3_surrender_24 : decode cX3_surrender 24 = .ok (.lload_n 3, 1) := by decide +kernel
theorem dX3_surrender_25 : decode cX3_surrender 25 = .ok (.l2i, 1) := by decide +kernel
theorem dX3_surrender_26 : decode cX3_surrender 26 = .ok (.ireturn, 1) := by decide +kernel
theorem dX3_setRates_0 : decode cX3_setRates 0 = .ok (.iload_n 1, 1) := by decide +kernel
theorem dX3_setRates_1 : decode cX3_setRates 1 = .ok (.iconst 0, 1) := by decide +kernel
theorem dX3_setRates_2 : decode cX3_setRates 2 = .ok (.sipush 200, 3) := by decide +kernel
theorem dX3_setRates_5 : decode cX3_setRates 5 = .ok (.invokestatic 50, 3) := by decide +kernel
theorem dX3_setRates_8 : decode cX3_setRates 8 = .ok (.ifCond .eq 13, 3) := by decide +kernel
theorem dX3_setRates_11 : decode cX3_setRates 11 = .ok (.iload_n 2, 1) := by decide +kernel
theorem dX3_setRates_12 : decode cX3_setRates 12 = .ok (.iconst 0, 1) := by decide +kernel
theorem dX3_setRates_13 : decode cX3_setRates 13 = .ok (.bipush 100, 2) := by decide +kernel
theorem dX3_setRates_15 : decode cX3_setRates 15 = .ok (.invokestatic 50, 3) := by decide +kernel
theorem dX3_setRates_18 : decode cX3_setRates 18 = .ok (.ifCond .ne 13, 3) := by decide +kernel
theorem dX3_setRates_21 : decode cX3_setRates 21 = .ok (.new 55, 3) := by decide +kernel
theorem dX3_setRates_24 : decode cX3_setRates 24 = .ok (.dup, 1) := by decide +kernel
theorem dX3_setRates_25 : decode cX3_setRates 25 = .ok (.ldc 93, 2) := by decide +kernel
theorem dX3_setRates_27 : decode cX3_setRates 27 = .ok (.invokespecial 59, 3) := by decide +kernel
theorem dX3_setRates_30 : decode cX3_setRates 30 = .ok (.athrow, 1) := by decide +kernel
theorem dX3_setRates_31 : decode cX3_setRates 31 = .ok (.aload_n 0, 1) := by decide +kernel
theorem dX3_setRates_32 : decode cX3_setRates 32 = .ok (.getfield 30, 3) := by decide +kernel
theorem dX3_setRates_35 : decode cX3_setRates 35 = .ok (.istore_n 3, 1) := by decide +kernel
theorem dX3_setRates_36 : decode cX3_setRates 36 = .ok (.aload_n 0, 1) := by decide +kernel
theorem dX3_setRates_37 : decode cX3_setRates 37 = .ok (.iload_n 1, 1) := by decide +kernel
theorem dX3_setRates_38 : decode cX3_setRates 38 = .ok (.putfield 30, 3) := by decide +kernel
theorem dX3_setRates_41 : decode cX3_setRates 41 = .ok (.aload_n 0, 1) := by decide +kernel
theorem dX3_setRates_42 : decode cX3_setRates 42 = .ok (.iload_n 2, 1) := by decide +kernel
theorem dX3_setRates_43 : decode cX3_setRates 43 = .ok (.putfield 34, 3) := by decide +kernel
theorem dX3_setRates_46 : decode cX3_setRates 46 = .ok (.iload_n 3, 1) := by decide +kernel
theorem dX3_setRates_47 : decode cX3_setRates 47 = .ok (.ireturn, 1) := by decide +kernel
theorem dX3_setScale_0 : decode cX3_setScale 0 = .ok (.iload_n 1, 1) := by decide +kernel
theorem dX3_setScale_1 : decode cX3_setScale 1 = .ok (.sipush 500, 3) := by decide +kernel
theorem dX3_setScale_4 : decode cX3_setScale 4 = .ok (.sipush 1500, 3) := by decide +kernel
theorem dX3_setScale_7 : decode cX3_setScale 7 = .ok (.invokestatic 50, 3) := by decide +kernel
theorem dX3_setScale_10 : decode cX3_setScale 10 = .ok (.ifCond .eq 25, 3) := by decide +kernel
theorem dX3_setScale_13 : decode cX3_setScale 13 = .ok (.iload_n 2, 1) := by decide +kernel
theorem dX3_setScale_14 : decode cX3_setScale 14 = .ok (.iconst 0, 1) := by decide +kernel
theorem dX3_setScale_15 : decode cX3_setScale 15 = .ok (.sipush 1000, 3) := by decide +kernel
theorem dX3_setScale_18 : decode cX3_setScale 18 = .ok (.invokestatic 50, 3) := by decide +kernel
theorem dX3_setScale_21 : decode cX3_setScale 21 = .ok (.ifCond .eq 14, 3) := by decide +kernel
theorem dX3_setScale_24 : decode cX3_setScale 24 = .ok (.iload_n 3, 1) := by decide +kernel
theorem dX3_setScale_25 : decode cX3_setScale 25 = .ok (.iconst 0, 1) := by decide +kernel
theorem dX3_setScale_26 : decode cX3_setScale 26 = .ok (.sipush 1000, 3) := by decide +kernel
theorem dX3_setScale_29 : decode cX3_setScale 29 = .ok (.invokestatic 50, 3) := by decide +kernel
theorem dX3_setScale_32 : decode cX3_setScale 32 = .ok (.ifCond .ne 13, 3) := by decide +kernel
theorem dX3_setScale_35 : decode cX3_setScale 35 = .ok (.new 55, 3) := by decide +kernel
theorem dX3_setScale_38 : decode cX3_setScale 38 = .ok (.dup, 1) := by decide +kernel
theorem dX3_setScale_39 : decode cX3_setScale 39 = .ok (.ldc 95, 2) := by decide +kernel
theorem dX3_setScale_41 : decode cX3_setScale 41 = .ok (.invokespecial 59, 3) := by decide +kernel
theorem dX3_setScale_44 : decode cX3_setScale 44 = .ok (.athrow, 1) := by decide +kernel
theorem dX3_setScale_45 : decode cX3_setScale 45 = .ok (.aload_n 0, 1) := by decide +kernel
theorem dX3_setScale_46 : decode cX3_setScale 46 = .ok (.getfield 37, 3) := by decide +kernel
theorem dX3_setScale_49 : decode cX3_setScale 49 = .ok (.istore 4, 2) := by decide +kernel
theorem dX3_setScale_51 : decode cX3_setScale 51 = .ok (.aload_n 0, 1) := by decide +kernel
theorem dX3_setScale_52 : decode cX3_setScale 52 = .ok (.iload_n 1, 1) := by decide +kernel
theorem dX3_setScale_53 : decode cX3_setScale 53 = .ok (.putfield 37, 3) := by decide +kernel
theorem dX3_setScale_56 : decode cX3_setScale 56 = .ok (.aload_n 0, 1) := by decide +kernel
theorem dX3_setScale_57 : decode cX3_setScale 57 = .ok (.iload_n 2, 1) := by decide +kernel
theorem dX3_setScale_58 : decode cX3_setScale 58 = .ok (.putfield 40, 3) := by decide +kernel
theorem dX3_setScale_61 : decode cX3_setScale 61 = .ok (.aload_n 0, 1) := by decide +kernel
theorem dX3_setScale_62 : decode cX3_setScale 62 = .ok (.iload_n 3, 1) := by decide +kernel
theorem dX3_setScale_63 : decode cX3_setScale 63 = .ok (.putfield 43, 3) := by decide +kernel
theorem dX3_setScale_66 : decode cX3_setScale 66 = .ok (.iload 4, 2) := by decide +kernel
theorem dX3_setScale_68 : decode cX3_setScale 68 = .ok (.ireturn, 1) := by decide +kernel
theorem dX3_endow_0 : decode cX3_endow 0 = .ok (.iload_n 1, 1) := by decide +kernel
theorem dX3_endow_1 : decode cX3_endow 1 = .ok (.ldc 97, 2) := by decide +kernel
theorem dX3_endow_3 : decode cX3_endow 3 = .ok (.ldc 98, 2) := by decide +kernel
theorem dX3_endow_5 : decode cX3_endow 5 = .ok (.invokestatic 50, 3) := by decide +kernel
theorem dX3_endow_8 : decode cX3_endow 8 = .ok (.ifCond .ne 13, 3) := by decide +kernel
theorem dX3_endow_11 : decode cX3_endow 11 = .ok (.new 55, 3) := by decide +kernel
theorem dX3_endow_14 : decode cX3_endow 14 = .ok (.dup, 1) := by decide +kernel
theorem dX3_endow_15 : decode cX3_endow 15 = .ok (.ldc 99, 2) := by decide +kernel
theorem dX3_endow_17 : decode cX3_endow 17 = .ok (.invokespecial 59, 3) := by decide +kernel
theorem dX3_endow_20 : decode cX3_endow 20 = .ok (.athrow, 1) := by decide +kernel
theorem dX3_endow_21 : decode cX3_endow 21 = .ok (.aload_n 0, 1) := by decide +kernel
theorem dX3_endow_22 : decode cX3_endow 22 = .ok (.dup, 1) := by decide +kernel
theorem dX3_endow_23 : decode cX3_endow 23 = .ok (.getfield 101, 3) := by decide +kernel
theorem dX3_endow_26 : decode cX3_endow 26 = .ok (.iload_n 1, 1) := by decide +kernel
theorem dX3_endow_27 : decode cX3_endow 27 = .ok (.i2l, 1) := by decide +kernel
theorem dX3_endow_28 : decode cX3_endow 28 = .ok (.ladd, 1) := by decide +kernel
theorem dX3_endow_29 : decode cX3_endow 29 = .ok (.putfield 101, 3) := by decide +kernel
theorem dX3_endow_32 : decode cX3_endow 32 = .ok (.aload_n 0, 1) := by decide +kernel
theorem dX3_endow_33 : decode cX3_endow 33 = .ok (.dup, 1) := by decide +kernel
theorem dX3_endow_34 : decode cX3_endow 34 = .ok (.getfield 105, 3) := by decide +kernel
theorem dX3_endow_37 : decode cX3_endow 37 = .ok (.iload_n 1, 1) := by decide +kernel
theorem dX3_endow_38 : decode cX3_endow 38 = .ok (.i2l, 1) := by decide +kernel
theorem dX3_endow_39 : decode cX3_endow 39 = .ok (.ladd, 1) := by decide +kernel
theorem dX3_endow_40 : decode cX3_endow 40 = .ok (.putfield 105, 3) := by decide +kernel
theorem dX3_endow_43 : decode cX3_endow 43 = .ok (.aload_n 0, 1) := by decide +kernel
theorem dX3_endow_44 : decode cX3_endow 44 = .ok (.getfield 101, 3) := by decide +kernel
theorem dX3_endow_47 : decode cX3_endow 47 = .ok (.lreturn, 1) := by decide +kernel
theorem dX3_run_0 : decode cX3_run 0 = .ok (.iload_n 1, 1) := by decide +kernel
theorem dX3_run_1 : decode cX3_run 1 = .ok (.sipush (-200), 3) := by decide +kernel
theorem dX3_run_4 : decode cX3_run 4 = .ok (.sipush 200, 3) := by decide +kernel
theorem dX3_run_7 : decode cX3_run 7 = .ok (.invokestatic 50, 3) := by decide +kernel
theorem dX3_run_10 : decode cX3_run 10 = .ok (.ifCond .ne 13, 3) := by decide +kernel
theorem dX3_run_13 : decode cX3_run 13 = .ok (.new 55, 3) := by decide +kernel
theorem dX3_run_16 : decode cX3_run 16 = .ok (.dup, 1) := by decide +kernel
theorem dX3_run_17 : decode cX3_run 17 = .ok (.ldc 108, 2) := by decide +kernel
theorem dX3_run_19 : decode cX3_run 19 = .ok (.invokespecial 59, 3) := by decide +kernel
theorem dX3_run_22 : decode cX3_run 22 = .ok (.athrow, 1) := by decide +kernel
theorem dX3_run_23 : decode cX3_run 23 = .ok (.aload_n 0, 1) := by decide +kernel
theorem dX3_run_24 : decode cX3_run 24 = .ok (.getfield 110, 3) := by decide +kernel
theorem dX3_run_27 : decode cX3_run 27 = .ok (.bipush 40, 2) := by decide +kernel
theorem dX3_run_29 : decode cX3_run 29 = .ok (.if_icmp .lt 13, 3) := by decide +kernel
theorem dX3_run_32 : decode cX3_run 32 = .ok (.new 65, 3) := by decide +kernel
theorem dX3_run_35 : decode cX3_run 35 = .ok (.dup, 1) := by decide +kernel
theorem dX3_run_36 : decode cX3_run 36 = .ok (.ldc 113, 2) := by decide +kernel
theorem dX3_run_38 : decode cX3_run 38 = .ok (.invokespecial 69, 3) := by decide +kernel
theorem dX3_run_41 : decode cX3_run 41 = .ok (.athrow, 1) := by decide +kernel
theorem dX3_run_42 : decode cX3_run 42 = .ok (.aload_n 0, 1) := by decide +kernel
theorem dX3_run_43 : decode cX3_run 43 = .ok (.getfield 101, 3) := by decide +kernel
theorem dX3_run_46 : decode cX3_run 46 = .ok (.iload_n 1, 1) := by decide +kernel
theorem dX3_run_47 : decode cX3_run 47 = .ok (.i2l, 1) := by decide +kernel
theorem dX3_run_48 : decode cX3_run 48 = .ok (.invokestatic 115, 3) := by decide +kernel
theorem dX3_run_51 : decode cX3_run 51 = .ok (.lstore_n 2, 1) := by decide +kernel
theorem dX3_run_52 : decode cX3_run 52 = .ok (.aload_n 0, 1) := by decide +kernel
theorem dX3_run_53 : decode cX3_run 53 = .ok (.iload_n 1, 1) := by decide +kernel
theorem dX3_run_54 : decode cX3_run 54 = .ok (.invokevirtual 119, 3) := by decide +kernel
theorem dX3_run_57 : decode cX3_run 57 = .ok (.aload_n 0, 1) := by decide +kernel
theorem dX3_run_58 : decode cX3_run 58 = .ok (.dup, 1) := by decide +kernel
theorem dX3_run_59 : decode cX3_run 59 = .ok (.getfield 101, 3) := by decide +kernel
theorem dX3_run_62 : decode cX3_run 62 = .ok (.lload_n 2, 1) := by decide +kernel
theorem dX3_run_63 : decode cX3_run 63 = .ok (.ladd, 1) := by decide +kernel
theorem dX3_run_64 : decode cX3_run 64 = .ok (.putfield 101, 3) := by decide +kernel
theorem dX3_run_67 : decode cX3_run 67 = .ok (.aload_n 0, 1) := by decide +kernel
theorem dX3_run_68 : decode cX3_run 68 = .ok (.dup, 1) := by decide +kernel
theorem dX3_run_69 : decode cX3_run 69 = .ok (.getfield 105, 3) := by decide +kernel
theorem dX3_run_72 : decode cX3_run 72 = .ok (.lload_n 2, 1) := by decide +kernel
theorem dX3_run_73 : decode cX3_run 73 = .ok (.ladd, 1) := by decide +kernel
theorem dX3_run_74 : decode cX3_run 74 = .ok (.putfield 105, 3) := by decide +kernel
theorem dX3_run_77 : decode cX3_run 77 = .ok (.aload_n 0, 1) := by decide +kernel
theorem dX3_run_78 : decode cX3_run 78 = .ok (.iload_n 1, 1) := by decide +kernel
theorem dX3_run_79 : decode cX3_run 79 = .ok (.invokevirtual 123, 3) := by decide +kernel
theorem dX3_run_82 : decode cX3_run 82 = .ok (.aload_n 0, 1) := by decide +kernel
theorem dX3_run_83 : decode cX3_run 83 = .ok (.invokevirtual 126, 3) := by decide +kernel
theorem dX3_run_86 : decode cX3_run 86 = .ok (.aload_n 0, 1) := by decide +kernel
theorem dX3_run_87 : decode cX3_run 87 = .ok (.invokevirtual 129, 3) := by decide +kernel
theorem dX3_run_90 : decode cX3_run 90 = .ok (.istore 4, 2) := by decide +kernel
theorem dX3_run_92 : decode cX3_run 92 = .ok (.aload_n 0, 1) := by decide +kernel
theorem dX3_run_93 : decode cX3_run 93 = .ok (.dup, 1) := by decide +kernel
theorem dX3_run_94 : decode cX3_run 94 = .ok (.getfield 110, 3) := by decide +kernel
theorem dX3_run_97 : decode cX3_run 97 = .ok (.iconst 1, 1) := by decide +kernel
theorem dX3_run_98 : decode cX3_run 98 = .ok (.iadd, 1) := by decide +kernel
theorem dX3_run_99 : decode cX3_run 99 = .ok (.putfield 110, 3) := by decide +kernel
theorem dX3_run_102 : decode cX3_run 102 = .ok (.iload 4, 2) := by decide +kernel
theorem dX3_run_104 : decode cX3_run 104 = .ok (.ireturn, 1) := by decide +kernel
theorem dX3_year_0 : decode cX3_year 0 = .ok (.aload_n 0, 1) := by decide +kernel
theorem dX3_year_1 : decode cX3_year 1 = .ok (.getfield 110, 3) := by decide +kernel
theorem dX3_year_4 : decode cX3_year 4 = .ok (.ireturn, 1) := by decide +kernel
theorem dX3_policies_0 : decode cX3_policies 0 = .ok (.aload_n 0, 1) := by decide +kernel
theorem dX3_policies_1 : decode cX3_policies 1 = .ok (.getfield 62, 3) := by decide +kernel
theorem dX3_policies_4 : decode cX3_policies 4 = .ok (.ireturn, 1) := by decide +kernel
theorem dX3_stateOf_0 : decode cX3_stateOf 0 = .ok (.aload_n 0, 1) := by decide +kernel
theorem dX3_stateOf_1 : decode cX3_stateOf 1 = .ok (.iload_n 1, 1) := by decide +kernel
theorem dX3_stateOf_2 : decode cX3_stateOf 2 = .ok (.invokevirtual 77, 3) := by decide +kernel
theorem dX3_stateOf_5 : decode cX3_stateOf 5 = .ok (.getfield 133, 3) := by decide +kernel
theorem dX3_stateOf_8 : decode cX3_stateOf 8 = .ok (.ireturn, 1) := by decide +kernel
theorem dX3_bonuses_0 : decode cX3_bonuses 0 = .ok (.aload_n 0, 1) := by decide +kernel
theorem dX3_bonuses_1 : decode cX3_bonuses 1 = .ok (.iload_n 1, 1) := by decide +kernel
theorem dX3_bonuses_2 : decode cX3_bonuses 2 = .ok (.invokevirtual 77, 3) := by decide +kernel
theorem dX3_bonuses_5 : decode cX3_bonuses 5 = .ok (.getfield 136, 3) := by decide +kernel
theorem dX3_bonuses_8 : decode cX3_bonuses 8 = .ok (.l2i, 1) := by decide +kernel
theorem dX3_bonuses_9 : decode cX3_bonuses 9 = .ok (.ireturn, 1) := by decide +kernel
theorem dX3_shareOf_0 : decode cX3_shareOf 0 = .ok (.aload_n 0, 1) := by decide +kernel
theorem dX3_shareOf_1 : decode cX3_shareOf 1 = .ok (.iload_n 1, 1) := by decide +kernel
theorem dX3_shareOf_2 : decode cX3_shareOf 2 = .ok (.invokevirtual 77, 3) := by decide +kernel
theorem dX3_shareOf_5 : decode cX3_shareOf 5 = .ok (.invokevirtual 139, 3) := by decide +kernel
theorem dX3_shareOf_8 : decode cX3_shareOf 8 = .ok (.l2i, 1) := by decide +kernel
theorem dX3_shareOf_9 : decode cX3_shareOf 9 = .ok (.ireturn, 1) := by decide +kernel
theorem dX3_shareAlone_0 : decode cX3_shareAlone 0 = .ok (.aload_n 0, 1) := by decide +kernel
theorem dX3_shareAlone_1 : decode cX3_shareAlone 1 = .ok (.iload_n 1, 1) := by decide +kernel
theorem dX3_shareAlone_2 : decode cX3_shareAlone 2 = .ok (.invokevirtual 77, 3) := by decide +kernel
theorem dX3_shareAlone_5 : decode cX3_shareAlone 5 = .ok (.astore_n 2, 1) := by decide +kernel
theorem dX3_shareAlone_6 : decode cX3_shareAlone 6 = .ok (.aload_n 2, 1) := by decide +kernel
theorem dX3_shareAlone_7 : decode cX3_shareAlone 7 = .ok (.invokevirtual 143, 3) := by decide +kernel
theorem dX3_shareAlone_10 : decode cX3_shareAlone 10 = .ok (.ifCond .eq 14, 3) := by decide +kernel
theorem dX3_shareAlone_13 : decode cX3_shareAlone 13 = .ok (.aload_n 2, 1) := by decide +kernel
theorem dX3_shareAlone_14 : decode cX3_shareAlone 14 = .ok (.getfield 147, 3) := by decide +kernel
theorem dX3_shareAlone_17 : decode cX3_shareAlone 17 = .ok (.getfield 151, 3) := by decide +kernel
theorem dX3_shareAlone_20 : decode cX3_shareAlone 20 = .ok (.l2i, 1) := by decide +kernel
theorem dX3_shareAlone_21 : decode cX3_shareAlone 21 = .ok (.goto 4, 3) := by decide +kernel
theorem dX3_shareAlone_24 : decode cX3_shareAlone 24 = .ok (.iconst 0, 1) := by decide +kernel
theorem dX3_shareAlone_25 : decode cX3_shareAlone 25 = .ok (.ireturn, 1) := by decide +kernel
theorem dX3_generation_0 : decode cX3_generation 0 = .ok (.iload_n 1, 1) := by decide +kernel
theorem dX3_generation_1 : decode cX3_generation 1 = .ok (.iconst 0, 1) := by decide +kernel
theorem dX3_generation_2 : decode cX3_generation 2 = .ok (.bipush 40, 2) := by decide +kernel
theorem dX3_generation_4 : decode cX3_generation 4 = .ok (.invokestatic 50, 3) := by decide +kernel
theorem dX3_generation_7 : decode cX3_generation 7 = .ok (.ifCond .eq 10, 3) := by decide +kernel
theorem dX3_generation_10 : decode cX3_generation 10 = .ok (.iload_n 2, 1) := by decide +kernel
theorem dX3_generation_11 : decode cX3_generation 11 = .ok (.invokestatic 46, 3) := by decide +kernel
theorem dX3_generation_14 : decode cX3_generation 14 = .ok (.ifCond .ne 13, 3) := by decide +kernel
theorem dX3_generation_17 : decode cX3_generation 17 = .ok (.new 55, 3) := by decide +kernel
theorem dX3_generation_20 : decode cX3_generation 20 = .ok (.dup, 1) := by decide +kernel
theorem dX3_generation_21 : decode cX3_generation 21 = .ok (.ldc 156, 2) := by decide +kernel
theorem dX3_generation_23 : decode cX3_generation 23 = .ok (.invokespecial 59, 3) := by decide +kernel
theorem dX3_generation_26 : decode cX3_generation 26 = .ok (.athrow, 1) := by decide +kernel
theorem dX3_generation_27 : decode cX3_generation 27 = .ok (.aload_n 0, 1) := by decide +kernel
theorem dX3_generation_28 : decode cX3_generation 28 = .ok (.iload_n 1, 1) := by decide +kernel
theorem dX3_generation_29 : decode cX3_generation 29 = .ok (.iload_n 2, 1) := by decide +kernel
theorem dX3_generation_30 : decode cX3_generation 30 = .ok (.invokevirtual 158, 3) := by decide +kernel
theorem dX3_generation_33 : decode cX3_generation 33 = .ok (.astore_n 3, 1) := by decide +kernel
theorem dX3_generation_34 : decode cX3_generation 34 = .ok (.aload_n 3, 1) := by decide +kernel
theorem dX3_generation_35 : decode cX3_generation 35 = .ok (.ifnonnull 7, 3) := by decide +kernel
theorem dX3_generation_38 : decode cX3_generation 38 = .ok (.iconst 0, 1) := by decide +kernel
theorem dX3_generation_39 : decode cX3_generation 39 = .ok (.goto 11, 3) := by decide +kernel
theorem dX3_generation_42 : decode cX3_generation 42 = .ok (.aload_n 3, 1) := by decide +kernel
theorem dX3_generation_43 : decode cX3_generation 43 = .ok (.getfield 161, 3) := by decide +kernel
theorem dX3_generation_46 : decode cX3_generation 46 = .ok (.getfield 151, 3) := by decide +kernel
theorem dX3_generation_49 : decode cX3_generation 49 = .ok (.l2i, 1) := by decide +kernel
theorem dX3_generation_50 : decode cX3_generation 50 = .ok (.ireturn, 1) := by decide +kernel
theorem dX3_paid_0 : decode cX3_paid 0 = .ok (.aload_n 0, 1) := by decide +kernel
theorem dX3_paid_1 : decode cX3_paid 1 = .ok (.iload_n 1, 1) := by decide +kernel
theorem dX3_paid_2 : decode cX3_paid 2 = .ok (.invokevirtual 77, 3) := by decide +kernel
theorem dX3_paid_5 : decode cX3_paid 5 = .ok (.getfield 164, 3) := by decide +kernel
theorem dX3_paid_8 : decode cX3_paid 8 = .ok (.l2i, 1) := by decide +kernel
theorem dX3_paid_9 : decode cX3_paid 9 = .ok (.ireturn, 1) := by decide +kernel
theorem dX3_worth_0 : decode cX3_worth 0 = .ok (.aload_n 0, 1) := by decide +kernel
theorem dX3_worth_1 : decode cX3_worth 1 = .ok (.iload_n 1, 1) := by decide +kernel
theorem dX3_worth_2 : decode cX3_worth 2 = .ok (.invokevirtual 77, 3) := by decide +kernel
theorem dX3_worth_5 : decode cX3_worth 5 = .ok (.astore_n 2, 1) := by decide +kernel
theorem dX3_worth_6 : decode cX3_worth 6 = .ok (.aload_n 0, 1) := by decide +kernel
theorem dX3_worth_7 : decode cX3_worth 7 = .ok (.aload_n 2, 1) := by decide +kernel
theorem dX3_worth_8 : decode cX3_worth 8 = .ok (.invokevirtual 81, 3) := by decide +kernel
theorem dX3_worth_11 : decode cX3_worth 11 = .ok (.aload_n 0, 1) := by decide +kernel
theorem dX3_worth_12 : decode cX3_worth 12 = .ok (.aload_n 2, 1) := by decide +kernel
theorem dX3_worth_13 : decode cX3_worth 13 = .ok (.invokevirtual 85, 3) := by decide +kernel
theorem dX3_worth_16 : decode cX3_worth 16 = .ok (.l2i, 1) := by decide +kernel
theorem dX3_worth_17 : decode cX3_worth 17 = .ok (.ireturn, 1) := by decide +kernel
theorem dX3_lastRatio_0 : decode cX3_lastRatio 0 = .ok (.iload_n 1, 1) := by decide +kernel
theorem dX3_lastRatio_1 : decode cX3_lastRatio 1 = .ok (.invokestatic 46, 3) := by decide +kernel
theorem dX3_lastRatio_4 : decode cX3_lastRatio 4 = .ok (.ifCond .ne 13, 3) := by decide +kernel
theorem dX3_lastRatio_7 : decode cX3_lastRatio 7 = .ok (.new 55, 3) := by decide +kernel
theorem dX3_lastRatio_10 : decode cX3_lastRatio 10 = .ok (.dup, 1) := by decide +kernel
theorem dX3_lastRatio_11 : decode cX3_lastRatio 11 = .ok (.ldc 167, 2) := by decide +kernel
theorem dX3_lastRatio_13 : decode cX3_lastRatio 13 = .ok (.invokespecial 59, 3) := by decide +kernel
theorem dX3_lastRatio_16 : decode cX3_lastRatio 16 = .ok (.athrow, 1) := by decide +kernel
theorem dX3_lastRatio_17 : decode cX3_lastRatio 17 = .ok (.aload_n 0, 1) := by decide +kernel
theorem dX3_lastRatio_18 : decode cX3_lastRatio 18 = .ok (.getfield 21, 3) := by decide +kernel
theorem dX3_lastRatio_21 : decode cX3_lastRatio 21 = .ok (.iload_n 1, 1) := by decide +kernel
theorem dX3_lastRatio_22 : decode cX3_lastRatio 22 = .ok (.invokestatic 169, 3) := by decide +kernel
theorem dX3_lastRatio_25 : decode cX3_lastRatio 25 = .ok (.l2i, 1) := by decide +kernel
theorem dX3_lastRatio_26 : decode cX3_lastRatio 26 = .ok (.ireturn, 1) := by decide +kernel
theorem dX3_estate_0 : decode cX3_estate 0 = .ok (.aload_n 0, 1) := by decide +kernel
theorem dX3_estate_1 : decode cX3_estate 1 = .ok (.getfield 101, 3) := by decide +kernel
theorem dX3_estate_4 : decode cX3_estate 4 = .ok (.lreturn, 1) := by decide +kernel
theorem dX3_sharesAndEstate_0 : decode cX3_sharesAndEstate 0 = .ok (.aload_n 0, 1) := by decide +kernel
theorem dX3_sharesAndEstate_1 : decode cX3_sharesAndEstate 1 = .ok (.getfield 101, 3) := by decide +kernel
theorem dX3_sharesAndEstate_4 : decode cX3_sharesAndEstate 4 = .ok (.lstore_n 1, 1) := by decide +kernel
theorem dX3_sharesAndEstate_5 : decode cX3_sharesAndEstate 5 = .ok (.iconst 0, 1) := by decide +kernel
theorem dX3_sharesAndEstate_6 : decode cX3_sharesAndEstate 6 = .ok (.istore_n 3, 1) := by decide +kernel
theorem dX3_sharesAndEstate_7 : decode cX3_sharesAndEstate 7 = .ok (.iload_n 3, 1) := by decide +kernel
theorem dX3_sharesAndEstate_8 : decode cX3_sharesAndEstate 8 = .ok (.aload_n 0, 1) := by decide +kernel
theorem dX3_sharesAndEstate_9 : decode cX3_sharesAndEstate 9 = .ok (.getfield 17, 3) := by decide +kernel
theorem dX3_sharesAndEstate_12 : decode cX3_sharesAndEstate 12 = .ok (.arraylength, 1) := by decide +kernel
theorem dX3_sharesAndEstate_13 : decode cX3_sharesAndEstate 13 = .ok (.if_icmp .ge 33, 3) := by decide +kernel
theorem dX3_sharesAndEstate_16 : decode cX3_sharesAndEstate 16 = .ok (.aload_n 0, 1) := by decide +kernel
theorem dX3_sharesAndEstate_17 : decode cX3_sharesAndEstate 17 = .ok (.getfield 17, 3) := by decide +kernel
theorem dX3_sharesAndEstate_20 : decode cX3_sharesAndEstate 20 = .ok (.iload_n 3, 1) := by decide +kernel
theorem dX3_sharesAndEstate_21 : decode cX3_sharesAndEstate 21 = .ok (.aaload, 1) := by decide +kernel
theorem dX3_sharesAndEstate_22 : decode cX3_sharesAndEstate 22 = .ok (.astore 4, 2) := by decide +kernel
theorem dX3_sharesAndEstate_24 : decode cX3_sharesAndEstate 24 = .ok (.aload 4, 2) := by decide +kernel
theorem dX3_sharesAndEstate_26 : decode cX3_sharesAndEstate 26 = .ok (.ifnull 14, 3) := by decide +kernel
theorem dX3_sharesAndEstate_29 : decode cX3_sharesAndEstate 29 = .ok (.lload_n 1, 1) := by decide +kernel
theorem dX3_sharesAndEstate_30 : decode cX3_sharesAndEstate 30 = .ok (.aload 4, 2) := by decide +kernel
theorem dX3_sharesAndEstate_32 : decode cX3_sharesAndEstate 32 = .ok (.getfield 161, 3) := by decide +kernel
theorem dX3_sharesAndEstate_35 : decode cX3_sharesAndEstate 35 = .ok (.getfield 151, 3) := by decide +kernel
theorem dX3_sharesAndEstate_38 : decode cX3_sharesAndEstate 38 = .ok (.ladd, 1) := by decide +kernel
theorem dX3_sharesAndEstate_39 : decode cX3_sharesAndEstate 39 = .ok (.lstore_n 1, 1) := by decide +kernel
theorem dX3_sharesAndEstate_40 : decode cX3_sharesAndEstate 40 = .ok (.iinc 3 1, 3) := by decide +kernel
theorem dX3_sharesAndEstate_43 : decode cX3_sharesAndEstate 43 = .ok (.goto (-36), 3) := by decide +kernel
theorem dX3_sharesAndEstate_46 : decode cX3_sharesAndEstate 46 = .ok (.lload_n 1, 1) := by decide +kernel
theorem dX3_sharesAndEstate_47 : decode cX3_sharesAndEstate 47 = .ok (.lreturn, 1) := by decide +kernel
theorem dX3_assets_0 : decode cX3_assets 0 = .ok (.aload_n 0, 1) := by decide +kernel
theorem dX3_assets_1 : decode cX3_assets 1 = .ok (.getfield 105, 3) := by decide +kernel
theorem dX3_assets_4 : decode cX3_assets 4 = .ok (.lreturn, 1) := by decide +kernel
theorem dX3_shortfall_0 : decode cX3_shortfall 0 = .ok (.lconst 0, 1) := by decide +kernel
theorem dX3_shortfall_1 : decode cX3_shortfall 1 = .ok (.lstore_n 1, 1) := by decide +kernel
theorem dX3_shortfall_2 : decode cX3_shortfall 2 = .ok (.iconst 0, 1) := by decide +kernel
theorem dX3_shortfall_3 : decode cX3_shortfall 3 = .ok (.istore_n 3, 1) := by decide +kernel
theorem dX3_shortfall_4 : decode cX3_shortfall 4 = .ok (.iload_n 3, 1) := by decide +kernel
theorem dX3_shortfall_5 : decode cX3_shortfall 5 = .ok (.aload_n 0, 1) := by decide +kernel
theorem dX3_shortfall_6 : decode cX3_shortfall 6 = .ok (.getfield 11, 3) := by decide +kernel
theorem dX3_shortfall_9 : decode cX3_shortfall 9 = .ok (.arraylength, 1) := by decide +kernel
theorem dX3_shortfall_10 : decode cX3_shortfall 10 = .ok (.if_icmp .ge 48, 3) := by decide +kernel
theorem dX3_shortfall_13 : decode cX3_shortfall 13 = .ok (.aload_n 0, 1) := by decide +kernel
theorem dX3_shortfall_14 : decode cX3_shortfall 14 = .ok (.getfield 11, 3) := by decide +kernel
theorem dX3_shortfall_17 : decode cX3_shortfall 17 = .ok (.iload_n 3, 1) := by decide +kernel
theorem dX3_shortfall_18 : decode cX3_shortfall 18 = .ok (.aaload, 1) := by decide +kernel
theorem dX3_shortfall_19 : decode cX3_shortfall 19 = .ok (.astore 4, 2) := by decide +kernel
theorem dX3_shortfall_21 : decode cX3_shortfall 21 = .ok (.aload 4, 2) := by decide +kernel
theorem dX3_shortfall_23 : decode cX3_shortfall 23 = .ok (.ifnull 29, 3) := by decide +kernel
theorem dX3_shortfall_26 : decode cX3_shortfall 26 = .ok (.aload 4, 2) := by decide +kernel
theorem dX3_shortfall_28 : decode cX3_shortfall 28 = .ok (.invokevirtual 143, 3) := by decide +kernel
theorem dX3_shortfall_31 : decode cX3_shortfall 31 = .ok (.ifCond .eq 21, 3) := by decide +kernel
theorem dX3_shortfall_34 : decode cX3_shortfall 34 = .ok (.lload_n 1, 1) := by decide +kernel
theorem dX3_shortfall_35 : decode cX3_shortfall 35 = .ok (.lconst 0, 1) := by decide +kernel
theorem dX3_shortfall_36 : decode cX3_shortfall 36 = .ok (.aload 4, 2) := by decide +kernel
theorem dX3_shortfall_38 : decode cX3_shortfall 38 = .ok (.invokevirtual 173, 3) := by decide +kernel
theorem dX3_shortfall_41 : decode cX3_shortfall 41 = .ok (.aload 4, 2) := by decide +kernel
theorem dX3_shortfall_43 : decode cX3_shortfall 43 = .ok (.invokevirtual 139, 3) := by decide +kernel
theorem dX3_shortfall_46 : decode cX3_shortfall 46 = .ok (.lsub, 1) := by decide +kernel
theorem dX3_shortfall_47 : decode cX3_shortfall 47 = .ok (.invokestatic 176, 3) := by decide +kernel
theorem dX3_shortfall_50 : decode cX3_shortfall 50 = .ok (.ladd, 1) := by decide +kernel
theorem dX3_shortfall_51 : decode cX3_shortfall 51 = .ok (.lstore_n 1, 1) := by decide +kernel
theorem dX3_shortfall_52 : decode cX3_shortfall 52 = .ok (.iinc 3 1, 3) := by decide +kernel
theorem dX3_shortfall_55 : decode cX3_shortfall 55 = .ok (.goto (-51), 3) := by decide +kernel
theorem dX3_shortfall_58 : decode cX3_shortfall 58 = .ok (.lload_n 1, 1) := by decide +kernel
theorem dX3_shortfall_59 : decode cX3_shortfall 59 = .ok (.l2i, 1) := by decide +kernel
theorem dX3_shortfall_60 : decode cX3_shortfall 60 = .ok (.ireturn, 1) := by decide +kernel
theorem dX3_isWithin_0 : decode cX3_isWithin 0 = .ok (.iload_n 0, 1) := by decide +kernel
theorem dX3_isWithin_1 : decode cX3_isWithin 1 = .ok (.iload_n 1, 1) := by decide +kernel
theorem dX3_isWithin_2 : decode cX3_isWithin 2 = .ok (.if_icmp .lt 12, 3) := by decide +kernel
theorem dX3_isWithin_5 : decode cX3_isWithin 5 = .ok (.iload_n 0, 1) := by decide +kernel
theorem dX3_isWithin_6 : decode cX3_isWithin 6 = .ok (.iload_n 2, 1) := by decide +kernel
theorem dX3_isWithin_7 : decode cX3_isWithin 7 = .ok (.if_icmp .gt 7, 3) := by decide +kernel
theorem dX3_isWithin_10 : decode cX3_isWithin 10 = .ok (.iconst 1, 1) := by decide +kernel
theorem dX3_isWithin_11 : decode cX3_isWithin 11 = .ok (.goto 4, 3) := by decide +kernel
theorem dX3_isWithin_14 : decode cX3_isWithin 14 = .ok (.iconst 0, 1) := by decide +kernel
theorem dX3_isWithin_15 : decode cX3_isWithin 15 = .ok (.ireturn, 1) := by decide +kernel
theorem dX3_isTerm_0 : decode cX3_isTerm 0 = .ok (.iload_n 0, 1) := by decide +kernel
theorem dX3_isTerm_1 : decode cX3_isTerm 1 = .ok (.iconst 2, 1) := by decide +kernel
theorem dX3_isTerm_2 : decode cX3_isTerm 2 = .ok (.bipush 20, 2) := by decide +kernel
theorem dX3_isTerm_4 : decode cX3_isTerm 4 = .ok (.invokestatic 50, 3) := by decide +kernel
theorem dX3_isTerm_7 : decode cX3_isTerm 7 = .ok (.ireturn, 1) := by decide +kernel
theorem dX3_knownPolicy_0 : decode cX3_knownPolicy 0 = .ok (.iload_n 1, 1) := by decide +kernel
theorem dX3_knownPolicy_1 : decode cX3_knownPolicy 1 = .ok (.ifCond .lt 12, 3) := by decide +kernel
theorem dX3_knownPolicy_4 : decode cX3_knownPolicy 4 = .ok (.iload_n 1, 1) := by decide +kernel
theorem dX3_knownPolicy_5 : decode cX3_knownPolicy 5 = .ok (.aload_n 0, 1) := by decide +kernel
theorem dX3_knownPolicy_6 : decode cX3_knownPolicy 6 = .ok (.getfield 11, 3) := by decide +kernel
theorem dX3_knownPolicy_9 : decode cX3_knownPolicy 9 = .ok (.arraylength, 1) := by decide +kernel
theorem dX3_knownPolicy_10 : decode cX3_knownPolicy 10 = .ok (.if_icmp .lt 13, 3) := by decide +kernel
theorem dX3_knownPolicy_13 : decode cX3_knownPolicy 13 = .ok (.new 181, 3) := by decide +kernel
theorem dX3_knownPolicy_16 : decode cX3_knownPolicy 16 = .ok (.dup, 1) := by decide +kernel
theorem dX3_knownPolicy_17 : decode cX3_knownPolicy 17 = .ok (.ldc 183, 2) := by decide +kernel
theorem dX3_knownPolicy_19 : decode cX3_knownPolicy 19 = .ok (.invokespecial 185, 3) := by decide +kernel
theorem dX3_knownPolicy_22 : decode cX3_knownPolicy 22 = .ok (.athrow, 1) := by decide +kernel
theorem dX3_knownPolicy_23 : decode cX3_knownPolicy 23 = .ok (.aload_n 0, 1) := by decide +kernel
theorem dX3_knownPolicy_24 : decode cX3_knownPolicy 24 = .ok (.getfield 11, 3) := by decide +kernel
theorem dX3_knownPolicy_27 : decode cX3_knownPolicy 27 = .ok (.iload_n 1, 1) := by decide +kernel
theorem dX3_knownPolicy_28 : decode cX3_knownPolicy 28 = .ok (.aaload, 1) := by decide +kernel
theorem dX3_knownPolicy_29 : decode cX3_knownPolicy 29 = .ok (.astore_n 2, 1) := by decide +kernel
theorem dX3_knownPolicy_30 : decode cX3_knownPolicy 30 = .ok (.aload_n 2, 1) := by decide +kernel
theorem dX3_knownPolicy_31 : decode cX3_knownPolicy 31 = .ok (.ifnonnull 13, 3) := by decide +kernel
theorem dX3_knownPolicy_34 : decode cX3_knownPolicy 34 = .ok (.new 181, 3) := by decide +kernel
theorem dX3_knownPolicy_37 : decode cX3_knownPolicy 37 = .ok (.dup, 1) := by decide +kernel
theorem dX3_knownPolicy_38 : decode cX3_knownPolicy 38 = .ok (.ldc 183, 2) := by decide +kernel
theorem dX3_knownPolicy_40 : decode cX3_knownPolicy 40 = .ok (.invokespecial 185, 3) := by decide +kernel
theorem dX3_knownPolicy_43 : decode cX3_knownPolicy 43 = .ok (.athrow, 1) := by decide +kernel
theorem dX3_knownPolicy_44 : decode cX3_knownPolicy 44 = .ok (.aload_n 2, 1) := by decide +kernel
theorem dX3_knownPolicy_45 : decode cX3_knownPolicy 45 = .ok (.areturn, 1) := by decide +kernel
theorem dX3_checkSurrenderable_0 : decode cX3_checkSurrenderable 0 = .ok (.aload_n 1, 1) := by decide +kernel
theorem dX3_checkSurrenderable_1 : decode cX3_checkSurrenderable 1 = .ok (.invokevirtual 143, 3) := by decide +kernel
theorem dX3_checkSurrenderable_4 : decode cX3_checkSurrenderable 4 = .ok (.ifCond .eq 12, 3) := by decide +kernel
theorem dX3_checkSurrenderable_7 : decode cX3_checkSurrenderable 7 = .ok (.aload_n 0, 1) := by decide +kernel
theorem dX3_checkSurrenderable_8 : decode cX3_checkSurrenderable 8 = .ok (.aload_n 1, 1) := by decide +kernel
theorem dX3_checkSurrenderable_9 : decode cX3_checkSurrenderable 9 = .ok (.invokevirtual 186, 3) := by decide +kernel
theorem dX3_checkSurrenderable_12 : decode cX3_checkSurrenderable 12 = .ok (.iconst 1, 1) := by decide +kernel
theorem dX3_checkSurrenderable_13 : decode cX3_checkSurrenderable 13 = .ok (.if_icmp .ge 13, 3) := by decide +kernel
theorem dX3_checkSurrenderable_16 : decode cX3_checkSurrenderable 16 = .ok (.new 65, 3) := by decide +kernel
theorem dX3_checkSurrenderable_19 : decode cX3_checkSurrenderable 19 = .ok (.dup, 1) := by decide +kernel
theorem dX3_checkSurrenderable_20 : decode cX3_checkSurrenderable 20 = .ok (.ldc 190, 2) := by decide +kernel
theorem dX3_checkSurrenderable_22 : decode cX3_checkSurrenderable 22 = .ok (.invokespecial 69, 3) := by decide +kernel
theorem dX3_checkSurrenderable_25 : decode cX3_checkSurrenderable 25 = .ok (.athrow, 1) := by decide +kernel
theorem dX3_checkSurrenderable_26 : decode cX3_checkSurrenderable 26 = .ok (.return_, 1) := by decide +kernel
theorem dX3_yearsRun_0 : decode cX3_yearsRun 0 = .ok (.aload_n 0, 1) := by decide +kernel
theorem dX3_yearsRun_1 : decode cX3_yearsRun 1 = .ok (.getfield 110, 3) := by decide +kernel
theorem dX3_yearsRun_4 : decode cX3_yearsRun 4 = .ok (.aload_n 1, 1) := by decide +kernel
theorem dX3_yearsRun_5 : decode cX3_yearsRun 5 = .ok (.getfield 192, 3) := by decide +kernel
theorem dX3_yearsRun_8 : decode cX3_yearsRun 8 = .ok (.getfield 196, 3) := by decide +kernel
theorem dX3_yearsRun_11 : decode cX3_yearsRun 11 = .ok (.isub, 1) := by decide +kernel
theorem dX3_yearsRun_12 : decode cX3_yearsRun 12 = .ok (.ireturn, 1) := by decide +kernel
theorem dX3_findGeneration_0 : decode cX3_findGeneration 0 = .ok (.iconst 0, 1) := by decide +kernel
theorem dX3_findGeneration_1 : decode cX3_findGeneration 1 = .ok (.istore_n 3, 1) := by decide +kernel
theorem dX3_findGeneration_2 : decode cX3_findGeneration 2 = .ok (.iload_n 3, 1) := by decide +kernel
theorem dX3_findGeneration_3 : decode cX3_findGeneration 3 = .ok (.aload_n 0, 1) := by decide +kernel
theorem dX3_findGeneration_4 : decode cX3_findGeneration 4 = .ok (.getfield 17, 3) := by decide +kernel
theorem dX3_findGeneration_7 : decode cX3_findGeneration 7 = .ok (.arraylength, 1) := by decide +kernel
theorem dX3_findGeneration_8 : decode cX3_findGeneration 8 = .ok (.if_icmp .ge 43, 3) := by decide +kernel
theorem dX3_findGeneration_11 : decode cX3_findGeneration 11 = .ok (.aload_n 0, 1) := by decide +kernel
theorem dX3_findGeneration_12 : decode cX3_findGeneration 12 = .ok (.getfield 17, 3) := by decide +kernel
theorem dX3_findGeneration_15 : decode cX3_findGeneration 15 = .ok (.iload_n 3, 1) := by decide +kernel
theorem dX3_findGeneration_16 : decode cX3_findGeneration 16 = .ok (.aaload, 1) := by decide +kernel
theorem dX3_findGeneration_17 : decode cX3_findGeneration 17 = .ok (.astore 4, 2) := by decide +kernel
theorem dX3_findGeneration_19 : decode cX3_findGeneration 19 = .ok (.aload 4, 2) := by decide +kernel
theorem dX3_findGeneration_21 : decode cX3_findGeneration 21 = .ok (.ifnull 24, 3) := by decide +kernel
theorem dX3_findGeneration_24 : decode cX3_findGeneration 24 = .ok (.aload 4, 2) := by decide +kernel
theorem dX3_findGeneration_26 : decode cX3_findGeneration 26 = .ok (.getfield 196, 3) := by decide +kernel
theorem dX3_findGeneration_29 : decode cX3_findGeneration 29 = .ok (.iload_n 1, 1) := by decide +kernel
theorem dX3_findGeneration_30 : decode cX3_findGeneration 30 = .ok (.if_icmp .ne 15, 3) := by decide +kernel
theorem dX3_findGeneration_33 : decode cX3_findGeneration 33 = .ok (.aload 4, 2) := by decide +kernel
theorem dX3_findGeneration_35 : decode cX3_findGeneration 35 = .ok (.getfield 199, 3) := by decide +kernel
theorem dX3_findGeneration_38 : decode cX3_findGeneration 38 = .ok (.iload_n 2, 1) := by decide +kernel
theorem dX3_findGeneration_39 : decode cX3_findGeneration 39 = .ok (.if_icmp .ne 6, 3) := by decide +kernel
theorem dX3_findGeneration_42 : decode cX3_findGeneration 42 = .ok (.aload 4, 2) := by decide +kernel
theorem dX3_findGeneration_44 : decode cX3_findGeneration 44 = .ok (.areturn, 1) := by decide +kernel
theorem dX3_findGeneration_45 : decode cX3_findGeneration 45 = .ok (.iinc 3 1, 3) := by decide +kernel
theorem dX3_findGeneration_48 : decode cX3_findGeneration 48 = .ok (.goto (-46), 3) := by decide +kernel
theorem dX3_findGeneration_51 : decode cX3_findGeneration 51 = .ok (.aconst_null, 1) := by decide +kernel
theorem dX3_findGeneration_52 : decode cX3_findGeneration 52 = .ok (.areturn, 1) := by decide +kernel
theorem dX3_joinGeneration_0 : decode cX3_joinGeneration 0 = .ok (.aload_n 0, 1) := by decide +kernel
theorem dX3_joinGeneration_1 : decode cX3_joinGeneration 1 = .ok (.aload_n 0, 1) := by decide +kernel
theorem dX3_joinGeneration_2 : decode cX3_joinGeneration 2 = .ok (.getfield 110, 3) := by decide +kernel
theorem dX3_joinGeneration_5 : decode cX3_joinGeneration 5 = .ok (.iload_n 1, 1) := by decide +kernel
theorem dX3_joinGeneration_6 : decode cX3_joinGeneration 6 = .ok (.invokevirtual 158, 3) := by decide +kernel
theorem dX3_joinGeneration_9 : decode cX3_joinGeneration 9 = .ok (.astore_n 3, 1) := by decide +kernel
theorem dX3_joinGeneration_10 : decode cX3_joinGeneration 10 = .ok (.aload_n 3, 1) := by decide +kernel
theorem dX3_joinGeneration_11 : decode cX3_joinGeneration 11 = .ok (.ifnonnull 55, 3) := by decide +kernel
theorem dX3_joinGeneration_14 : decode cX3_joinGeneration 14 = .ok (.new 15, 3) := by decide +kernel
theorem dX3_joinGeneration_17 : decode cX3_joinGeneration 17 = .ok (.dup, 1) := by decide +kernel
theorem dX3_joinGeneration_18 : decode cX3_joinGeneration 18 = .ok (.aload_n 0, 1) := by decide +kernel
theorem dX3_joinGeneration_19 : decode cX3_joinGeneration 19 = .ok (.getfield 110, 3) := by decide +kernel
theorem dX3_joinGeneration_22 : decode cX3_joinGeneration 22 = .ok (.iload_n 1, 1) := by decide +kernel
theorem dX3_joinGeneration_23 : decode cX3_joinGeneration 23 = .ok (.invokespecial 202, 3) := by decide +kernel
theorem dX3_joinGeneration_26 : decode cX3_joinGeneration 26 = .ok (.astore_n 3, 1) := by decide +kernel
theorem dX3_joinGeneration_27 : decode cX3_joinGeneration 27 = .ok (.aload_n 0, 1) := by decide +kernel
theorem dX3_joinGeneration_28 : decode cX3_joinGeneration 28 = .ok (.getfield 205, 3) := by decide +kernel
theorem dX3_joinGeneration_31 : decode cX3_joinGeneration 31 = .ok (.ifCond .lt 35, 3) := by decide +kernel
theorem dX3_joinGeneration_34 : decode cX3_joinGeneration 34 = .ok (.aload_n 0, 1) := by decide +kernel
theorem dX3_joinGeneration_35 : decode cX3_joinGeneration 35 = .ok (.getfield 205, 3) := by decide +kernel
theorem dX3_joinGeneration_38 : decode cX3_joinGeneration 38 = .ok (.aload_n 0, 1) := by decide +kernel
theorem dX3_joinGeneration_39 : decode cX3_joinGeneration 39 = .ok (.getfield 17, 3) := by decide +kernel
theorem dX3_joinGeneration_42 : decode cX3_joinGeneration 42 = .ok (.arraylength, 1) := by decide +kernel
theorem dX3_joinGeneration_43 : decode cX3_joinGeneration 43 = .ok (.if_icmp .ge 23, 3) := by decide +kernel
theorem dX3_joinGeneration_46 : decode cX3_joinGeneration 46 = .ok (.aload_n 0, 1) := by decide +kernel
theorem dX3_joinGeneration_47 : decode cX3_joinGeneration 47 = .ok (.getfield 17, 3) := by decide +kernel
theorem dX3_joinGeneration_50 : decode cX3_joinGeneration 50 = .ok (.aload_n 0, 1) := by decide +kernel
theorem dX3_joinGeneration_51 : decode cX3_joinGeneration 51 = .ok (.getfield 205, 3) := by decide +kernel
theorem dX3_joinGeneration_54 : decode cX3_joinGeneration 54 = .ok (.aload_n 3, 1) := by decide +kernel
theorem dX3_joinGeneration_55 : decode cX3_joinGeneration 55 = .ok (.aastore, 1) := by decide +kernel
theorem dX3_joinGeneration_56 : decode cX3_joinGeneration 56 = .ok (.aload_n 0, 1) := by decide +kernel
theorem dX3_joinGeneration_57 : decode cX3_joinGeneration 57 = .ok (.dup, 1) := by decide +kernel
theorem dX3_joinGeneration_58 : decode cX3_joinGeneration 58 = .ok (.getfield 205, 3) := by decide +kernel
theorem dX3_joinGeneration_61 : decode cX3_joinGeneration 61 = .ok (.iconst 1, 1) := by decide +kernel
theorem dX3_joinGeneration_62 : decode cX3_joinGeneration 62 = .ok (.iadd, 1) := by decide +kernel
theorem dX3_joinGeneration_63 : decode cX3_joinGeneration 63 = .ok (.putfield 205, 3) := by decide +kernel
theorem dX3_joinGeneration_66 : decode cX3_joinGeneration 66 = .ok (.aload_n 3, 1) := by decide +kernel
theorem dX3_joinGeneration_67 : decode cX3_joinGeneration 67 = .ok (.dup, 1) := by decide +kernel
theorem dX3_joinGeneration_68 : decode cX3_joinGeneration 68 = .ok (.getfield 208, 3) := by decide +kernel
theorem dX3_joinGeneration_71 : decode cX3_joinGeneration 71 = .ok (.iload_n 2, 1) := by decide +kernel
theorem dX3_joinGeneration_72 : decode cX3_joinGeneration 72 = .ok (.i2l, 1) := by decide +kernel
theorem dX3_joinGeneration_73 : decode cX3_joinGeneration 73 = .ok (.ladd, 1) := by decide +kernel
theorem dX3_joinGeneration_74 : decode cX3_joinGeneration 74 = .ok (.putfield 208, 3) := by decide +kernel
theorem dX3_joinGeneration_77 : decode cX3_joinGeneration 77 = .ok (.aload_n 3, 1) := by decide +kernel
theorem dX3_joinGeneration_78 : decode cX3_joinGeneration 78 = .ok (.areturn, 1) := by decide +kernel
theorem dX3_ratioIn_0 : decode cX3_ratioIn 0 = .ok (.iload_n 1, 1) := by decide +kernel
theorem dX3_ratioIn_1 : decode cX3_ratioIn 1 = .ok (.ifCond .lt 15, 3) := by decide +kernel
theorem dX3_ratioIn_4 : decode cX3_ratioIn 4 = .ok (.iload_n 1, 1) := by decide +kernel
theorem dX3_ratioIn_5 : decode cX3_ratioIn 5 = .ok (.aload_n 0, 1) := by decide +kernel
theorem dX3_ratioIn_6 : decode cX3_ratioIn 6 = .ok (.arraylength, 1) := by decide +kernel
theorem dX3_ratioIn_7 : decode cX3_ratioIn 7 = .ok (.if_icmp .ge 9, 3) := by decide +kernel
theorem dX3_ratioIn_10 : decode cX3_ratioIn 10 = .ok (.aload_n 0, 1) := by decide +kernel
theorem dX3_ratioIn_11 : decode cX3_ratioIn 11 = .ok (.iload_n 1, 1) := by decide +kernel
theorem dX3_ratioIn_12 : decode cX3_ratioIn 12 = .ok (.laload, 1) := by decide +kernel
theorem dX3_ratioIn_13 : decode cX3_ratioIn 13 = .ok (.goto 6, 3) := by decide +kernel
theorem dX3_ratioIn_16 : decode cX3_ratioIn 16 = .ok (.ldc2_w 28, 3) := by decide +kernel
theorem dX3_ratioIn_19 : decode cX3_ratioIn 19 = .ok (.lreturn, 1) := by decide +kernel
theorem dX3_growGenerations_0 : decode cX3_growGenerations 0 = .ok (.iconst 0, 1) := by decide +kernel
theorem dX3_growGenerations_1 : decode cX3_growGenerations 1 = .ok (.istore_n 2, 1) := by decide +kernel
theorem dX3_growGenerations_2 : decode cX3_growGenerations 2 = .ok (.iload_n 2, 1) := by decide +kernel
theorem dX3_growGenerations_3 : decode cX3_growGenerations 3 = .ok (.aload_n 0, 1) := by decide +kernel
theorem dX3_growGenerations_4 : decode cX3_growGenerations 4 = .ok (.getfield 17, 3) := by decide +kernel
theorem dX3_growGenerations_7 : decode cX3_growGenerations 7 = .ok (.arraylength, 1) := by decide +kernel
theorem dX3_growGenerations_8 : decode cX3_growGenerations 8 = .ok (.if_icmp .ge 95, 3) := by decide +kernel
theorem dX3_growGenerations_11 : decode cX3_growGenerations 11 = .ok (.aload_n 0, 1) := by decide +kernel
theorem dX3_growGenerations_12 : decode cX3_growGenerations 12 = .ok (.getfield 17, 3) := by decide +kernel
theorem dX3_growGenerations_15 : decode cX3_growGenerations 15 = .ok (.iload_n 2, 1) := by decide +kernel
theorem dX3_growGenerations_16 : decode cX3_growGenerations 16 = .ok (.aaload, 1) := by decide +kernel
theorem dX3_growGenerations_17 : decode cX3_growGenerations 17 = .ok (.astore_n 3, 1) := by decide +kernel
theorem dX3_growGenerations_18 : decode cX3_growGenerations 18 = .ok (.aload_n 3, 1) := by decide +kernel
theorem dX3_growGenerations_19 : decode cX3_growGenerations 19 = .ok (.ifnull 78, 3) := by decide +kernel
theorem dX3_growGenerations_22 : decode cX3_growGenerations 22 = .ok (.aload_n 3, 1) := by decide +kernel
theorem dX3_growGenerations_23 : decode cX3_growGenerations 23 = .ok (.getfield 208, 3) := by decide +kernel
theorem dX3_growGenerations_26 : decode cX3_growGenerations 26 = .ok (.lconst 0, 1) := by decide +kernel
theorem dX3_growGenerations_27 : decode cX3_growGenerations 27 = .ok (.lcmp, 1) := by decide +kernel
theorem dX3_growGenerations_28 : decode cX3_growGenerations 28 = .ok (.ifCond .le 69, 3) := by decide +kernel
theorem dX3_growGenerations_31 : decode cX3_growGenerations 31 = .ok (.aload_n 3, 1) := by decide +kernel
theorem dX3_growGenerations_32 : decode cX3_growGenerations 32 = .ok (.getfield 161, 3) := by decide +kernel
theorem dX3_growGenerations_35 : decode cX3_growGenerations 35 = .ok (.dup, 1) := by decide +kernel
theorem dX3_growGenerations_36 : decode cX3_growGenerations 36 = .ok (.getfield 151, 3) := by decide +kernel
theorem dX3_growGenerations_39 : decode cX3_growGenerations 39 = .ok (.aload_n 3, 1) := by decide +kernel
theorem dX3_growGenerations_40 : decode cX3_growGenerations 40 = .ok (.getfield 208, 3) := by decide +kernel
theorem dX3_growGenerations_43 : decode cX3_growGenerations 43 = .ok (.ladd, 1) := by decide +kernel
theorem dX3_growGenerations_44 : decode cX3_growGenerations 44 = .ok (.putfield 151, 3) := by decide +kernel
theorem dX3_growGenerations_47 : decode cX3_growGenerations 47 = .ok (.aload_n 0, 1) := by decide +kernel
theorem dX3_growGenerations_48 : decode cX3_growGenerations 48 = .ok (.dup, 1) := by decide +kernel
theorem dX3_growGenerations_49 : decode cX3_growGenerations 49 = .ok (.getfield 105, 3) := by decide +kernel
theorem dX3_growGenerations_52 : decode cX3_growGenerations 52 = .ok (.aload_n 3, 1) := by decide +kernel
theorem dX3_growGenerations_53 : decode cX3_growGenerations 53 = .ok (.getfield 208, 3) := by decide +kernel
theorem dX3_growGenerations_56 : decode cX3_growGenerations 56 = .ok (.ladd, 1) := by decide +kernel
theorem dX3_growGenerations_57 : decode cX3_growGenerations 57 = .ok (.putfield 105, 3) := by decide +kernel
theorem dX3_growGenerations_60 : decode cX3_growGenerations 60 = .ok (.aload_n 0, 1) := by decide +kernel
theorem dX3_growGenerations_61 : decode cX3_growGenerations 61 = .ok (.dup, 1) := by decide +kernel
theorem dX3_growGenerations_62 : decode cX3_growGenerations 62 = .ok (.getfield 105, 3) := by decide +kernel
theorem dX3_growGenerations_65 : decode cX3_growGenerations 65 = .ok (.aload_n 3, 1) := by decide +kernel
theorem dX3_growGenerations_66 : decode cX3_growGenerations 66 = .ok (.getfield 161, 3) := by decide +kernel
theorem dX3_growGenerations_69 : decode cX3_growGenerations 69 = .ok (.iload_n 1, 1) := by decide +kernel
theorem dX3_growGenerations_70 : decode cX3_growGenerations 70 = .ok (.invokevirtual 211, 3) := by decide +kernel
theorem dX3_growGenerations_73 : decode cX3_growGenerations 73 = .ok (.ladd, 1) := by decide +kernel
theorem dX3_growGenerations_74 : decode cX3_growGenerations 74 = .ok (.putfield 105, 3) := by decide +kernel
theorem dX3_growGenerations_77 : decode cX3_growGenerations 77 = .ok (.aload_n 0, 1) := by decide +kernel
theorem dX3_growGenerations_78 : decode cX3_growGenerations 78 = .ok (.dup, 1) := by decide +kernel
theorem dX3_growGenerations_79 : decode cX3_growGenerations 79 = .ok (.getfield 101, 3) := by decide +kernel
theorem dX3_growGenerations_82 : decode cX3_growGenerations 82 = .ok (.aload_n 3, 1) := by decide +kernel
theorem dX3_growGenerations_83 : decode cX3_growGenerations 83 = .ok (.getfield 161, 3) := by decide +kernel
theorem dX3_growGenerations_86 : decode cX3_growGenerations 86 = .ok (.aload_n 0, 1) := by decide +kernel
theorem dX3_growGenerations_87 : decode cX3_growGenerations 87 = .ok (.getfield 34, 3) := by decide +kernel
theorem dX3_growGenerations_90 : decode cX3_growGenerations 90 = .ok (.invokevirtual 215, 3) := by decide +kernel
theorem dX3_growGenerations_93 : decode cX3_growGenerations 93 = .ok (.ladd, 1) := by decide +kernel
theorem dX3_growGenerations_94 : decode cX3_growGenerations 94 = .ok (.putfield 101, 3) := by decide +kernel
theorem dX3_growGenerations_97 : decode cX3_growGenerations 97 = .ok (.iinc 2 1, 3) := by decide +kernel
theorem dX3_growGenerations_100 : decode cX3_growGenerations 100 = .ok (.goto (-98), 3) := by decide +kernel
theorem dX3_growGenerations_103 : decode cX3_growGenerations 103 = .ok (.return_, 1) := by decide +kernel
theorem dX3_growPoliciesAlone_0 : decode cX3_growPoliciesAlone 0 = .ok (.iconst 0, 1) := by decide +kernel
theorem dX3_growPoliciesAlone_1 : decode cX3_growPoliciesAlone 1 = .ok (.istore_n 2, 1) := by decide +kernel
theorem dX3_growPoliciesAlone_2 : decode cX3_growPoliciesAlone 2 = .ok (.iload_n 2, 1) := by decide +kernel
theorem dX3_growPoliciesAlone_3 : decode cX3_growPoliciesAlone 3 = .ok (.aload_n 0, 1) := by decide +kernel
theorem dX3_growPoliciesAlone_4 : decode cX3_growPoliciesAlone 4 = .ok (.getfield 11, 3) := by decide +kernel
theorem dX3_growPoliciesAlone_7 : decode cX3_growPoliciesAlone 7 = .ok (.arraylength, 1) := by decide +kernel
theorem dX3_growPoliciesAlone_8 : decode cX3_growPoliciesAlone 8 = .ok (.if_icmp .ge 65, 3) := by decide +kernel
theorem dX3_growPoliciesAlone_11 : decode cX3_growPoliciesAlone 11 = .ok (.aload_n 0, 1) := by decide +kernel
theorem dX3_growPoliciesAlone_12 : decode cX3_growPoliciesAlone 12 = .ok (.getfield 11, 3) := by decide +kernel
theorem dX3_growPoliciesAlone_15 : decode cX3_growPoliciesAlone 15 = .ok (.iload_n 2, 1) := by decide +kernel
theorem dX3_growPoliciesAlone_16 : decode cX3_growPoliciesAlone 16 = .ok (.aaload, 1) := by decide +kernel
theorem dX3_growPoliciesAlone_17 : decode cX3_growPoliciesAlone 17 = .ok (.astore_n 3, 1) := by decide +kernel
theorem dX3_growPoliciesAlone_18 : decode cX3_growPoliciesAlone 18 = .ok (.aload_n 3, 1) := by decide +kernel
theorem dX3_growPoliciesAlone_19 : decode cX3_growPoliciesAlone 19 = .ok (.ifnull 48, 3) := by decide +kernel
theorem dX3_growPoliciesAlone_22 : decode cX3_growPoliciesAlone 22 = .ok (.aload_n 3, 1) := by decide +kernel
theorem dX3_growPoliciesAlone_23 : decode cX3_growPoliciesAlone 23 = .ok (.invokevirtual 143, 3) := by decide +kernel
theorem dX3_growPoliciesAlone_26 : decode cX3_growPoliciesAlone 26 = .ok (.ifCond .eq 41, 3) := by decide +kernel
theorem dX3_growPoliciesAlone_29 : decode cX3_growPoliciesAlone 29 = .ok (.aload_n 3, 1) := by decide +kernel
theorem dX3_growPoliciesAlone_30 : decode cX3_growPoliciesAlone 30 = .ok (.getfield 147, 3) := by decide +kernel
theorem dX3_growPoliciesAlone_33 : decode cX3_growPoliciesAlone 33 = .ok (.dup, 1) := by decide +kernel
theorem dX3_growPoliciesAlone_34 : decode cX3_growPoliciesAlone 34 = .ok (.getfield 151, 3) := by decide +kernel
theorem dX3_growPoliciesAlone_37 : decode cX3_growPoliciesAlone 37 = .ok (.aload_n 3, 1) := by decide +kernel
theorem dX3_growPoliciesAlone_38 : decode cX3_growPoliciesAlone 38 = .ok (.getfield 218, 3) := by decide +kernel
theorem dX3_growPoliciesAlone_41 : decode cX3_growPoliciesAlone 41 = .ok (.i2l, 1) := by decide +kernel
theorem dX3_growPoliciesAlone_42 : decode cX3_growPoliciesAlone 42 = .ok (.ladd, 1) := by decide +kernel
theorem dX3_growPoliciesAlone_43 : decode cX3_growPoliciesAlone 43 = .ok (.putfield 151, 3) := by decide +kernel
theorem dX3_growPoliciesAlone_46 : decode cX3_growPoliciesAlone 46 = .ok (.aload_n 3, 1) := by decide +kernel
theorem dX3_growPoliciesAlone_47 : decode cX3_growPoliciesAlone 47 = .ok (.getfield 147, 3) := by decide +kernel
theorem dX3_growPoliciesAlone_50 : decode cX3_growPoliciesAlone 50 = .ok (.iload_n 1, 1) := by decide +kernel
theorem dX3_growPoliciesAlone_51 : decode cX3_growPoliciesAlone 51 = .ok (.invokevirtual 211, 3) := by decide +kernel
theorem dX3_growPoliciesAlone_54 : decode cX3_growPoliciesAlone 54 = .ok (.pop2, 1) := by decide +kernel
theorem dX3_growPoliciesAlone_55 : decode cX3_growPoliciesAlone 55 = .ok (.aload_n 3, 1) := by decide +kernel
theorem dX3_growPoliciesAlone_56 : decode cX3_growPoliciesAlone 56 = .ok (.getfield 147, 3) := by decide +kernel
theorem dX3_growPoliciesAlone_59 : decode cX3_growPoliciesAlone 59 = .ok (.aload_n 0, 1) := by decide +kernel
theorem dX3_growPoliciesAlone_60 : decode cX3_growPoliciesAlone 60 = .ok (.getfield 34, 3) := by decide +kernel
theorem dX3_growPoliciesAlone_63 : decode cX3_growPoliciesAlone 63 = .ok (.invokevirtual 215, 3) := by decide +kernel
theorem dX3_growPoliciesAlone_66 : decode cX3_growPoliciesAlone 66 = .ok (.pop2, 1) := by decide +kernel
theorem dX3_growPoliciesAlone_67 : decode cX3_growPoliciesAlone 67 = .ok (.iinc 2 1, 3) := by decide +kernel
theorem dX3_growPoliciesAlone_70 : decode cX3_growPoliciesAlone 70 = .ok (.goto (-68), 3) := by decide +kernel
theorem dX3_growPoliciesAlone_73 : decode cX3_growPoliciesAlone 73 = .ok (.return_, 1) := by decide +kernel
theorem dX3_giveBonuses_0 : decode cX3_giveBonuses 0 = .ok (.iconst 0, 1) := by decide +kernel
theorem dX3_giveBonuses_1 : decode cX3_giveBonuses 1 = .ok (.istore_n 1, 1) := by decide +kernel
theorem dX3_giveBonuses_2 : decode cX3_giveBonuses 2 = .ok (.iload_n 1, 1) := by decide +kernel
theorem dX3_giveBonuses_3 : decode cX3_giveBonuses 3 = .ok (.aload_n 0, 1) := by decide +kernel
theorem dX3_giveBonuses_4 : decode cX3_giveBonuses 4 = .ok (.getfield 11, 3) := by decide +kernel
theorem dX3_giveBonuses_7 : decode cX3_giveBonuses 7 = .ok (.arraylength, 1) := by decide +kernel
theorem dX3_giveBonuses_8 : decode cX3_giveBonuses 8 = .ok (.if_icmp .ge 48, 3) := by decide +kernel
theorem dX3_giveBonuses_11 : decode cX3_giveBonuses 11 = .ok (.aload_n 0, 1) := by decide +kernel
theorem dX3_giveBonuses_12 : decode cX3_giveBonuses 12 = .ok (.getfield 11, 3) := by decide +kernel
theorem dX3_giveBonuses_15 : decode cX3_giveBonuses 15 = .ok (.iload_n 1, 1) := by decide +kernel
theorem dX3_giveBonuses_16 : decode cX3_giveBonuses 16 = .ok (.aaload, 1) := by decide +kernel
theorem dX3_giveBonuses_17 : decode cX3_giveBonuses 17 = .ok (.astore_n 2, 1) := by decide +kernel
theorem dX3_giveBonuses_18 : decode cX3_giveBonuses 18 = .ok (.aload_n 2, 1) := by decide +kernel
theorem dX3_giveBonuses_19 : decode cX3_giveBonuses 19 = .ok (.ifnull 31, 3) := by decide +kernel
theorem dX3_giveBonuses_22 : decode cX3_giveBonuses 22 = .ok (.aload_n 2, 1) := by decide +kernel
theorem dX3_giveBonuses_23 : decode cX3_giveBonuses 23 = .ok (.invokevirtual 143, 3) := by decide +kernel
theorem dX3_giveBonuses_26 : decode cX3_giveBonuses 26 = .ok (.ifCond .eq 24, 3) := by decide +kernel
theorem dX3_giveBonuses_29 : decode cX3_giveBonuses 29 = .ok (.aload_n 2, 1) := by decide +kernel
theorem dX3_giveBonuses_30 : decode cX3_giveBonuses 30 = .ok (.dup, 1) := by decide +kernel
theorem dX3_giveBonuses_31 : decode cX3_giveBonuses 31 = .ok (.getfield 136, 3) := by decide +kernel
theorem dX3_giveBonuses_34 : decode cX3_giveBonuses 34 = .ok (.aload_n 2, 1) := by decide +kernel
theorem dX3_giveBonuses_35 : decode cX3_giveBonuses 35 = .ok (.invokevirtual 173, 3) := by decide +kernel
theorem dX3_giveBonuses_38 : decode cX3_giveBonuses 38 = .ok (.aload_n 0, 1) := by decide +kernel
theorem dX3_giveBonuses_39 : decode cX3_giveBonuses 39 = .ok (.getfield 30, 3) := by decide +kernel
theorem dX3_giveBonuses_42 : decode cX3_giveBonuses 42 = .ok (.i2l, 1) := by decide +kernel
theorem dX3_giveBonuses_43 : decode cX3_giveBonuses 43 = .ok (.invokestatic 115, 3) := by decide +kernel
theorem dX3_giveBonuses_46 : decode cX3_giveBonuses 46 = .ok (.ladd, 1) := by decide +kernel
theorem dX3_giveBonuses_47 : decode cX3_giveBonuses 47 = .ok (.putfield 136, 3) := by decide +kernel
theorem dX3_giveBonuses_50 : decode cX3_giveBonuses 50 = .ok (.iinc 1 1, 3) := by decide +kernel
theorem dX3_giveBonuses_53 : decode cX3_giveBonuses 53 = .ok (.goto (-51), 3) := by decide +kernel
theorem dX3_giveBonuses_56 : decode cX3_giveBonuses 56 = .ok (.return_, 1) := by decide +kernel
theorem dX3_maturePolicies_0 : decode cX3_maturePolicies 0 = .ok (.iconst 0, 1) := by decide +kernel
theorem dX3_maturePolicies_1 : decode cX3_maturePolicies 1 = .ok (.istore_n 1, 1) := by decide +kernel
theorem dX3_maturePolicies_2 : decode cX3_maturePolicies 2 = .ok (.iload_n 1, 1) := by decide +kernel
theorem dX3_maturePolicies_3 : decode cX3_maturePolicies 3 = .ok (.aload_n 0, 1) := by decide +kernel
theorem dX3_maturePolicies_4 : decode cX3_maturePolicies 4 = .ok (.getfield 25, 3) := by decide +kernel
theorem dX3_maturePolicies_7 : decode cX3_maturePolicies 7 = .ok (.arraylength, 1) := by decide +kernel
theorem dX3_maturePolicies_8 : decode cX3_maturePolicies 8 = .ok (.if_icmp .ge 23, 3) := by decide +kernel
theorem dX3_maturePolicies_11 : decode cX3_maturePolicies 11 = .ok (.aload_n 0, 1) := by decide +kernel
theorem dX3_maturePolicies_12 : decode cX3_maturePolicies 12 = .ok (.getfield 25, 3) := by decide +kernel
theorem dX3_maturePolicies_15 : decode cX3_maturePolicies 15 = .ok (.iload_n 1, 1) := by decide +kernel
theorem dX3_maturePolicies_16 : decode cX3_maturePolicies 16 = .ok (.aload_n 0, 1) := by decide +kernel
theorem dX3_maturePolicies_17 : decode cX3_maturePolicies 17 = .ok (.getfield 21, 3) := by decide +kernel
theorem dX3_maturePolicies_20 : decode cX3_maturePolicies 20 = .ok (.iload_n 1, 1) := by decide +kernel
theorem dX3_maturePolicies_21 : decode cX3_maturePolicies 21 = .ok (.invokestatic 169, 3) := by decide +kernel
theorem dX3_maturePolicies_24 : decode cX3_maturePolicies 24 = .ok (.lastore, 1) := by decide +kernel
theorem dX3_maturePolicies_25 : decode cX3_maturePolicies 25 = .ok (.iinc 1 1, 3) := by decide +kernel
theorem dX3_maturePolicies_28 : decode cX3_maturePolicies 28 = .ok (.goto (-26), 3) := by decide +kernel
theorem dX3_maturePolicies_31 : decode cX3_maturePolicies 31 = .ok (.iconst 0, 1) := by decide +kernel
theorem dX3_maturePolicies_32 : decode cX3_maturePolicies 32 = .ok (.istore_n 1, 1) := by decide +kernel
theorem dX3_maturePolicies_33 : decode cX3_maturePolicies 33 = .ok (.iconst 0, 1) := by decide +kernel
theorem dX3_maturePolicies_34 : decode cX3_maturePolicies 34 = .ok (.istore_n 2, 1) := by decide +kernel
theorem dX3_maturePolicies_35 : decode cX3_maturePolicies 35 = .ok (.iload_n 2, 1) := by decide +kernel
theorem dX3_maturePolicies_36 : decode cX3_maturePolicies 36 = .ok (.aload_n 0, 1) := by decide +kernel
theorem dX3_maturePolicies_37 : decode cX3_maturePolicies 37 = .ok (.getfield 11, 3) := by decide +kernel
theorem dX3_maturePolicies_40 : decode cX3_maturePolicies 40 = .ok (.arraylength, 1) := by decide +kernel
theorem dX3_maturePolicies_41 : decode cX3_maturePolicies 41 = .ok (.if_icmp .ge 52, 3) := by decide +kernel
theorem dX3_maturePolicies_44 : decode cX3_maturePolicies 44 = .ok (.aload_n 0, 1) := by decide +kernel
theorem dX3_maturePolicies_45 : decode cX3_maturePolicies 45 = .ok (.getfield 11, 3) := by decide +kernel
theorem dX3_maturePolicies_48 : decode cX3_maturePolicies 48 = .ok (.iload_n 2, 1) := by decide +kernel
theorem dX3_maturePolicies_49 : decode cX3_maturePolicies 49 = .ok (.aaload, 1) := by decide +kernel
theorem dX3_maturePolicies_50 : decode cX3_maturePolicies 50 = .ok (.astore_n 3, 1) := by decide +kernel
theorem dX3_maturePolicies_51 : decode cX3_maturePolicies 51 = .ok (.aload_n 3, 1) := by decide +kernel
theorem dX3_maturePolicies_52 : decode cX3_maturePolicies 52 = .ok (.ifnull 35, 3) := by decide +kernel
theorem dX3_maturePolicies_55 : decode cX3_maturePolicies 55 = .ok (.aload_n 3, 1) := by decide +kernel
theorem dX3_maturePolicies_56 : decode cX3_maturePolicies 56 = .ok (.invokevirtual 143, 3) := by decide +kernel
theorem dX3_maturePolicies_59 : decode cX3_maturePolicies 59 = .ok (.ifCond .eq 28, 3) := by decide +kernel
theorem dX3_maturePolicies_62 : decode cX3_maturePolicies 62 = .ok (.aload_n 0, 1) := by decide +kernel
theorem dX3_maturePolicies_63 : decode cX3_maturePolicies 63 = .ok (.aload_n 3, 1) := by decide +kernel
theorem dX3_maturePolicies_64 : decode cX3_maturePolicies 64 = .ok (.invokevirtual 186, 3) := by decide +kernel
theorem dX3_maturePolicies_67 : decode cX3_maturePolicies 67 = .ok (.iconst 1, 1) := by decide +kernel
theorem dX3_maturePolicies_68 : decode cX3_maturePolicies 68 = .ok (.iadd, 1) := by decide +kernel
theorem dX3_maturePolicies_69 : decode cX3_maturePolicies 69 = .ok (.aload_n 3, 1) := by decide +kernel
theorem dX3_maturePolicies_70 : decode cX3_maturePolicies 70 = .ok (.getfield 192, 3) := by decide +kernel
theorem dX3_maturePolicies_73 : decode cX3_maturePolicies 73 = .ok (.getfield 199, 3) := by decide +kernel
theorem dX3_maturePolicies_76 : decode cX3_maturePolicies 76 = .ok (.if_icmp .lt 11, 3) := by decide +kernel
theorem dX3_maturePolicies_79 : decode cX3_maturePolicies 79 = .ok (.aload_n 0, 1) := by decide +kernel
theorem dX3_maturePolicies_80 : decode cX3_maturePolicies 80 = .ok (.aload_n 3, 1) := by decide +kernel
theorem dX3_maturePolicies_81 : decode cX3_maturePolicies 81 = .ok (.invokevirtual 221, 3) := by decide +kernel
theorem dX3_maturePolicies_84 : decode cX3_maturePolicies 84 = .ok (.iinc 1 1, 3) := by decide +kernel
theorem dX3_maturePolicies_87 : decode cX3_maturePolicies 87 = .ok (.iinc 2 1, 3) := by decide +kernel
theorem dX3_maturePolicies_90 : decode cX3_maturePolicies 90 = .ok (.goto (-55), 3) := by decide +kernel
theorem dX3_maturePolicies_93 : decode cX3_maturePolicies 93 = .ok (.iload_n 1, 1) := by decide +kernel
theorem dX3_maturePolicies_94 : decode cX3_maturePolicies 94 = .ok (.ireturn, 1) := by decide +kernel
theorem dX3_mature_0 : decode cX3_mature 0 = .ok (.aload_n 1, 1) := by decide +kernel
theorem dX3_mature_1 : decode cX3_mature 1 = .ok (.getfield 192, 3) := by decide +kernel
theorem dX3_mature_4 : decode cX3_mature 4 = .ok (.getfield 199, 3) := by decide +kernel
theorem dX3_mature_7 : decode cX3_mature 7 = .ok (.istore_n 2, 1) := by decide +kernel
theorem dX3_mature_8 : decode cX3_mature 8 = .ok (.iload_n 2, 1) := by decide +kernel
theorem dX3_mature_9 : decode cX3_mature 9 = .ok (.i2l, 1) := by decide +kernel
theorem dX3_mature_10 : decode cX3_mature 10 = .ok (.aload_n 1, 1) := by decide +kernel
theorem dX3_mature_11 : decode cX3_mature 11 = .ok (.getfield 218, 3) := by decide +kernel
theorem dX3_mature_14 : decode cX3_mature 14 = .ok (.i2l, 1) := by decide +kernel
theorem dX3_mature_15 : decode cX3_mature 15 = .ok (.lmul, 1) := by decide +kernel
theorem dX3_mature_16 : decode cX3_mature 16 = .ok (.lstore_n 3, 1) := by decide +kernel
theorem dX3_mature_17 : decode cX3_mature 17 = .ok (.aload_n 1, 1) := by decide +kernel
theorem dX3_mature_18 : decode cX3_mature 18 = .ok (.invokevirtual 139, 3) := by decide +kernel
theorem dX3_mature_21 : decode cX3_mature 21 = .ok (.aload_n 0, 1) := by decide +kernel
theorem dX3_mature_22 : decode cX3_mature 22 = .ok (.getfield 37, 3) := by decide +kernel
theorem dX3_mature_25 : decode cX3_mature 25 = .ok (.i2l, 1) := by decide +kernel
theorem dX3_mature_26 : decode cX3_mature 26 = .ok (.invokestatic 115, 3) := by decide +kernel
theorem dX3_mature_29 : decode cX3_mature 29 = .ok (.lstore 5, 2) := by decide +kernel
theorem dX3_mature_31 : decode cX3_mature 31 = .ok (.aload_n 0, 1) := by decide +kernel
theorem dX3_mature_32 : decode cX3_mature 32 = .ok (.lload 5, 2) := by decide +kernel
theorem dX3_mature_34 : decode cX3_mature 34 = .ok (.ldc2_w 224, 3) := by decide +kernel
theorem dX3_mature_37 : decode cX3_mature 37 = .ok (.lmul, 1) := by decide +kernel
theorem dX3_mature_38 : decode cX3_mature 38 = .ok (.lload_n 3, 1) := by decide +kernel
theorem dX3_mature_39 : decode cX3_mature 39 = .ok (.invokestatic 226, 3) := by decide +kernel
theorem dX3_mature_42 : decode cX3_mature 42 = .ok (.aload_n 0, 1) := by decide +kernel
theorem dX3_mature_43 : decode cX3_mature 43 = .ok (.getfield 25, 3) := by decide +kernel
theorem dX3_mature_46 : decode cX3_mature 46 = .ok (.iload_n 2, 1) := by decide +kernel
theorem dX3_mature_47 : decode cX3_mature 47 = .ok (.invokestatic 169, 3) := by decide +kernel
theorem dX3_mature_50 : decode cX3_mature 50 = .ok (.invokevirtual 229, 3) := by decide +kernel
theorem dX3_mature_53 : decode cX3_mature 53 = .ok (.lstore 7, 2) := by decide +kernel
theorem dX3_mature_55 : decode cX3_mature 55 = .ok (.iload_n 2, 1) := by decide +kernel
theorem dX3_mature_56 : decode cX3_mature 56 = .ok (.ifCond .lt 20, 3) := by decide +kernel
theorem dX3_mature_59 : decode cX3_mature 59 = .ok (.iload_n 2, 1) := by decide +kernel
theorem dX3_mature_60 : decode cX3_mature 60 = .ok (.aload_n 0, 1) := by decide +kernel
theorem dX3_mature_61 : decode cX3_mature 61 = .ok (.getfield 21, 3) := by decide +kernel
theorem dX3_mature_64 : decode cX3_mature 64 = .ok (.arraylength, 1) := by decide +kernel
theorem dX3_mature_65 : decode cX3_mature 65 = .ok (.if_icmp .ge 11, 3) := by decide +kernel
theorem dX3_mature_68 : decode cX3_mature 68 = .ok (.aload_n 0, 1) := by decide +kernel
theorem dX3_mature_69 : decode cX3_mature 69 = .ok (.getfield 21, 3) := by decide +kernel
theorem dX3_mature_72 : decode cX3_mature 72 = .ok (.iload_n 2, 1) := by decide +kernel
theorem dX3_mature_73 : decode cX3_mature 73 = .ok (.lload 7, 2) := by decide +kernel
theorem dX3_mature_75 : decode cX3_mature 75 = .ok (.lastore, 1) := by decide +kernel
theorem dX3_mature_76 : decode cX3_mature 76 = .ok (.lload_n 3, 1) := by decide +kernel
theorem dX3_mature_77 : decode cX3_mature 77 = .ok (.lload 7, 2) := by decide +kernel
theorem dX3_mature_79 : decode cX3_mature 79 = .ok (.invokestatic 115, 3) := by decide +kernel
theorem dX3_mature_82 : decode cX3_mature 82 = .ok (.aload_n 1, 1) := by decide +kernel
theorem dX3_mature_83 : decode cX3_mature 83 = .ok (.invokevirtual 173, 3) := by decide +kernel
theorem dX3_mature_86 : decode cX3_mature 86 = .ok (.invokestatic 176, 3) := by decide +kernel
theorem dX3_mature_89 : decode cX3_mature 89 = .ok (.lstore 9, 2) := by decide +kernel
theorem dX3_mature_91 : decode cX3_mature 91 = .ok (.aload_n 0, 1) := by decide +kernel
theorem dX3_mature_92 : decode cX3_mature 92 = .ok (.aload_n 1, 1) := by decide +kernel
theorem dX3_mature_93 : decode cX3_mature 93 = .ok (.iconst 1, 1) := by decide +kernel
theorem dX3_mature_94 : decode cX3_mature 94 = .ok (.lload 9, 2) := by decide +kernel
theorem dX3_mature_96 : decode cX3_mature 96 = .ok (.invokevirtual 89, 3) := by decide +kernel
theorem dX3_mature_99 : decode cX3_mature 99 = .ok (.return_, 1) := by decide +kernel
theorem dX3_smooth_0 : decode cX3_smooth 0 = .ok (.lload_n 3, 1) := by decide +kernel
theorem dX3_smooth_1 : decode cX3_smooth 1 = .ok (.ldc2_w 28, 3) := by decide +kernel
theorem dX3_smooth_4 : decode cX3_smooth 4 = .ok (.lcmp, 1) := by decide +kernel
theorem dX3_smooth_5 : decode cX3_smooth 5 = .ok (.ifCond .ne 5, 3) := by decide +kernel
theorem dX3_smooth_8 : decode cX3_smooth 8 = .ok (.lload_n 1, 1) := by decide +kernel
theorem dX3_smooth_9 : decode cX3_smooth 9 = .ok (.lreturn, 1) := by decide +kernel
theorem dX3_smooth_10 : decode cX3_smooth 10 = .ok (.lload_n 3, 1) := by decide +kernel
theorem dX3_smooth_11 : decode cX3_smooth 11 = .ok (.aload_n 0, 1) := by decide +kernel
theorem dX3_smooth_12 : decode cX3_smooth 12 = .ok (.getfield 40, 3) := by decide +kernel
theorem dX3_smooth_15 : decode cX3_smooth 15 = .ok (.i2l, 1) := by decide +kernel
theorem dX3_smooth_16 : decode cX3_smooth 16 = .ok (.invokestatic 115, 3) := by decide +kernel
theorem dX3_smooth_19 : decode cX3_smooth 19 = .ok (.lstore 5, 2) := by decide +kernel
theorem dX3_smooth_21 : decode cX3_smooth 21 = .ok (.lload_n 1, 1) := by decide +kernel
theorem dX3_smooth_22 : decode cX3_smooth 22 = .ok (.lload_n 3, 1) := by decide +kernel
theorem dX3_smooth_23 : decode cX3_smooth 23 = .ok (.lload 5, 2) := by decide +kernel
theorem dX3_smooth_25 : decode cX3_smooth 25 = .ok (.lsub, 1) := by decide +kernel
theorem dX3_smooth_26 : decode cX3_smooth 26 = .ok (.invokestatic 176, 3) := by decide +kernel
theorem dX3_smooth_29 : decode cX3_smooth 29 = .ok (.lload_n 3, 1) := by decide +kernel
theorem dX3_smooth_30 : decode cX3_smooth 30 = .ok (.lload 5, 2) := by decide +kernel
theorem dX3_smooth_32 : decode cX3_smooth 32 = .ok (.ladd, 1) := by decide +kernel
theorem dX3_smooth_33 : decode cX3_smooth 33 = .ok (.invokestatic 232, 3) := by decide +kernel
theorem dX3_smooth_36 : decode cX3_smooth 36 = .ok (.lreturn, 1) := by decide +kernel
theorem dX3_surrenderWorth_0 : decode cX3_surrenderWorth 0 = .ok (.aload_n 0, 1) := by decide +kernel
theorem dX3_surrenderWorth_1 : decode cX3_surrenderWorth 1 = .ok (.aload_n 1, 1) := by decide +kernel
theorem dX3_surrenderWorth_2 : decode cX3_surrenderWorth 2 = .ok (.invokevirtual 186, 3) := by decide +kernel
theorem dX3_surrenderWorth_5 : decode cX3_surrenderWorth 5 = .ok (.istore_n 2, 1) := by decide +kernel
theorem dX3_surrenderWorth_6 : decode cX3_surrenderWorth 6 = .ok (.ldc2_w 235, 3) := by decide +kernel
theorem dX3_surrenderWorth_9 : decode cX3_surrenderWorth 9 = .ok (.ldc2_w 237, 3) := by decide +kernel
theorem dX3_surrenderWorth_12 : decode cX3_surrenderWorth 12 = .ok (.iload_n 2, 1) := by decide +kernel
theorem dX3_surrenderWorth_13 : decode cX3_surrenderWorth 13 = .ok (.i2l, 1) := by decide +kernel
theorem dX3_surrenderWorth_14 : decode cX3_surrenderWorth 14 = .ok (.lmul, 1) := by decide +kernel
theorem dX3_surrenderWorth_15 : decode cX3_surrenderWorth 15 = .ok (.aload_n 1, 1) := by decide +kernel
theorem dX3_surrenderWorth_16 : decode cX3_surrenderWorth 16 = .ok (.getfield 192, 3) := by decide +kernel
theorem dX3_surrenderWorth_19 : decode cX3_surrenderWorth 19 = .ok (.getfield 199, 3) := by decide +kernel
theorem dX3_surrenderWorth_22 : decode cX3_surrenderWorth 22 = .ok (.i2l, 1) := by decide +kernel
theorem dX3_surrenderWorth_23 : decode cX3_surrenderWorth 23 = .ok (.invokestatic 226, 3) := by decide +kernel
theorem dX3_surrenderWorth_26 : decode cX3_surrenderWorth 26 = .ok (.ladd, 1) := by decide +kernel
theorem dX3_surrenderWorth_27 : decode cX3_surrenderWorth 27 = .ok (.lstore_n 3, 1) := by decide +kernel
theorem dX3_surrenderWorth_28 : decode cX3_surrenderWorth 28 = .ok (.aload_n 1, 1) := by decide +kernel
theorem dX3_surrenderWorth_29 : decode cX3_surrenderWorth 29 = .ok (.invokevirtual 139, 3) := by decide +kernel
theorem dX3_surrenderWorth_32 : decode cX3_surrenderWorth 32 = .ok (.lload_n 3, 1) := by decide +kernel
theorem dX3_surrenderWorth_33 : decode cX3_surrenderWorth 33 = .ok (.invokestatic 115, 3) := by decide +kernel
theorem dX3_surrenderWorth_36 : decode cX3_surrenderWorth 36 = .ok (.lstore 5, 2) := by decide +kernel
theorem dX3_surrenderWorth_38 : decode cX3_surrenderWorth 38 = .ok (.iload_n 2, 1) := by decide +kernel
theorem dX3_surrenderWorth_39 : decode cX3_surrenderWorth 39 = .ok (.i2l, 1) := by decide +kernel
theorem dX3_surrenderWorth_40 : decode cX3_surrenderWorth 40 = .ok (.aload_n 1, 1) := by decide +kernel
theorem dX3_surrenderWorth_41 : decode cX3_surrenderWorth 41 = .ok (.getfield 218, 3) := by decide +kernel
theorem dX3_surrenderWorth_44 : decode cX3_surrenderWorth 44 = .ok (.i2l, 1) := by decide +kernel
theorem dX3_surrenderWorth_45 : decode cX3_surrenderWorth 45 = .ok (.lmul, 1) := by decide +kernel
theorem dX3_surrenderWorth_46 : decode cX3_surrenderWorth 46 = .ok (.aload_n 0, 1) := by decide +kernel
theorem dX3_surrenderWorth_47 : decode cX3_surrenderWorth 47 = .ok (.getfield 43, 3) := by decide +kernel
theorem dX3_surrenderWorth_50 : decode cX3_surrenderWorth 50 = .ok (.i2l, 1) := by decide +kernel
theorem dX3_surrenderWorth_51 : decode cX3_surrenderWorth 51 = .ok (.invokestatic 115, 3) := by decide +kernel
theorem dX3_surrenderWorth_54 : decode cX3_surrenderWorth 54 = .ok (.lstore 7, 2) := by decide +kernel
theorem dX3_surrenderWorth_56 : decode cX3_surrenderWorth 56 = .ok (.lconst 0, 1) := by decide +kernel
theorem dX3_surrenderWorth_57 : decode cX3_surrenderWorth 57 = .ok (.lload 5, 2) := by decide +kernel
theorem dX3_surrenderWorth_59 : decode cX3_surrenderWorth 59 = .ok (.lload 7, 2) := by decide +kernel
theorem dX3_surrenderWorth_61 : decode cX3_surrenderWorth 61 = .ok (.invokestatic 176, 3) := by decide +kernel
theorem dX3_surrenderWorth_64 : decode cX3_surrenderWorth 64 = .ok (.invokestatic 176, 3) := by decide +kernel
theorem dX3_surrenderWorth_67 : decode cX3_surrenderWorth 67 = .ok (.lreturn, 1) := by decide +kernel
theorem dX3_close_0 : decode cX3_close 0 = .ok (.aload_n 0, 1) := by decide +kernel
theorem dX3_close_1 : decode cX3_close 1 = .ok (.dup, 1) := by decide +kernel
theorem dX3_close_2 : decode cX3_close 2 = .ok (.getfield 101, 3) := by decide +kernel
theorem dX3_close_5 : decode cX3_close 5 = .ok (.aload_n 1, 1) := by decide +kernel
theorem dX3_close_6 : decode cX3_close 6 = .ok (.getfield 192, 3) := by decide +kernel
theorem dX3_close_9 : decode cX3_close 9 = .ok (.aload_n 1, 1) := by decide +kernel
theorem dX3_close_10 : decode cX3_close 10 = .ok (.getfield 218, 3) := by decide +kernel
theorem dX3_close_13 : decode cX3_close 13 = .ok (.invokevirtual 239, 3) := by decide +kernel
theorem dX3_close_16 : decode cX3_close 16 = .ok (.lload_n 3, 1) := by decide +kernel
theorem dX3_close_17 : decode cX3_close 17 = .ok (.lsub, 1) := by decide +kernel
theorem dX3_close_18 : decode cX3_close 18 = .ok (.ladd, 1) := by decide +kernel
theorem dX3_close_19 : decode cX3_close 19 = .ok (.putfield 101, 3) := by decide +kernel
theorem dX3_close_22 : decode cX3_close 22 = .ok (.aload_n 0, 1) := by decide +kernel
theorem dX3_close_23 : decode cX3_close 23 = .ok (.dup, 1) := by decide +kernel
theorem dX3_close_24 : decode cX3_close 24 = .ok (.getfield 105, 3) := by decide +kernel
theorem dX3_close_27 : decode cX3_close 27 = .ok (.lload_n 3, 1) := by decide +kernel
theorem dX3_close_28 : decode cX3_close 28 = .ok (.lsub, 1) := by decide +kernel
theorem dX3_close_29 : decode cX3_close 29 = .ok (.putfield 105, 3) := by decide +kernel
theorem dX3_close_32 : decode cX3_close 32 = .ok (.aload_n 1, 1) := by decide +kernel
theorem dX3_close_33 : decode cX3_close 33 = .ok (.iload_n 2, 1) := by decide +kernel
theorem dX3_close_34 : decode cX3_close 34 = .ok (.putfield 133, 3) := by decide +kernel
theorem dX3_close_37 : decode cX3_close 37 = .ok (.aload_n 1, 1) := by decide +kernel
theorem dX3_close_38 : decode cX3_close 38 = .ok (.lload_n 3, 1) := by decide +kernel
theorem dX3_close_39 : decode cX3_close 39 = .ok (.putfield 164, 3) := by decide +kernel
theorem dX3_close_42 : decode cX3_close 42 = .ok (.return_, 1) := by decide +kernel
theorem dX3_thousandths_0 : decode cX3_thousandths 0 = .ok (.lload_n 0, 1) := by decide +kernel
theorem dX3_thousandths_1 : decode cX3_thousandths 1 = .ok (.lload_n 2, 1) := by decide +kernel
theorem dX3_thousandths_2 : decode cX3_thousandths 2 = .ok (.lmul, 1) := by decide +kernel
theorem dX3_thousandths_3 : decode cX3_thousandths 3 = .ok (.ldc2_w 224, 3) := by decide +kernel
theorem dX3_thousandths_6 : decode cX3_thousandths 6 = .ok (.invokestatic 242, 3) := by decide +kernel
theorem dX3_thousandths_9 : decode cX3_thousandths 9 = .ok (.lreturn, 1) := by decide +kernel
theorem dX3_parted_0 : decode cX3_parted 0 = .ok (.lload_n 2, 1) := by decide +kernel
theorem dX3_parted_1 : decode cX3_parted 1 = .ok (.lconst 0, 1) := by decide +kernel
theorem dX3_parted_2 : decode cX3_parted 2 = .ok (.lcmp, 1) := by decide +kernel
theorem dX3_parted_3 : decode cX3_parted 3 = .ok (.ifCond .le 9, 3) := by decide +kernel
theorem dX3_parted_6 : decode cX3_parted 6 = .ok (.lload_n 0, 1) := by decide +kernel
theorem dX3_parted_7 : decode cX3_parted 7 = .ok (.lload_n 2, 1) := by decide +kernel
theorem dX3_parted_8 : decode cX3_parted 8 = .ok (.ldiv, 1) := by decide +kernel
theorem dX3_parted_9 : decode cX3_parted 9 = .ok (.goto 4, 3) := by decide +kernel
theorem dX3_parted_12 : decode cX3_parted 12 = .ok (.lconst 0, 1) := by decide +kernel
theorem dX3_parted_13 : decode cX3_parted 13 = .ok (.lreturn, 1) := by decide +kernel
theorem dJ9_floorDiv_f86c9_0 : decode cJ9_floorDiv_f86c9 0 = .ok (.lload_n 0, 1) := by decide +kernel
theorem dJ9_floorDiv_f86c9_1 : decode cJ9_floorDiv_f86c9 1 = .ok (.lload_n 2, 1) := by decide +kernel
theorem dJ9_floorDiv_f86c9_2 : decode cJ9_floorDiv_f86c9 2 = .ok (.ldiv, 1) := by decide +kernel
theorem dJ9_floorDiv_f86c9_3 : decode cJ9_floorDiv_f86c9 3 = .ok (.lstore 4, 2) := by decide +kernel
theorem dJ9_floorDiv_f86c9_5 : decode cJ9_floorDiv_f86c9 5 = .ok (.lload_n 0, 1) := by decide +kernel
theorem dJ9_floorDiv_f86c9_6 : decode cJ9_floorDiv_f86c9 6 = .ok (.lload_n 2, 1) := by decide +kernel
theorem dJ9_floorDiv_f86c9_7 : decode cJ9_floorDiv_f86c9 7 = .ok (.lxor, 1) := by decide +kernel
theorem dJ9_floorDiv_f86c9_8 : decode cJ9_floorDiv_f86c9 8 = .ok (.lconst 0, 1) := by decide +kernel
theorem dJ9_floorDiv_f86c9_9 : decode cJ9_floorDiv_f86c9 9 = .ok (.lcmp, 1) := by decide +kernel
theorem dJ9_floorDiv_f86c9_10 : decode cJ9_floorDiv_f86c9 10 = .ok (.ifCond .ge 17, 3) := by decide +kernel
theorem dJ9_floorDiv_f86c9_13 : decode cJ9_floorDiv_f86c9 13 = .ok (.lload 4, 2) := by decide +kernel
theorem dJ9_floorDiv_f86c9_15 : decode cJ9_floorDiv_f86c9 15 = .ok (.lload_n 2, 1) := by decide +kernel
theorem dJ9_floorDiv_f86c9_16 : decode cJ9_floorDiv_f86c9 16 = .ok (.lmul, 1) := by decide +kernel
theorem dJ9_floorDiv_f86c9_17 : decode cJ9_floorDiv_f86c9 17 = .ok (.lload_n 0, 1) := by decide +kernel
theorem dJ9_floorDiv_f86c9_18 : decode cJ9_floorDiv_f86c9 18 = .ok (.lcmp, 1) := by decide +kernel
theorem dJ9_floorDiv_f86c9_19 : decode cJ9_floorDiv_f86c9 19 = .ok (.ifCond .eq 8, 3) := by decide +kernel
theorem dJ9_floorDiv_f86c9_22 : decode cJ9_floorDiv_f86c9 22 = .ok (.lload 4, 2) := by decide +kernel
theorem dJ9_floorDiv_f86c9_24 : decode cJ9_floorDiv_f86c9 24 = .ok (.lconst 1, 1) := by decide +kernel
theorem dJ9_floorDiv_f86c9_25 : decode cJ9_floorDiv_f86c9 25 = .ok (.lsub, 1) := by decide +kernel
theorem dJ9_floorDiv_f86c9_26 : decode cJ9_floorDiv_f86c9 26 = .ok (.lreturn, 1) := by decide +kernel
theorem dJ9_floorDiv_f86c9_27 : decode cJ9_floorDiv_f86c9 27 = .ok (.lload 4, 2) := by decide +kernel
theorem dJ9_floorDiv_f86c9_29 : decode cJ9_floorDiv_f86c9 29 = .ok (.lreturn, 1) := by decide +kernel
theorem dJ9_max_f86c9_0 : decode cJ9_max_f86c9 0 = .ok (.lload_n 0, 1) := by decide +kernel
theorem dJ9_max_f86c9_1 : decode cJ9_max_f86c9 1 = .ok (.lload_n 2, 1) := by decide +kernel
theorem dJ9_max_f86c9_2 : decode cJ9_max_f86c9 2 = .ok (.lcmp, 1) := by decide +kernel
theorem dJ9_max_f86c9_3 : decode cJ9_max_f86c9 3 = .ok (.ifCond .lt 7, 3) := by decide +kernel
theorem dJ9_max_f86c9_6 : decode cJ9_max_f86c9 6 = .ok (.lload_n 0, 1) := by decide +kernel
theorem dJ9_max_f86c9_7 : decode cJ9_max_f86c9 7 = .ok (.goto 4, 3) := by decide +kernel
theorem dJ9_max_f86c9_10 : decode cJ9_max_f86c9 10 = .ok (.lload_n 2, 1) := by decide +kernel
theorem dJ9_max_f86c9_11 : decode cJ9_max_f86c9 11 = .ok (.lreturn, 1) := by decide +kernel
theorem dJ9_min_f86c9_0 : decode cJ9_min_f86c9 0 = .ok (.lload_n 0, 1) := by decide +kernel
theorem dJ9_min_f86c9_1 : decode cJ9_min_f86c9 1 = .ok (.lload_n 2, 1) := by decide +kernel
theorem dJ9_min_f86c9_2 : decode cJ9_min_f86c9 2 = .ok (.lcmp, 1) := by decide +kernel
theorem dJ9_min_f86c9_3 : decode cJ9_min_f86c9 3 = .ok (.ifCond .gt 7, 3) := by decide +kernel
theorem dJ9_min_f86c9_6 : decode cJ9_min_f86c9 6 = .ok (.lload_n 0, 1) := by decide +kernel
theorem dJ9_min_f86c9_7 : decode cJ9_min_f86c9 7 = .ok (.goto 4, 3) := by decide +kernel
theorem dJ9_min_f86c9_10 : decode cJ9_min_f86c9 10 = .ok (.lload_n 2, 1) := by decide +kernel
theorem dJ9_min_f86c9_11 : decode cJ9_min_f86c9 11 = .ok (.lreturn, 1) := by decide +kernel
end
section
theorem dL_low_0 : decode cL_low 0 = .ok (.iload_n 0, 1) := by decide +kernel
theorem dL_low_1 : decode cL_low 1 = .ok (.ldc 7, 2) := by decide +kernel
theorem dL_low_3 : decode cL_low 3 = .ok (.iand, 1) := by decide +kernel
theorem dL_low_4 : decode cL_low 4 = .ok (.iload_n 1, 1) := by decide +kernel
theorem dL_low_5 : decode cL_low 5 = .ok (.irem, 1) := by decide +kernel
theorem dL_low_6 : decode cL_low 6 = .ok (.ireturn, 1) := by decide +kernel
theorem dL_cell_0 : decode cL_cell 0 = .ok (.iload_n 1, 1) := by decide +kernel
theorem dL_cell_1 : decode cL_cell 1 = .ok (.aload_n 0, 1) := by decide +kernel
theorem dL_cell_2 : decode cL_cell 2 = .ok (.arraylength, 1) := by decide +kernel
theorem dL_cell_3 : decode cL_cell 3 = .ok (.if_icmp .ge 9, 3) := by decide +kernel
theorem dL_cell_6 : decode cL_cell 6 = .ok (.aload_n 0, 1) := by decide +kernel
theorem dL_cell_7 : decode cL_cell 7 = .ok (.iload_n 1, 1) := by decide +kernel
theorem dL_cell_8 : decode cL_cell 8 = .ok (.iaload, 1) := by decide +kernel
theorem dL_cell_9 : decode cL_cell 9 = .ok (.goto 11, 3) := by decide +kernel
theorem dL_cell_12 : decode cL_cell 12 = .ok (.ldc 8, 2) := by decide +kernel
theorem dL_cell_14 : decode cL_cell 14 = .ok (.iload_n 1, 1) := by decide +kernel
theorem dL_cell_15 : decode cL_cell 15 = .ok (.imul, 1) := by decide +kernel
theorem dL_cell_16 : decode cL_cell 16 = .ok (.sipush 977, 3) := by decide +kernel
theorem dL_cell_19 : decode cL_cell 19 = .ok (.iadd, 1) := by decide +kernel
theorem dL_cell_20 : decode cL_cell 20 = .ok (.ireturn, 1) := by decide +kernel
theorem dL_begin_0 : decode cL_begin 0 = .ok (.aload_n 0, 1) := by decide +kernel
theorem dL_begin_1 : decode cL_begin 1 = .ok (.iload_n 1, 1) := by decide +kernel
theorem dL_begin_2 : decode cL_begin 2 = .ok (.iload_n 2, 1) := by decide +kernel
theorem dL_begin_3 : decode cL_begin 3 = .ok (.iload_n 3, 1) := by decide +kernel
theorem dL_begin_4 : decode cL_begin 4 = .ok (.invokevirtual 9, 3) := by decide +kernel
theorem dL_begin_7 : decode cL_begin 7 = .ok (.ireturn, 1) := by decide +kernel
theorem dL_begin_8 : decode cL_begin 8 = .ok (.astore 4, 2) := by decide +kernel
theorem dL_begin_10 : decode cL_begin 10 = .ok (.bipush (-3), 2) := by decide +kernel
theorem dL_begin_12 : decode cL_begin 12 = .ok (.ireturn, 1) := by decide +kernel
theorem dL_surrender_0 : decode cL_surrender 0 = .ok (.aload_n 0, 1) := by decide +kernel
theorem dL_surrender_1 : decode cL_surrender 1 = .ok (.iload_n 1, 1) := by decide +kernel
theorem dL_surrender_2 : decode cL_surrender 2 = .ok (.invokevirtual 17, 3) := by decide +kernel
theorem dL_surrender_5 : decode cL_surrender 5 = .ok (.ireturn, 1) := by decide +kernel
theorem dL_surrender_6 : decode cL_surrender 6 = .ok (.astore_n 2, 1) := by decide +kernel
theorem dL_surrender_7 : decode cL_surrender 7 = .ok (.bipush (-3), 2) := by decide +kernel
theorem dL_surrender_9 : decode cL_surrender 9 = .ok (.ireturn, 1) := by decide +kernel
theorem dL_worth_0 : decode cL_worth 0 = .ok (.aload_n 0, 1) := by decide +kernel
theorem dL_worth_1 : decode cL_worth 1 = .ok (.iload_n 1, 1) := by decide +kernel
theorem dL_worth_2 : decode cL_worth 2 = .ok (.invokevirtual 21, 3) := by decide +kernel
theorem dL_worth_5 : decode cL_worth 5 = .ok (.ireturn, 1) := by decide +kernel
theorem dL_worth_6 : decode cL_worth 6 = .ok (.astore_n 2, 1) := by decide +kernel
theorem dL_worth_7 : decode cL_worth 7 = .ok (.bipush (-3), 2) := by decide +kernel
theorem dL_worth_9 : decode cL_worth 9 = .ok (.ireturn, 1) := by decide +kernel
theorem dL_run_0 : decode cL_run 0 = .ok (.aload_n 0, 1) := by decide +kernel
theorem dL_run_1 : decode cL_run 1 = .ok (.iload_n 1, 1) := by decide +kernel
theorem dL_run_2 : decode cL_run 2 = .ok (.invokevirtual 24, 3) := by decide +kernel
theorem dL_run_5 : decode cL_run 5 = .ok (.ireturn, 1) := by decide +kernel
theorem dL_run_6 : decode cL_run 6 = .ok (.astore_n 2, 1) := by decide +kernel
theorem dL_run_7 : decode cL_run 7 = .ok (.bipush (-3), 2) := by decide +kernel
theorem dL_run_9 : decode cL_run 9 = .ok (.ireturn, 1) := by decide +kernel
theorem dL_holds_0 : decode cL_holds 0 = .ok (.aload_n 0, 1) := by decide +kernel
theorem dL_holds_1 : decode cL_holds 1 = .ok (.invokevirtual 27, 3) := by decide +kernel
theorem dL_holds_4 : decode cL_holds 4 = .ok (.aload_n 0, 1) := by decide +kernel
theorem dL_holds_5 : decode cL_holds 5 = .ok (.invokevirtual 31, 3) := by decide +kernel
theorem dL_holds_8 : decode cL_holds 8 = .ok (.lcmp, 1) := by decide +kernel
theorem dL_holds_9 : decode cL_holds 9 = .ok (.ifCond .ne 14, 3) := by decide +kernel
theorem dL_holds_12 : decode cL_holds 12 = .ok (.aload_n 0, 1) := by decide +kernel
theorem dL_holds_13 : decode cL_holds 13 = .ok (.invokevirtual 34, 3) := by decide +kernel
theorem dL_holds_16 : decode cL_holds 16 = .ok (.ifCond .lt 7, 3) := by decide +kernel
theorem dL_holds_19 : decode cL_holds 19 = .ok (.iconst 1, 1) := by decide +kernel
theorem dL_holds_20 : decode cL_holds 20 = .ok (.goto 4, 3) := by decide +kernel
theorem dL_holds_23 : decode cL_holds 23 = .ok (.iconst 0, 1) := by decide +kernel
theorem dL_holds_24 : decode cL_holds 24 = .ok (.istore_n 1, 1) := by decide +kernel
theorem dL_holds_25 : decode cL_holds 25 = .ok (.iconst 0, 1) := by decide +kernel
theorem dL_holds_26 : decode cL_holds 26 = .ok (.istore_n 2, 1) := by decide +kernel
theorem dL_holds_27 : decode cL_holds 27 = .ok (.iconst 0, 1) := by decide +kernel
theorem dL_holds_28 : decode cL_holds 28 = .ok (.istore_n 3, 1) := by decide +kernel
theorem dL_holds_29 : decode cL_holds 29 = .ok (.iload_n 3, 1) := by decide +kernel
theorem dL_holds_30 : decode cL_holds 30 = .ok (.aload_n 0, 1) := by decide +kernel
theorem dL_holds_31 : decode cL_holds 31 = .ok (.invokevirtual 38, 3) := by decide +kernel
theorem dL_holds_34 : decode cL_holds 34 = .ok (.if_icmp .ge 107, 3) := by decide +kernel
theorem dL_holds_37 : decode cL_holds 37 = .ok (.iload_n 1, 1) := by decide +kernel
theorem dL_holds_38 : decode cL_holds 38 = .ok (.ifCond .eq 103, 3) := by decide +kernel
theorem dL_holds_41 : decode cL_holds 41 = .ok (.aload_n 0, 1) := by decide +kernel
theorem dL_holds_42 : decode cL_holds 42 = .ok (.iload_n 3, 1) := by decide +kernel
theorem dL_holds_43 : decode cL_holds 43 = .ok (.invokevirtual 41, 3) := by decide +kernel
theorem dL_holds_46 : decode cL_holds 46 = .ok (.istore 4, 2) := by decide +kernel
theorem dL_holds_48 : decode cL_holds 48 = .ok (.aload_n 0, 1) := by decide +kernel
theorem dL_holds_49 : decode cL_holds 49 = .ok (.iload_n 3, 1) := by decide +kernel
theorem dL_holds_50 : decode cL_holds 50 = .ok (.invokevirtual 44, 3) := by decide +kernel
theorem dL_holds_53 : decode cL_holds 53 = .ok (.istore 5, 2) := by decide +kernel
theorem dL_holds_55 : decode cL_holds 55 = .ok (.iload_n 2, 1) := by decide +kernel
theorem dL_holds_56 : decode cL_holds 56 = .ok (.iload 5, 2) := by decide +kernel
theorem dL_holds_58 : decode cL_holds 58 = .ok (.iadd, 1) := by decide +kernel
theorem dL_holds_59 : decode cL_holds 59 = .ok (.istore_n 2, 1) := by decide +kernel
theorem dL_holds_60 : decode cL_holds 60 = .ok (.iload 4, 2) := by decide +kernel
theorem dL_holds_62 : decode cL_holds 62 = .ok (.ifCond .lt 71, 3) := by decide +kernel
theorem dL_holds_65 : decode cL_holds 65 = .ok (.iload 4, 2) := by decide +kernel
theorem dL_holds_67 : decode cL_holds 67 = .ok (.iconst 2, 1) := by decide +kernel
theorem dL_holds_68 : decode cL_holds 68 = .ok (.if_icmp .gt 65, 3) := by decide +kernel
theorem dL_holds_71 : decode cL_holds 71 = .ok (.iload 5, 2) := by decide +kernel
theorem dL_holds_73 : decode cL_holds 73 = .ok (.ifCond .lt 60, 3) := by decide +kernel
theorem dL_holds_76 : decode cL_holds 76 = .ok (.iload 4, 2) := by decide +kernel
theorem dL_holds_78 : decode cL_holds 78 = .ok (.ifCond .eq 16, 3) := by decide +kernel
theorem dL_holds_81 : decode cL_holds 81 = .ok (.iload 5, 2) := by decide +kernel
theorem dL_holds_83 : decode cL_holds 83 = .ok (.ifCond .ne 50, 3) := by decide +kernel
theorem dL_holds_86 : decode cL_holds 86 = .ok (.aload_n 0, 1) := by decide +kernel
theorem dL_holds_87 : decode cL_holds 87 = .ok (.iload_n 3, 1) := by decide +kernel
theorem dL_holds_88 : decode cL_holds 88 = .ok (.invokevirtual 47, 3) := by decide +kernel
theorem dL_holds_91 : decode cL_holds 91 = .ok (.ifCond .ne 42, 3) := by decide +kernel
theorem dL_holds_94 : decode cL_holds 94 = .ok (.aload_n 0, 1) := by decide +kernel
theorem dL_holds_95 : decode cL_holds 95 = .ok (.iload_n 3, 1) := by decide +kernel
theorem dL_holds_96 : decode cL_holds 96 = .ok (.invokevirtual 50, 3) := by decide +kernel
theorem dL_holds_99 : decode cL_holds 99 = .ok (.iconst (-1), 1) := by decide +kernel
theorem dL_holds_100 : decode cL_holds 100 = .ok (.if_icmp .ne 7, 3) := by decide +kernel
theorem dL_holds_103 : decode cL_holds 103 = .ok (.iconst 1, 1) := by decide +kernel
theorem dL_holds_104 : decode cL_holds 104 = .ok (.goto 4, 3) := by decide +kernel
theorem dL_holds_107 : decode cL_holds 107 = .ok (.iconst 0, 1) := by decide +kernel
theorem dL_holds_108 : decode cL_holds 108 = .ok (.iload 4, 2) := by decide +kernel
theorem dL_holds_110 : decode cL_holds 110 = .ok (.ifCond .ne 7, 3) := by decide +kernel
theorem dL_holds_113 : decode cL_holds 113 = .ok (.iconst 1, 1) := by decide +kernel
theorem dL_holds_114 : decode cL_holds 114 = .ok (.goto 4, 3) := by decide +kernel
theorem dL_holds_117 : decode cL_holds 117 = .ok (.iconst 0, 1) := by decide +kernel
theorem dL_holds_118 : decode cL_holds 118 = .ok (.if_icmp .ne 15, 3) := by decide +kernel
theorem dL_holds_121 : decode cL_holds 121 = .ok (.aload_n 0, 1) := by decide +kernel
theorem dL_holds_122 : decode cL_holds 122 = .ok (.iload_n 3, 1) := by decide +kernel
theorem dL_holds_123 : decode cL_holds 123 = .ok (.invokevirtual 53, 3) := by decide +kernel
theorem dL_holds_126 : decode cL_holds 126 = .ok (.ifCond .lt 7, 3) := by decide +kernel
theorem dL_holds_129 : decode cL_holds 129 = .ok (.iconst 1, 1) := by decide +kernel
theorem dL_holds_130 : decode cL_holds 130 = .ok (.goto 4, 3) := by decide +kernel
theorem dL_holds_133 : decode cL_holds 133 = .ok (.iconst 0, 1) := by decide +kernel
theorem dL_holds_134 : decode cL_holds 134 = .ok (.istore_n 1, 1) := by decide +kernel
theorem dL_holds_135 : decode cL_holds 135 = .ok (.iinc 3 1, 3) := by decide +kernel
theorem dL_holds_138 : decode cL_holds 138 = .ok (.goto (-109), 3) := by decide +kernel
theorem dL_holds_141 : decode cL_holds 141 = .ok (.iload_n 1, 1) := by decide +kernel
theorem dL_holds_142 : decode cL_holds 142 = .ok (.ifCond .eq 22, 3) := by decide +kernel
theorem dL_holds_145 : decode cL_holds 145 = .ok (.iload_n 2, 1) := by decide +kernel
theorem dL_holds_146 : decode cL_holds 146 = .ok (.i2l, 1) := by decide +kernel
theorem dL_holds_147 : decode cL_holds 147 = .ok (.aload_n 0, 1) := by decide +kernel
theorem dL_holds_148 : decode cL_holds 148 = .ok (.invokevirtual 31, 3) := by decide +kernel
theorem dL_holds_151 : decode cL_holds 151 = .ok (.aload_n 0, 1) := by decide +kernel
theorem dL_holds_152 : decode cL_holds 152 = .ok (.invokevirtual 56, 3) := by decide +kernel
theorem dL_holds_155 : decode cL_holds 155 = .ok (.lsub, 1) := by decide +kernel
theorem dL_holds_156 : decode cL_holds 156 = .ok (.lcmp, 1) := by decide +kernel
theorem dL_holds_157 : decode cL_holds 157 = .ok (.ifCond .gt 7, 3) := by decide +kernel
theorem dL_holds_160 : decode cL_holds 160 = .ok (.iconst 1, 1) := by decide +kernel
theorem dL_holds_161 : decode cL_holds 161 = .ok (.goto 4, 3) := by decide +kernel
theorem dL_holds_164 : decode cL_holds 164 = .ok (.iconst 0, 1) := by decide +kernel
theorem dL_holds_165 : decode cL_holds 165 = .ok (.ireturn, 1) := by decide +kernel
theorem dL_generations_0 : decode cL_generations 0 = .ok (.lconst 0, 1) := by decide +kernel
theorem dL_generations_1 : decode cL_generations 1 = .ok (.lstore_n 1, 1) := by decide +kernel
theorem dL_generations_2 : decode cL_generations 2 = .ok (.iconst 0, 1) := by decide +kernel
theorem dL_generations_3 : decode cL_generations 3 = .ok (.istore_n 3, 1) := by decide +kernel
theorem dL_generations_4 : decode cL_generations 4 = .ok (.iload_n 3, 1) := by decide +kernel
theorem dL_generations_5 : decode cL_generations 5 = .ok (.bipush 40, 2) := by decide +kernel
theorem dL_generations_7 : decode cL_generations 7 = .ok (.if_icmp .gt 36, 3) := by decide +kernel
theorem dL_generations_10 : decode cL_generations 10 = .ok (.iconst 2, 1) := by decide +kernel
theorem dL_generations_11 : decode cL_generations 11 = .ok (.istore 4, 2) := by decide +kernel
theorem dL_generations_13 : decode cL_generations 13 = .ok (.iload 4, 2) := by decide +kernel
theorem dL_generations_15 : decode cL_generations 15 = .ok (.bipush 20, 2) := by decide +kernel
theorem dL_generations_17 : decode cL_generations 17 = .ok (.if_icmp .gt 20, 3) := by decide +kernel
theorem dL_generations_20 : decode cL_generations 20 = .ok (.lload_n 1, 1) := by decide +kernel
theorem dL_generations_21 : decode cL_generations 21 = .ok (.aload_n 0, 1) := by decide +kernel
theorem dL_generations_22 : decode cL_generations 22 = .ok (.iload_n 3, 1) := by decide +kernel
theorem dL_generations_23 : decode cL_generations 23 = .ok (.iload 4, 2) := by decide +kernel
theorem dL_generations_25 : decode cL_generations 25 = .ok (.invokevirtual 59, 3) := by decide +kernel
theorem dL_generations_28 : decode cL_generations 28 = .ok (.i2l, 1) := by decide +kernel
theorem dL_generations_29 : decode cL_generations 29 = .ok (.ladd, 1) := by decide +kernel
theorem dL_generations_30 : decode cL_generations 30 = .ok (.lstore_n 1, 1) := by decide +kernel
theorem dL_generations_31 : decode cL_generations 31 = .ok (.iinc 4 1, 3) := by decide +kernel
theorem dL_generations_34 : decode cL_generations 34 = .ok (.goto (-21), 3) := by decide +kernel
theorem dL_generations_37 : decode cL_generations 37 = .ok (.iinc 3 1, 3) := by decide +kernel
theorem dL_generations_40 : decode cL_generations 40 = .ok (.goto (-36), 3) := by decide +kernel
theorem dL_generations_43 : decode cL_generations 43 = .ok (.lload_n 1, 1) := by decide +kernel
theorem dL_generations_44 : decode cL_generations 44 = .ok (.aload_n 0, 1) := by decide +kernel
theorem dL_generations_45 : decode cL_generations 45 = .ok (.invokevirtual 31, 3) := by decide +kernel
theorem dL_generations_48 : decode cL_generations 48 = .ok (.aload_n 0, 1) := by decide +kernel
theorem dL_generations_49 : decode cL_generations 49 = .ok (.invokevirtual 56, 3) := by decide +kernel
theorem dL_generations_52 : decode cL_generations 52 = .ok (.lsub, 1) := by decide +kernel
theorem dL_generations_53 : decode cL_generations 53 = .ok (.lcmp, 1) := by decide +kernel
theorem dL_generations_54 : decode cL_generations 54 = .ok (.ifCond .ne 7, 3) := by decide +kernel
theorem dL_generations_57 : decode cL_generations 57 = .ok (.iconst 1, 1) := by decide +kernel
theorem dL_generations_58 : decode cL_generations 58 = .ok (.goto 4, 3) := by decide +kernel
theorem dL_generations_61 : decode cL_generations 61 = .ok (.iconst 0, 1) := by decide +kernel
theorem dL_generations_62 : decode cL_generations 62 = .ok (.ireturn, 1) := by decide +kernel
theorem dL_law_0 : decode cL_law 0 = .ok (.new 10, 3) := by decide +kernel
theorem dL_law_3 : decode cL_law 3 = .ok (.dup, 1) := by decide +kernel
theorem dL_law_4 : decode cL_law 4 = .ok (.invokespecial 63, 3) := by decide +kernel
theorem dL_law_7 : decode cL_law 7 = .ok (.astore_n 1, 1) := by decide +kernel
theorem dL_law_8 : decode cL_law 8 = .ok (.aload_n 1, 1) := by decide +kernel
theorem dL_law_9 : decode cL_law 9 = .ok (.invokestatic 64, 3) := by decide +kernel
theorem dL_law_12 : decode cL_law 12 = .ok (.ifCond .eq 30, 3) := by decide +kernel
theorem dL_law_15 : decode cL_law 15 = .ok (.aload_n 1, 1) := by decide +kernel
theorem dL_law_16 : decode cL_law 16 = .ok (.invokestatic 70, 3) := by decide +kernel
theorem dL_law_19 : decode cL_law 19 = .ok (.ifCond .eq 23, 3) := by decide +kernel
theorem dL_law_22 : decode cL_law 22 = .ok (.aload_n 1, 1) := by decide +kernel
theorem dL_law_23 : decode cL_law 23 = .ok (.invokevirtual 73, 3) := by decide +kernel
theorem dL_law_26 : decode cL_law 26 = .ok (.ifCond .ne 16, 3) := by decide +kernel
theorem dL_law_29 : decode cL_law 29 = .ok (.aload_n 1, 1) := by decide +kernel
theorem dL_law_30 : decode cL_law 30 = .ok (.iconst 2, 1) := by decide +kernel
theorem dL_law_31 : decode cL_law 31 = .ok (.invokevirtual 76, 3) := by decide +kernel
theorem dL_law_34 : decode cL_law 34 = .ok (.iconst (-1), 1) := by decide +kernel
theorem dL_law_35 : decode cL_law 35 = .ok (.if_icmp .ne 7, 3) := by decide +kernel
theorem dL_law_38 : decode cL_law 38 = .ok (.iconst 1, 1) := by decide +kernel
theorem dL_law_39 : decode cL_law 39 = .ok (.goto 4, 3) := by decide +kernel
theorem dL_law_42 : decode cL_law 42 = .ok (.iconst 0, 1) := by decide +kernel
theorem dL_law_43 : decode cL_law 43 = .ok (.istore_n 2, 1) := by decide +kernel
theorem dL_law_44 : decode cL_law 44 = .ok (.bipush 6, 2) := by decide +kernel
theorem dL_law_46 : decode cL_law 46 = .ok (.aload_n 0, 1) := by decide +kernel
theorem dL_law_47 : decode cL_law 47 = .ok (.iconst 0, 1) := by decide +kernel
theorem dL_law_48 : decode cL_law 48 = .ok (.invokestatic 79, 3) := by decide +kernel
theorem dL_law_51 : decode cL_law 51 = .ok (.bipush 55, 2) := by decide +kernel
theorem dL_law_53 : decode cL_law 53 = .ok (.invokestatic 83, 3) := by decide +kernel
theorem dL_law_56 : decode cL_law 56 = .ok (.iadd, 1) := by decide +kernel
theorem dL_law_57 : decode cL_law 57 = .ok (.istore_n 3, 1) := by decide +kernel
theorem dL_law_58 : decode cL_law 58 = .ok (.iconst 0, 1) := by decide +kernel
theorem dL_law_59 : decode cL_law 59 = .ok (.istore 4, 2) := by decide +kernel
theorem dL_law_61 : decode cL_law 61 = .ok (.iload 4, 2) := by decide +kernel
theorem dL_law_63 : decode cL_law 63 = .ok (.iload_n 3, 1) := by decide +kernel
theorem dL_law_64 : decode cL_law 64 = .ok (.if_icmp .ge 615, 3) := by decide +kernel
theorem dL_law_67 : decode cL_law 67 = .ok (.iload_n 2, 1) := by decide +kernel
theorem dL_law_68 : decode cL_law 68 = .ok (.ifCond .eq 611, 3) := by decide +kernel
theorem dL_law_71 : decode cL_law 71 = .ok (.aload_n 0, 1) := by decide +kernel
theorem dL_law_72 : decode cL_law 72 = .ok (.iconst 1, 1) := by decide +kernel
theorem dL_law_73 : decode cL_law 73 = .ok (.iload 4, 2) := by decide +kernel
theorem dL_law_75 : decode cL_law 75 = .ok (.iadd, 1) := by decide +kernel
theorem dL_law_76 : decode cL_law 76 = .ok (.invokestatic 79, 3) := by decide +kernel
theorem dL_law_79 : decode cL_law 79 = .ok (.istore 5, 2) := by decide +kernel
theorem dL_law_81 : decode cL_law 81 = .ok (.aload_n 1, 1) := by decide +kernel
theorem dL_law_82 : decode cL_law 82 = .ok (.invokevirtual 38, 3) := by decide +kernel
theorem dL_law_85 : decode cL_law 85 = .ok (.istore 6, 2) := by decide +kernel
theorem dL_law_87 : decode cL_law 87 = .ok (.iload 6, 2) := by decide +kernel
theorem dL_law_89 : decode cL_law 89 = .ok (.ifCond .ne 7, 3) := by decide +kernel
theorem dL_law_92 : decode cL_law 92 = .ok (.iconst 0, 1) := by decide +kernel
theorem dL_law_93 : decode cL_law 93 = .ok (.goto 12, 3) := by decide +kernel
theorem dL_law_96 : decode cL_law 96 = .ok (.iload 5, 2) := by decide +kernel
theorem dL_law_98 : decode cL_law 98 = .ok (.iconst 3, 1) := by decide +kernel
theorem dL_law_99 : decode cL_law 99 = .ok (.ishr, 1) := by decide +kernel
theorem dL_law_100 : decode cL_law 100 = .ok (.iload 6, 2) := by decide +kernel
theorem dL_law_102 : decode cL_law 102 = .ok (.invokestatic 83, 3) := by decide +kernel
theorem dL_law_105 : decode cL_law 105 = .ok (.istore 7, 2) := by decide +kernel
theorem dL_law_107 : decode cL_law 107 = .ok (.iload 5, 2) := by decide +kernel
theorem dL_law_109 : decode cL_law 109 = .ok (.bipush 20, 2) := by decide +kernel
theorem dL_law_111 : decode cL_law 111 = .ok (.ishr, 1) := by decide +kernel
theorem dL_law_112 : decode cL_law 112 = .ok (.bipush 14, 2) := by decide +kernel
theorem dL_law_114 : decode cL_law 114 = .ok (.invokestatic 83, 3) := by decide +kernel
theorem dL_law_117 : decode cL_law 117 = .ok (.istore 8, 2) := by decide +kernel
theorem dL_law_119 : decode cL_law 119 = .ok (.iload 6, 2) := by decide +kernel
theorem dL_law_121 : decode cL_law 121 = .ok (.ifCond .eq 9, 3) := by decide +kernel
theorem dL_law_124 : decode cL_law 124 = .ok (.iload 8, 2) := by decide +kernel
theorem dL_law_126 : decode cL_law 126 = .ok (.iconst 4, 1) := by decide +kernel
theorem dL_law_127 : decode cL_law 127 = .ok (.if_icmp .ge 130, 3) := by decide +kernel
theorem dL_law_130 : decode cL_law 130 = .ok (.aload_n 1, 1) := by decide +kernel
theorem dL_law_131 : decode cL_law 131 = .ok (.iconst 2, 1) := by decide +kernel
theorem dL_law_132 : decode cL_law 132 = .ok (.iload 5, 2) := by decide +kernel
theorem dL_law_134 : decode cL_law 134 = .ok (.iconst 5, 1) := by decide +kernel
theorem dL_law_135 : decode cL_law 135 = .ok (.ishr, 1) := by decide +kernel
theorem dL_law_136 : decode cL_law 136 = .ok (.iload 5, 2) := by decide +kernel
theorem dL_law_138 : decode cL_law 138 = .ok (.bipush 17, 2) := by decide +kernel
theorem dL_law_140 : decode cL_law 140 = .ok (.ishr, 1) := by decide +kernel
theorem dL_law_141 : decode cL_law 141 = .ok (.iconst 2, 1) := by decide +kernel
theorem dL_law_142 : decode cL_law 142 = .ok (.invokestatic 83, 3) := by decide +kernel
theorem dL_law_145 : decode cL_law 145 = .ok (.ifCond .ne 8, 3) := by decide +kernel
theorem dL_law_148 : decode cL_law 148 = .ok (.bipush 19, 2) := by decide +kernel
theorem dL_law_150 : decode cL_law 150 = .ok (.goto 4, 3) := by decide +kernel
theorem dL_law_153 : decode cL_law 153 = .ok (.iconst 4, 1) := by decide +kernel
theorem dL_law_154 : decode cL_law 154 = .ok (.invokestatic 83, 3) := by decide +kernel
theorem dL_law_157 : decode cL_law 157 = .ok (.iadd, 1) := by decide +kernel
theorem dL_law_158 : decode cL_law 158 = .ok (.iconst 1, 1) := by decide +kernel
theorem dL_law_159 : decode cL_law 159 = .ok (.iload 5, 2) := by decide +kernel
theorem dL_law_161 : decode cL_law 161 = .ok (.sipush 1000, 3) := by decide +kernel
theorem dL_law_164 : decode cL_law 164 = .ok (.invokestatic 83, 3) := by decide +kernel
theorem dL_law_167 : decode cL_law 167 = .ok (.iadd, 1) := by decide +kernel
theorem dL_law_168 : decode cL_law 168 = .ok (.iload 5, 2) := by decide +kernel
theorem dL_law_170 : decode cL_law 170 = .ok (.bipush 7, 2) := by decide +kernel
theorem dL_law_172 : decode cL_law 172 = .ok (.ishr, 1) := by decide +kernel
theorem dL_law_173 : decode cL_law 173 = .ok (.iload 5, 2) := by decide +kernel
theorem dL_law_175 : decode cL_law 175 = .ok (.bipush 18, 2) := by decide +kernel
theorem dL_law_177 : decode cL_law 177 = .ok (.ishr, 1) := by decide +kernel
theorem dL_law_178 : decode cL_law 178 = .ok (.iconst 2, 1) := by decide +kernel
theorem dL_law_179 : decode cL_law 179 = .ok (.invokestatic 83, 3) := by decide +kernel
theorem dL_law_182 : decode cL_law 182 = .ok (.ifCond .ne 8, 3) := by decide +kernel
theorem dL_law_185 : decode cL_law 185 = .ok (.ldc 86, 2) := by decide +kernel
theorem dL_law_187 : decode cL_law 187 = .ok (.goto 6, 3) := by decide +kernel
theorem dL_law_190 : decode cL_law 190 = .ok (.sipush 2000, 3) := by decide +kernel
theorem dL_law_193 : decode cL_law 193 = .ok (.invokestatic 83, 3) := by decide +kernel
theorem dL_law_196 : decode cL_law 196 = .ok (.invokestatic 87, 3) := by decide +kernel
theorem dL_law_199 : decode cL_law 199 = .ok (.istore 9, 2) := by decide +kernel
theorem dL_law_201 : decode cL_law 201 = .ok (.iload 9, 2) := by decide +kernel
theorem dL_law_203 : decode cL_law 203 = .ok (.bipush (-3), 2) := by decide +kernel
theorem dL_law_205 : decode cL_law 205 = .ok (.if_icmp .ne 18, 3) := by decide +kernel
theorem dL_law_208 : decode cL_law 208 = .ok (.iload 6, 2) := by decide +kernel
theorem dL_law_210 : decode cL_law 210 = .ok (.bipush 30, 2) := by decide +kernel
theorem dL_law_212 : decode cL_law 212 = .ok (.if_icmp .ne 7, 3) := by decide +kernel
theorem dL_law_215 : decode cL_law 215 = .ok (.iconst 1, 1) := by decide +kernel
theorem dL_law_216 : decode cL_law 216 = .ok (.goto 37, 3) := by decide +kernel
theorem dL_law_219 : decode cL_law 219 = .ok (.iconst 0, 1) := by decide +kernel
theorem dL_law_220 : decode cL_law 220 = .ok (.goto 33, 3) := by decide +kernel
theorem dL_law_223 : decode cL_law 223 = .ok (.iload 9, 2) := by decide +kernel
theorem dL_law_225 : decode cL_law 225 = .ok (.iload 6, 2) := by decide +kernel
theorem dL_law_227 : decode cL_law 227 = .ok (.if_icmp .ne 25, 3) := by decide +kernel
theorem dL_law_230 : decode cL_law 230 = .ok (.aload_n 1, 1) := by decide +kernel
theorem dL_law_231 : decode cL_law 231 = .ok (.iload 9, 2) := by decide +kernel
theorem dL_law_233 : decode cL_law 233 = .ok (.invokevirtual 41, 3) := by decide +kernel
theorem dL_law_236 : decode cL_law 236 = .ok (.ifCond .ne 16, 3) := by decide +kernel
theorem dL_law_239 : decode cL_law 239 = .ok (.aload_n 1, 1) := by decide +kernel
theorem dL_law_240 : decode cL_law 240 = .ok (.iload 9, 2) := by decide +kernel
theorem dL_law_242 : decode cL_law 242 = .ok (.invokevirtual 44, 3) := by decide +kernel
theorem dL_law_245 : decode cL_law 245 = .ok (.ifCond .ne 7, 3) := by decide +kernel
theorem dL_law_248 : decode cL_law 248 = .ok (.iconst 1, 1) := by decide +kernel
theorem dL_law_249 : decode cL_law 249 = .ok (.goto 4, 3) := by decide +kernel
theorem dL_law_252 : decode cL_law 252 = .ok (.iconst 0, 1) := by decide +kernel
theorem dL_law_253 : decode cL_law 253 = .ok (.istore_n 2, 1) := by decide +kernel
theorem dL_law_254 : decode cL_law 254 = .ok (.goto 387, 3) := by decide +kernel
theorem dL_law_257 : decode cL_law 257 = .ok (.iload 8, 2) := by decide +kernel
theorem dL_law_259 : decode cL_law 259 = .ok (.iconst 5, 1) := by decide +kernel
theorem dL_law_260 : decode cL_law 260 = .ok (.if_icmp .ge 88, 3) := by decide +kernel
theorem dL_law_263 : decode cL_law 263 = .ok (.aload_n 1, 1) := by decide +kernel
theorem dL_law_264 : decode cL_law 264 = .ok (.iload 7, 2) := by decide +kernel
theorem dL_law_266 : decode cL_law 266 = .ok (.invokestatic 90, 3) := by decide +kernel
theorem dL_law_269 : decode cL_law 269 = .ok (.istore 9, 2) := by decide +kernel
theorem dL_law_271 : decode cL_law 271 = .ok (.aload_n 1, 1) := by decide +kernel
theorem dL_law_272 : decode cL_law 272 = .ok (.invokevirtual 27, 3) := by decide +kernel
theorem dL_law_275 : decode cL_law 275 = .ok (.lstore 10, 2) := by decide +kernel
theorem dL_law_277 : decode cL_law 277 = .ok (.aload_n 1, 1) := by decide +kernel
theorem dL_law_278 : decode cL_law 278 = .ok (.iload 7, 2) := by decide +kernel
theorem dL_law_280 : decode cL_law 280 = .ok (.invokestatic 93, 3) := by decide +kernel
theorem dL_law_283 : decode cL_law 283 = .ok (.istore 12, 2) := by decide +kernel
theorem dL_law_285 : decode cL_law 285 = .ok (.iload 12, 2) := by decide +kernel
theorem dL_law_287 : decode cL_law 287 = .ok (.iload 9, 2) := by decide +kernel
theorem dL_law_289 : decode cL_law 289 = .ok (.if_icmp .ne 54, 3) := by decide +kernel
theorem dL_law_292 : decode cL_law 292 = .ok (.iload 12, 2) := by decide +kernel
theorem dL_law_294 : decode cL_law 294 = .ok (.bipush (-3), 2) := by decide +kernel
theorem dL_law_296 : decode cL_law 296 = .ok (.if_icmp .eq 43, 3) := by decide +kernel
theorem dL_law_299 : decode cL_law 299 = .ok (.iload 12, 2) := by decide +kernel
theorem dL_law_301 : decode cL_law 301 = .ok (.ifCond .lt 42, 3) := by decide +kernel
theorem dL_law_304 : decode cL_law 304 = .ok (.aload_n 1, 1) := by decide +kernel
theorem dL_law_305 : decode cL_law 305 = .ok (.iload 7, 2) := by decide +kernel
theorem dL_law_307 : decode cL_law 307 = .ok (.invokevirtual 50, 3) := by decide +kernel
theorem dL_law_310 : decode cL_law 310 = .ok (.iload 12, 2) := by decide +kernel
theorem dL_law_312 : decode cL_law 312 = .ok (.if_icmp .ne 31, 3) := by decide +kernel
theorem dL_law_315 : decode cL_law 315 = .ok (.aload_n 1, 1) := by decide +kernel
theorem dL_law_316 : decode cL_law 316 = .ok (.iload 7, 2) := by decide +kernel
theorem dL_law_318 : decode cL_law 318 = .ok (.invokevirtual 41, 3) := by decide +kernel
theorem dL_law_321 : decode cL_law 321 = .ok (.iconst 2, 1) := by decide +kernel
theorem dL_law_322 : decode cL_law 322 = .ok (.if_icmp .ne 21, 3) := by decide +kernel
theorem dL_law_325 : decode cL_law 325 = .ok (.aload_n 1, 1) := by decide +kernel
theorem dL_law_326 : decode cL_law 326 = .ok (.invokevirtual 27, 3) := by decide +kernel
theorem dL_law_329 : decode cL_law 329 = .ok (.lload 10, 2) := by decide +kernel
theorem dL_law_331 : decode cL_law 331 = .ok (.iload 12, 2) := by decide +kernel
theorem dL_law_333 : decode cL_law 333 = .ok (.i2l, 1) := by decide +kernel
theorem dL_law_334 : decode cL_law 334 = .ok (.lsub, 1) := by decide +kernel
theorem dL_law_335 : decode cL_law 335 = .ok (.lcmp, 1) := by decide +kernel
theorem dL_law_336 : decode cL_law 336 = .ok (.ifCond .ne 7, 3) := by decide +kernel
theorem dL_law_339 : decode cL_law 339 = .ok (.iconst 1, 1) := by decide +kernel
theorem dL_law_340 : decode cL_law 340 = .ok (.goto 4, 3) := by decide +kernel
theorem dL_law_343 : decode cL_law 343 = .ok (.iconst 0, 1) := by decide +kernel
theorem dL_law_344 : decode cL_law 344 = .ok (.istore_n 2, 1) := by decide +kernel
theorem dL_law_345 : decode cL_law 345 = .ok (.goto 296, 3) := by decide +kernel
theorem dL_law_348 : decode cL_law 348 = .ok (.iload 8, 2) := by decide +kernel
theorem dL_law_350 : decode cL_law 350 = .ok (.bipush 6, 2) := by decide +kernel
theorem dL_law_352 : decode cL_law 352 = .ok (.if_icmp .ge 60, 3) := by decide +kernel
theorem dL_law_355 : decode cL_law 355 = .ok (.iload 5, 2) := by decide +kernel
theorem dL_law_357 : decode cL_law 357 = .ok (.sipush 201, 3) := by decide +kernel
theorem dL_law_360 : decode cL_law 360 = .ok (.invokestatic 83, 3) := by decide +kernel
theorem dL_law_363 : decode cL_law 363 = .ok (.istore 9, 2) := by decide +kernel
theorem dL_law_365 : decode cL_law 365 = .ok (.aload_n 1, 1) := by decide +kernel
theorem dL_law_366 : decode cL_law 366 = .ok (.iload 9, 2) := by decide +kernel
theorem dL_law_368 : decode cL_law 368 = .ok (.iload 5, 2) := by decide +kernel
theorem dL_law_370 : decode cL_law 370 = .ok (.bipush 8, 2) := by decide +kernel
theorem dL_law_372 : decode cL_law 372 = .ok (.ishr, 1) := by decide +kernel
theorem dL_law_373 : decode cL_law 373 = .ok (.bipush 101, 2) := by decide +kernel
theorem dL_law_375 : decode cL_law 375 = .ok (.invokestatic 83, 3) := by decide +kernel
theorem dL_law_378 : decode cL_law 378 = .ok (.invokevirtual 95, 3) := by decide +kernel
theorem dL_law_381 : decode cL_law 381 = .ok (.pop, 1) := by decide +kernel
theorem dL_law_382 : decode cL_law 382 = .ok (.aload_n 1, 1) := by decide +kernel
theorem dL_law_383 : decode cL_law 383 = .ok (.iload 9, 2) := by decide +kernel
theorem dL_law_385 : decode cL_law 385 = .ok (.iload 5, 2) := by decide +kernel
theorem dL_law_387 : decode cL_law 387 = .ok (.bipush 8, 2) := by decide +kernel
theorem dL_law_389 : decode cL_law 389 = .ok (.ishr, 1) := by decide +kernel
theorem dL_law_390 : decode cL_law 390 = .ok (.bipush 101, 2) := by decide +kernel
theorem dL_law_392 : decode cL_law 392 = .ok (.invokestatic 83, 3) := by decide +kernel
theorem dL_law_395 : decode cL_law 395 = .ok (.invokevirtual 95, 3) := by decide +kernel
theorem dL_law_398 : decode cL_law 398 = .ok (.iload 9, 2) := by decide +kernel
theorem dL_law_400 : decode cL_law 400 = .ok (.if_icmp .ne 7, 3) := by decide +kernel
theorem dL_law_403 : decode cL_law 403 = .ok (.iconst 1, 1) := by decide +kernel
theorem dL_law_404 : decode cL_law 404 = .ok (.goto 4, 3) := by decide +kernel
theorem dL_law_407 : decode cL_law 407 = .ok (.iconst 0, 1) := by decide +kernel
theorem dL_law_408 : decode cL_law 408 = .ok (.istore_n 2, 1) := by decide +kernel
theorem dL_law_409 : decode cL_law 409 = .ok (.goto 232, 3) := by decide +kernel
theorem dL_law_412 : decode cL_law 412 = .ok (.iload 8, 2) := by decide +kernel
theorem dL_law_414 : decode cL_law 414 = .ok (.bipush 7, 2) := by decide +kernel
theorem dL_law_416 : decode cL_law 416 = .ok (.if_icmp .ge 86, 3) := by decide +kernel
theorem dL_law_419 : decode cL_law 419 = .ok (.sipush 500, 3) := by decide +kernel
theorem dL_law_422 : decode cL_law 422 = .ok (.iload 5, 2) := by decide +kernel
theorem dL_law_424 : decode cL_law 424 = .ok (.sipush 1001, 3) := by decide +kernel
theorem dL_law_427 : decode cL_law 427 = .ok (.invokestatic 83, 3) := by decide +kernel
theorem dL_law_430 : decode cL_law 430 = .ok (.iadd, 1) := by decide +kernel
theorem dL_law_431 : decode cL_law 431 = .ok (.istore 9, 2) := by decide +kernel
theorem dL_law_433 : decode cL_law 433 = .ok (.aload_n 1, 1) := by decide +kernel
theorem dL_law_434 : decode cL_law 434 = .ok (.iload 9, 2) := by decide +kernel
theorem dL_law_436 : decode cL_law 436 = .ok (.iload 5, 2) := by decide +kernel
theorem dL_law_438 : decode cL_law 438 = .ok (.iconst 5, 1) := by decide +kernel
theorem dL_law_439 : decode cL_law 439 = .ok (.ishr, 1) := by decide +kernel
theorem dL_law_440 : decode cL_law 440 = .ok (.sipush 1001, 3) := by decide +kernel
theorem dL_law_443 : decode cL_law 443 = .ok (.invokestatic 83, 3) := by decide +kernel
theorem dL_law_446 : decode cL_law 446 = .ok (.iload 5, 2) := by decide +kernel
theorem dL_law_448 : decode cL_law 448 = .ok (.bipush 9, 2) := by decide +kernel
theorem dL_law_450 : decode cL_law 450 = .ok (.ishr, 1) := by decide +kernel
theorem dL_law_451 : decode cL_law 451 = .ok (.sipush 1001, 3) := by decide +kernel
theorem dL_law_454 : decode cL_law 454 = .ok (.invokestatic 83, 3) := by decide +kernel
theorem dL_law_457 : decode cL_law 457 = .ok (.invokevirtual 98, 3) := by decide +kernel
theorem dL_law_460 : decode cL_law 460 = .ok (.pop, 1) := by decide +kernel
theorem dL_law_461 : decode cL_law 461 = .ok (.aload_n 1, 1) := by decide +kernel
theorem dL_law_462 : decode cL_law 462 = .ok (.iload 9, 2) := by decide +kernel
theorem dL_law_464 : decode cL_law 464 = .ok (.iload 5, 2) := by decide +kernel
theorem dL_law_466 : decode cL_law 466 = .ok (.iconst 5, 1) := by decide +kernel
theorem dL_law_467 : decode cL_law 467 = .ok (.ishr, 1) := by decide +kernel
theorem dL_law_468 : decode cL_law 468 = .ok (.sipush 1001, 3) := by decide +kernel
theorem dL_law_471 : decode cL_law 471 = .ok (.invokestatic 83, 3) := by decide +kernel
theorem dL_law_474 : decode cL_law 474 = .ok (.iload 5, 2) := by decide +kernel
theorem dL_law_476 : decode cL_law 476 = .ok (.bipush 9, 2) := by decide +kernel
theorem dL_law_478 : decode cL_law 478 = .ok (.ishr, 1) := by decide +kernel
theorem dL_law_479 : decode cL_law 479 = .ok (.sipush 1001, 3) := by decide +kernel
theorem dL_law_482 : decode cL_law 482 = .ok (.invokestatic 83, 3) := by decide +kernel
theorem dL_law_485 : decode cL_law 485 = .ok (.invokevirtual 98, 3) := by decide +kernel
theorem dL_law_488 : decode cL_law 488 = .ok (.iload 9, 2) := by decide +kernel
theorem dL_law_490 : decode cL_law 490 = .ok (.if_icmp .ne 7, 3) := by decide +kernel
theorem dL_law_493 : decode cL_law 493 = .ok (.iconst 1, 1) := by decide +kernel
theorem dL_law_494 : decode cL_law 494 = .ok (.goto 4, 3) := by decide +kernel
theorem dL_law_497 : decode cL_law 497 = .ok (.iconst 0, 1) := by decide +kernel
theorem dL_law_498 : decode cL_law 498 = .ok (.istore_n 2, 1) := by decide +kernel
theorem dL_law_499 : decode cL_law 499 = .ok (.goto 142, 3) := by decide +kernel
theorem dL_law_502 : decode cL_law 502 = .ok (.iload 8, 2) := by decide +kernel
theorem dL_law_504 : decode cL_law 504 = .ok (.bipush 8, 2) := by decide +kernel
theorem dL_law_506 : decode cL_law 506 = .ok (.if_icmp .ge 60, 3) := by decide +kernel
theorem dL_law_509 : decode cL_law 509 = .ok (.aload_n 1, 1) := by decide +kernel
theorem dL_law_510 : decode cL_law 510 = .ok (.invokevirtual 56, 3) := by decide +kernel
theorem dL_law_513 : decode cL_law 513 = .ok (.lstore 9, 2) := by decide +kernel
theorem dL_law_515 : decode cL_law 515 = .ok (.iload 5, 2) := by decide +kernel
theorem dL_law_517 : decode cL_law 517 = .ok (.ldc 101, 2) := by decide +kernel
theorem dL_law_519 : decode cL_law 519 = .ok (.invokestatic 83, 3) := by decide +kernel
theorem dL_law_522 : decode cL_law 522 = .ok (.ldc 102, 2) := by decide +kernel
theorem dL_law_524 : decode cL_law 524 = .ok (.isub, 1) := by decide +kernel
theorem dL_law_525 : decode cL_law 525 = .ok (.istore 11, 2) := by decide +kernel
theorem dL_law_527 : decode cL_law 527 = .ok (.aload_n 1, 1) := by decide +kernel
theorem dL_law_528 : decode cL_law 528 = .ok (.iload 11, 2) := by decide +kernel
theorem dL_law_530 : decode cL_law 530 = .ok (.invokevirtual 103, 3) := by decide +kernel
theorem dL_law_533 : decode cL_law 533 = .ok (.lload 9, 2) := by decide +kernel
theorem dL_law_535 : decode cL_law 535 = .ok (.iload 11, 2) := by decide +kernel
theorem dL_law_537 : decode cL_law 537 = .ok (.i2l, 1) := by decide +kernel
theorem dL_law_538 : decode cL_law 538 = .ok (.ladd, 1) := by decide +kernel
theorem dL_law_539 : decode cL_law 539 = .ok (.lcmp, 1) := by decide +kernel
theorem dL_law_540 : decode cL_law 540 = .ok (.ifCond .ne 21, 3) := by decide +kernel
theorem dL_law_543 : decode cL_law 543 = .ok (.aload_n 1, 1) := by decide +kernel
theorem dL_law_544 : decode cL_law 544 = .ok (.invokevirtual 56, 3) := by decide +kernel
theorem dL_law_547 : decode cL_law 547 = .ok (.lload 9, 2) := by decide +kernel
theorem dL_law_549 : decode cL_law 549 = .ok (.iload 11, 2) := by decide +kernel
theorem dL_law_551 : decode cL_law 551 = .ok (.i2l, 1) := by decide +kernel
theorem dL_law_552 : decode cL_law 552 = .ok (.ladd, 1) := by decide +kernel
theorem dL_law_553 : decode cL_law 553 = .ok (.lcmp, 1) := by decide +kernel
theorem dL_law_554 : decode cL_law 554 = .ok (.ifCond .ne 7, 3) := by decide +kernel
theorem dL_law_557 : decode cL_law 557 = .ok (.iconst 1, 1) := by decide +kernel
theorem dL_law_558 : decode cL_law 558 = .ok (.goto 4, 3) := by decide +kernel
theorem dL_law_561 : decode cL_law 561 = .ok (.iconst 0, 1) := by decide +kernel
theorem dL_law_562 : decode cL_law 562 = .ok (.istore_n 2, 1) := by decide +kernel
theorem dL_law_563 : decode cL_law 563 = .ok (.goto 78, 3) := by decide +kernel
theorem dL_law_566 : decode cL_law 566 = .ok (.aload_n 1, 1) := by decide +kernel
theorem dL_law_567 : decode cL_law 567 = .ok (.invokevirtual 73, 3) := by decide +kernel
theorem dL_law_570 : decode cL_law 570 = .ok (.istore 9, 2) := by decide +kernel
theorem dL_law_572 : decode cL_law 572 = .ok (.aload_n 1, 1) := by decide +kernel
theorem dL_law_573 : decode cL_law 573 = .ok (.iload 5, 2) := by decide +kernel
theorem dL_law_575 : decode cL_law 575 = .ok (.sipush 401, 3) := by decide +kernel
theorem dL_law_578 : decode cL_law 578 = .ok (.invokestatic 83, 3) := by decide +kernel
theorem dL_law_581 : decode cL_law 581 = .ok (.sipush 200, 3) := by decide +kernel
theorem dL_law_584 : decode cL_law 584 = .ok (.isub, 1) := by decide +kernel
theorem dL_law_585 : decode cL_law 585 = .ok (.invokestatic 107, 3) := by decide +kernel
theorem dL_law_588 : decode cL_law 588 = .ok (.istore 10, 2) := by decide +kernel
theorem dL_law_590 : decode cL_law 590 = .ok (.iload 10, 2) := by decide +kernel
theorem dL_law_592 : decode cL_law 592 = .ok (.bipush (-3), 2) := by decide +kernel
theorem dL_law_594 : decode cL_law 594 = .ok (.if_icmp .ne 18, 3) := by decide +kernel
theorem dL_law_597 : decode cL_law 597 = .ok (.iload 9, 2) := by decide +kernel
theorem dL_law_599 : decode cL_law 599 = .ok (.bipush 40, 2) := by decide +kernel
theorem dL_law_601 : decode cL_law 601 = .ok (.if_icmp .ne 7, 3) := by decide +kernel
theorem dL_law_604 : decode cL_law 604 = .ok (.iconst 1, 1) := by decide +kernel
theorem dL_law_605 : decode cL_law 605 = .ok (.goto 35, 3) := by decide +kernel
theorem dL_law_608 : decode cL_law 608 = .ok (.iconst 0, 1) := by decide +kernel
theorem dL_law_609 : decode cL_law 609 = .ok (.goto 31, 3) := by decide +kernel
theorem dL_law_612 : decode cL_law 612 = .ok (.iload 10, 2) := by decide +kernel
theorem dL_law_614 : decode cL_law 614 = .ok (.ifCond .lt 25, 3) := by decide +kernel
theorem dL_law_617 : decode cL_law 617 = .ok (.iload 10, 2) := by decide +kernel
theorem dL_law_619 : decode cL_law 619 = .ok (.iload 6, 2) := by decide +kernel
theorem dL_law_621 : decode cL_law 621 = .ok (.if_icmp .gt 18, 3) := by decide +kernel
theorem dL_law_624 : decode cL_law 624 = .ok (.aload_n 1, 1) := by decide +kernel
theorem dL_law_625 : decode cL_law 625 = .ok (.invokevirtual 73, 3) := by decide +kernel
theorem dL_law_628 : decode cL_law 628 = .ok (.iload 9, 2) := by decide +kernel
theorem dL_law_630 : decode cL_law 630 = .ok (.iconst 1, 1) := by decide +kernel
theorem dL_law_631 : decode cL_law 631 = .ok (.iadd, 1) := by decide +kernel
theorem dL_law_632 : decode cL_law 632 = .ok (.if_icmp .ne 7, 3) := by decide +kernel
theorem dL_law_635 : decode cL_law 635 = .ok (.iconst 1, 1) := by decide +kernel
theorem dL_law_636 : decode cL_law 636 = .ok (.goto 4, 3) := by decide +kernel
theorem dL_law_639 : decode cL_law 639 = .ok (.iconst 0, 1) := by decide +kernel
theorem dL_law_640 : decode cL_law 640 = .ok (.istore_n 2, 1) := by decide +kernel
theorem dL_law_641 : decode cL_law 641 = .ok (.iload_n 2, 1) := by decide +kernel
theorem dL_law_642 : decode cL_law 642 = .ok (.ifCond .eq 29, 3) := by decide +kernel
theorem dL_law_645 : decode cL_law 645 = .ok (.aload_n 1, 1) := by decide +kernel
theorem dL_law_646 : decode cL_law 646 = .ok (.invokestatic 64, 3) := by decide +kernel
theorem dL_law_649 : decode cL_law 649 = .ok (.ifCond .eq 22, 3) := by decide +kernel
theorem dL_law_652 : decode cL_law 652 = .ok (.iload 4, 2) := by decide +kernel
theorem dL_law_654 : decode cL_law 654 = .ok (.bipush 6, 2) := by decide +kernel
theorem dL_law_656 : decode cL_law 656 = .ok (.irem, 1) := by decide +kernel
theorem dL_law_657 : decode cL_law 657 = .ok (.ifCond .gt 10, 3) := by decide +kernel
theorem dL_law_660 : decode cL_law 660 = .ok (.aload_n 1, 1) := by decide +kernel
theorem dL_law_661 : decode cL_law 661 = .ok (.invokestatic 70, 3) := by decide +kernel
theorem dL_law_664 : decode cL_law 664 = .ok (.ifCond .eq 7, 3) := by decide +kernel
theorem dL_law_667 : decode cL_law 667 = .ok (.iconst 1, 1) := by decide +kernel
theorem dL_law_668 : decode cL_law 668 = .ok (.goto 4, 3) := by decide +kernel
theorem dL_law_671 : decode cL_law 671 = .ok (.iconst 0, 1) := by decide +kernel
theorem dL_law_672 : decode cL_law 672 = .ok (.istore_n 2, 1) := by decide +kernel
theorem dL_law_673 : decode cL_law 673 = .ok (.iinc 4 1, 3) := by decide +kernel
theorem dL_law_676 : decode cL_law 676 = .ok (.goto (-615), 3) := by decide +kernel
theorem dL_law_679 : decode cL_law 679 = .ok (.iload_n 2, 1) := by decide +kernel
theorem dL_law_680 : decode cL_law 680 = .ok (.ifCond .eq 14, 3) := by decide +kernel
theorem dL_law_683 : decode cL_law 683 = .ok (.aload_n 1, 1) := by decide +kernel
theorem dL_law_684 : decode cL_law 684 = .ok (.invokestatic 70, 3) := by decide +kernel
theorem dL_law_687 : decode cL_law 687 = .ok (.ifCond .eq 7, 3) := by decide +kernel
theorem dL_law_690 : decode cL_law 690 = .ok (.iconst 1, 1) := by decide +kernel
theorem dL_law_691 : decode cL_law 691 = .ok (.goto 4, 3) := by decide +kernel
theorem dL_law_694 : decode cL_law 694 = .ok (.iconst 0, 1) := by decide +kernel
theorem dL_law_695 : decode cL_law 695 = .ok (.ireturn, 1) := by decide +kernel
end
section
def WS : List Cond := lw_tbl.filter goodWord
theorem ws_in {w : Cond} (h : w ∈ lw_tbl) (g : goodWord w = true) : w ∈ WS := List.mem_filter.mpr ⟨h, g⟩
theorem ws_good {w : Cond} (h : w ∈ WS) : (w.onTables && w.keeps) = true ∨ ∃ ty, w = .arrayClass ty := good_of_word (List.mem_filter.mp h).2
theorem ws_tbl {w : Cond} (h : w ∈ WS) : w ∈ lw_tbl := (List.mem_filter.mp h).1
theorem in_L : Cond.initialized RL ∈ WS := ws_in (List.mem_append_right _ (List.mem_of_getElem? (i := 0) (by decide +kernel))) (by decide +kernel)
theorem in_X3 : Cond.initialized RX3 ∈ WS := ws_in (List.mem_append_right _ (List.mem_of_getElem? (i := 1) (by decide +kernel))) (by decide +kernel)
theorem in_J9 : Cond.initialized RJ9 ∈ WS := ws_in (List.mem_append_right _ (List.mem_of_getElem? (i := 2) (by decide +kernel))) (by decide +kernel)
theorem in_Throwable : Cond.initialized "java/lang/Throwable" ∈ WS := ws_in (List.mem_append_right _ (List.mem_of_getElem? (i := 3) (by decide +kernel))) (by decide +kernel)
theorem in_Exception : Cond.initialized "java/lang/Exception" ∈ WS := ws_in (List.mem_append_right _ (List.mem_of_getElem? (i := 4) (by decide +kernel))) (by decide +kernel)
theorem in_RuntimeException : Cond.initialized "java/lang/RuntimeException" ∈ WS := ws_in (List.mem_append_right _ (List.mem_of_getElem? (i := 5) (by decide +kernel))) (by decide +kernel)
theorem in_IndexOutOfBoundsException : Cond.initialized "java/lang/IndexOutOfBoundsException" ∈ WS := ws_in (List.mem_append_right _ (List.mem_of_getElem? (i := 6) (by decide +kernel))) (by decide +kernel)
theorem in_IllegalArgumentException : Cond.initialized "java/lang/IllegalArgumentException" ∈ WS := ws_in (List.mem_append_right _ (List.mem_of_getElem? (i := 7) (by decide +kernel))) (by decide +kernel)
theorem in_IllegalStateException : Cond.initialized "java/lang/IllegalStateException" ∈ WS := ws_in (List.mem_append_right _ (List.mem_of_getElem? (i := 8) (by decide +kernel))) (by decide +kernel)
theorem in_X2 : Cond.initialized RX2 ∈ WS := ws_in (List.mem_append_right _ (List.mem_of_getElem? (i := 9) (by decide +kernel))) (by decide +kernel)
theorem in_X1 : Cond.initialized RX1 ∈ WS := ws_in (List.mem_append_right _ (List.mem_of_getElem? (i := 10) (by decide +kernel))) (by decide +kernel)
theorem in_X0 : Cond.initialized RX0 ∈ WS := ws_in (List.mem_append_right _ (List.mem_of_getElem? (i := 11) (by decide +kernel))) (by decide +kernel)
theorem cl_L_10 : Cond.classLink RL 10 RX3 ∈ WS := ws_in (List.mem_append_right _ (List.mem_of_getElem? (i := 12) (by decide +kernel))) (by decide +kernel)
theorem mk_X3 : Cond.instantiable RX3 14 ∈ WS := ws_in (List.mem_append_right _ (List.mem_of_getElem? (i := 13) (by decide +kernel))) (by decide +kernel)
theorem ml_L_63 : Cond.methodLink RL 63 yX3_init ∈ WS := ws_in (List.mem_append_right _ (List.mem_of_getElem? (i := 14) (by decide +kernel))) (by decide +kernel)
theorem im_yX3_init : Cond.instanceMethod yX3_init ∈ WS := ws_in (List.mem_append_right _ (List.mem_of_getElem? (i := 15) (by decide +kernel))) (by decide +kernel)
theorem co_yX3_init : Cond.code yX3_init cX3_init 2 (none : Option FieldType) ∈ WS := ws_in (List.mem_append_right _ (List.mem_of_getElem? (i := 16) (by decide +kernel))) (by decide +kernel)
theorem ml_X3_1 : Cond.methodLink RX3 1 objectInit ∈ WS := ws_in (List.mem_append_right _ (List.mem_of_getElem? (i := 17) (by decide +kernel))) (by decide +kernel)
theorem im_objectInit : Cond.instanceMethod objectInit ∈ WS := ws_in (List.mem_append_right _ (List.mem_of_getElem? (i := 18) (by decide +kernel))) (by decide +kernel)
theorem co_objectInit : Cond.code objectInit ⟨#[0xb1]⟩ 1 (none : Option FieldType) ∈ WS := ws_in (List.mem_append_right _ (List.mem_of_getElem? (i := 19) (by decide +kernel))) (by decide +kernel)
theorem cl_X3_9 : Cond.classLink RX3 9 RX2 ∈ WS := ws_in (List.mem_append_right _ (List.mem_of_getElem? (i := 20) (by decide +kernel))) (by decide +kernel)
theorem cl_X3_15 : Cond.classLink RX3 15 RX1 ∈ WS := ws_in (List.mem_append_right _ (List.mem_of_getElem? (i := 22) (by decide +kernel))) (by decide +kernel)
theorem kl_X3_28 : Cond.constantLong RX3 28 (-1) ∈ WS := ws_in (List.mem_append_right _ (List.mem_of_getElem? (i := 24) (by decide +kernel))) (by decide +kernel)
theorem fl_X3_11 : Cond.fieldLink RX3 11 "ProfitsOffice" "policies" "[LProfitsOffice$Policy;" ∈ WS := ws_in (List.mem_append_right _ (List.mem_of_getElem? (i := 25) (by decide +kernel))) (by decide +kernel)
theorem fl_X3_17 : Cond.fieldLink RX3 17 "ProfitsOffice" "generations" "[LProfitsOffice$Generation;" ∈ WS := ws_in (List.mem_append_right _ (List.mem_of_getElem? (i := 26) (by decide +kernel))) (by decide +kernel)
theorem fl_X3_21 : Cond.fieldLink RX3 21 "ProfitsOffice" "lastRatios" "[J" ∈ WS := ws_in (List.mem_append_right _ (List.mem_of_getElem? (i := 27) (by decide +kernel))) (by decide +kernel)
theorem fl_X3_25 : Cond.fieldLink RX3 25 "ProfitsOffice" "ratiosBefore" "[J" ∈ WS := ws_in (List.mem_append_right _ (List.mem_of_getElem? (i := 28) (by decide +kernel))) (by decide +kernel)
theorem fl_X3_62 : Cond.fieldLink RX3 62 "ProfitsOffice" "policyCount" "I" ∈ WS := ws_in (List.mem_append_right _ (List.mem_of_getElem? (i := 29) (by decide +kernel))) (by decide +kernel)
theorem fl_X3_205 : Cond.fieldLink RX3 205 "ProfitsOffice" "generationCount" "I" ∈ WS := ws_in (List.mem_append_right _ (List.mem_of_getElem? (i := 30) (by decide +kernel))) (by decide +kernel)
theorem fl_X3_110 : Cond.fieldLink RX3 110 "ProfitsOffice" "year" "I" ∈ WS := ws_in (List.mem_append_right _ (List.mem_of_getElem? (i := 31) (by decide +kernel))) (by decide +kernel)
theorem fl_X3_30 : Cond.fieldLink RX3 30 "ProfitsOffice" "bonusRate" "I" ∈ WS := ws_in (List.mem_append_right _ (List.mem_of_getElem? (i := 32) (by decide +kernel))) (by decide +kernel)
theorem fl_X3_34 : Cond.fieldLink RX3 34 "ProfitsOffice" "charge" "I" ∈ WS := ws_in (List.mem_append_right _ (List.mem_of_getElem? (i := 33) (by decide +kernel))) (by decide +kernel)
theorem fl_X3_37 : Cond.fieldLink RX3 37 "ProfitsOffice" "scale" "I" ∈ WS := ws_in (List.mem_append_right _ (List.mem_of_getElem? (i := 34) (by decide +kernel))) (by decide +kernel)
theorem fl_X3_40 : Cond.fieldLink RX3 40 "ProfitsOffice" "step" "I" ∈ WS := ws_in (List.mem_append_right _ (List.mem_of_getElem? (i := 35) (by decide +kernel))) (by decide +kernel)
theorem fl_X3_43 : Cond.fieldLink RX3 43 "ProfitsOffice" "floor" "I" ∈ WS := ws_in (List.mem_append_right _ (List.mem_of_getElem? (i := 36) (by decide +kernel))) (by decide +kernel)
theorem fl_X3_101 : Cond.fieldLink RX3 101 "ProfitsOffice" "estate" "J" ∈ WS := ws_in (List.mem_append_right _ (List.mem_of_getElem? (i := 37) (by decide +kernel))) (by decide +kernel)
theorem fl_X3_105 : Cond.fieldLink RX3 105 "ProfitsOffice" "assets" "J" ∈ WS := ws_in (List.mem_append_right _ (List.mem_of_getElem? (i := 38) (by decide +kernel))) (by decide +kernel)
theorem ac_long : Cond.arrayClass (.long) ∈ WS := ws_in (List.mem_append_right _ (List.mem_of_getElem? (i := 68) (by decide +kernel))) (by decide +kernel)
theorem ml_L_95 : Cond.methodLink RL 95 yX3_setRates ∈ WS := ws_in (List.mem_append_right _ (List.mem_of_getElem? (i := 69) (by decide +kernel))) (by decide +kernel)
theorem im_yX3_setRates : Cond.instanceMethod yX3_setRates ∈ WS := ws_in (List.mem_append_right _ (List.mem_of_getElem? (i := 70) (by decide +kernel))) (by decide +kernel)
theorem se_yX3_setRates : Cond.selects RX3 yX3_setRates yX3_setRates ∈ WS := ws_in (List.mem_append_right _ (List.mem_of_getElem? (i := 71) (by decide +kernel))) (by decide +kernel)
theorem co_yX3_setRates : Cond.code yX3_setRates cX3_setRates 4 (some .int) ∈ WS := ws_in (List.mem_append_right _ (List.mem_of_getElem? (i := 72) (by decide +kernel))) (by decide +kernel)
theorem ml_X3_50 : Cond.methodLink RX3 50 yX3_isWithin ∈ WS := ws_in (List.mem_append_right _ (List.mem_of_getElem? (i := 73) (by decide +kernel))) (by decide +kernel)
theorem sm_yX3_isWithin : Cond.static yX3_isWithin ∈ WS := ws_in (List.mem_append_right _ (List.mem_of_getElem? (i := 74) (by decide +kernel))) (by decide +kernel)
theorem co_yX3_isWithin : Cond.code yX3_isWithin cX3_isWithin 3 (some .boolean) ∈ WS := ws_in (List.mem_append_right _ (List.mem_of_getElem? (i := 75) (by decide +kernel))) (by decide +kernel)
theorem cl_X3_55 : Cond.classLink RX3 55 "java/lang/IllegalArgumentException" ∈ WS := ws_in (List.mem_append_right _ (List.mem_of_getElem? (i := 76) (by decide +kernel))) (by decide +kernel)
theorem ac_byte : Cond.arrayClass (.byte) ∈ WS := ws_in (List.mem_append_right _ (List.mem_of_getElem? (i := 143) (by decide +kernel))) (by decide +kernel)
theorem ml_L_98 : Cond.methodLink RL 98 yX3_setScale ∈ WS := ws_in (List.mem_append_right _ (List.mem_of_getElem? (i := 144) (by decide +kernel))) (by decide +kernel)
theorem im_yX3_setScale : Cond.instanceMethod yX3_setScale ∈ WS := ws_in (List.mem_append_right _ (List.mem_of_getElem? (i := 145) (by decide +kernel))) (by decide +kernel)
theorem se_yX3_setScale : Cond.selects RX3 yX3_setScale yX3_setScale ∈ WS := ws_in (List.mem_append_right _ (List.mem_of_getElem? (i := 146) (by decide +kernel))) (by decide +kernel)
theorem co_yX3_setScale : Cond.code yX3_setScale cX3_setScale 5 (some .int) ∈ WS := ws_in (List.mem_append_right _ (List.mem_of_getElem? (i := 147) (by decide +kernel))) (by decide +kernel)
theorem ml_L_103 : Cond.methodLink RL 103 yX3_endow ∈ WS := ws_in (List.mem_append_right _ (List.mem_of_getElem? (i := 149) (by decide +kernel))) (by decide +kernel)
theorem im_yX3_endow : Cond.instanceMethod yX3_endow ∈ WS := ws_in (List.mem_append_right _ (List.mem_of_getElem? (i := 150) (by decide +kernel))) (by decide +kernel)
theorem se_yX3_endow : Cond.selects RX3 yX3_endow yX3_endow ∈ WS := ws_in (List.mem_append_right _ (List.mem_of_getElem? (i := 151) (by decide +kernel))) (by decide +kernel)
theorem co_yX3_endow : Cond.code yX3_endow cX3_endow 2 (some .long) ∈ WS := ws_in (List.mem_append_right _ (List.mem_of_getElem? (i := 152) (by decide +kernel))) (by decide +kernel)
theorem ki_X3_97 : Cond.constant RX3 97 (-1000000) ∈ WS := ws_in (List.mem_append_right _ (List.mem_of_getElem? (i := 153) (by decide +kernel))) (by decide +kernel)
theorem ki_X3_98 : Cond.constant RX3 98 (1000000) ∈ WS := ws_in (List.mem_append_right _ (List.mem_of_getElem? (i := 154) (by decide +kernel))) (by decide +kernel)
theorem ml_L_73 : Cond.methodLink RL 73 yX3_year ∈ WS := ws_in (List.mem_append_right _ (List.mem_of_getElem? (i := 156) (by decide +kernel))) (by decide +kernel)
theorem im_yX3_year : Cond.instanceMethod yX3_year ∈ WS := ws_in (List.mem_append_right _ (List.mem_of_getElem? (i := 157) (by decide +kernel))) (by decide +kernel)
theorem se_yX3_year : Cond.selects RX3 yX3_year yX3_year ∈ WS := ws_in (List.mem_append_right _ (List.mem_of_getElem? (i := 158) (by decide +kernel))) (by decide +kernel)
theorem co_yX3_year : Cond.code yX3_year cX3_year 1 (some .int) ∈ WS := ws_in (List.mem_append_right _ (List.mem_of_getElem? (i := 159) (by decide +kernel))) (by decide +kernel)
theorem ml_L_38 : Cond.methodLink RL 38 yX3_policies ∈ WS := ws_in (List.mem_append_right _ (List.mem_of_getElem? (i := 160) (by decide +kernel))) (by decide +kernel)
theorem im_yX3_policies : Cond.instanceMethod yX3_policies ∈ WS := ws_in (List.mem_append_right _ (List.mem_of_getElem? (i := 161) (by decide +kernel))) (by decide +kernel)
theorem se_yX3_policies : Cond.selects RX3 yX3_policies yX3_policies ∈ WS := ws_in (List.mem_append_right _ (List.mem_of_getElem? (i := 162) (by decide +kernel))) (by decide +kernel)
theorem co_yX3_policies : Cond.code yX3_policies cX3_policies 1 (some .int) ∈ WS := ws_in (List.mem_append_right _ (List.mem_of_getElem? (i := 163) (by decide +kernel))) (by decide +kernel)
theorem ml_L_41 : Cond.methodLink RL 41 yX3_stateOf ∈ WS := ws_in (List.mem_append_right _ (List.mem_of_getElem? (i := 164) (by decide +kernel))) (by decide +kernel)
theorem im_yX3_stateOf : Cond.instanceMethod yX3_stateOf ∈ WS := ws_in (List.mem_append_right _ (List.mem_of_getElem? (i := 165) (by decide +kernel))) (by decide +kernel)
theorem se_yX3_stateOf : Cond.selects RX3 yX3_stateOf yX3_stateOf ∈ WS := ws_in (List.mem_append_right _ (List.mem_of_getElem? (i := 166) (by decide +kernel))) (by decide +kernel)
theorem co_yX3_stateOf : Cond.code yX3_stateOf cX3_stateOf 2 (some .int) ∈ WS := ws_in (List.mem_append_right _ (List.mem_of_getElem? (i := 167) (by decide +kernel))) (by decide +kernel)
theorem ml_X3_77 : Cond.methodLink RX3 77 yX3_knownPolicy ∈ WS := ws_in (List.mem_append_right _ (List.mem_of_getElem? (i := 168) (by decide +kernel))) (by decide +kernel)
theorem im_yX3_knownPolicy : Cond.instanceMethod yX3_knownPolicy ∈ WS := ws_in (List.mem_append_right _ (List.mem_of_getElem? (i := 170) (by decide +kernel))) (by decide +kernel)
theorem co_yX3_knownPolicy : Cond.code yX3_knownPolicy cX3_knownPolicy 3 (some (.object "ProfitsOffice$Policy")) ∈ WS := ws_in (List.mem_append_right _ (List.mem_of_getElem? (i := 171) (by decide +kernel))) (by decide +kernel)
theorem cl_X3_181 : Cond.classLink RX3 181 "java/lang/IndexOutOfBoundsException" ∈ WS := ws_in (List.mem_append_right _ (List.mem_of_getElem? (i := 172) (by decide +kernel))) (by decide +kernel)
theorem ml_L_44 : Cond.methodLink RL 44 yX3_shareOf ∈ WS := ws_in (List.mem_append_right _ (List.mem_of_getElem? (i := 188) (by decide +kernel))) (by decide +kernel)
theorem im_yX3_shareOf : Cond.instanceMethod yX3_shareOf ∈ WS := ws_in (List.mem_append_right _ (List.mem_of_getElem? (i := 189) (by decide +kernel))) (by decide +kernel)
theorem se_yX3_shareOf : Cond.selects RX3 yX3_shareOf yX3_shareOf ∈ WS := ws_in (List.mem_append_right _ (List.mem_of_getElem? (i := 190) (by decide +kernel))) (by decide +kernel)
theorem co_yX3_shareOf : Cond.code yX3_shareOf cX3_shareOf 2 (some .int) ∈ WS := ws_in (List.mem_append_right _ (List.mem_of_getElem? (i := 191) (by decide +kernel))) (by decide +kernel)
theorem im_yX2_assetShare : Cond.instanceMethod yX2_assetShare ∈ WS := ws_in (List.mem_append_right _ (List.mem_of_getElem? (i := 194) (by decide +kernel))) (by decide +kernel)
theorem mk_X2 : Cond.instantiable RX2 7 ∈ WS := ws_in (List.mem_append_right _ (List.mem_of_getElem? (i := 195) (by decide +kernel))) (by decide +kernel)
theorem co_yX2_assetShare : Cond.code yX2_assetShare cX2_assetShare 1 (some .long) ∈ WS := ws_in (List.mem_append_right _ (List.mem_of_getElem? (i := 196) (by decide +kernel))) (by decide +kernel)
theorem ml_X2_41 : Cond.methodLink RX2 41 yX2_isInForce ∈ WS := ws_in (List.mem_append_right _ (List.mem_of_getElem? (i := 197) (by decide +kernel))) (by decide +kernel)
theorem im_yX2_isInForce : Cond.instanceMethod yX2_isInForce ∈ WS := ws_in (List.mem_append_right _ (List.mem_of_getElem? (i := 199) (by decide +kernel))) (by decide +kernel)
theorem co_yX2_isInForce : Cond.code yX2_isInForce cX2_isInForce 1 (some .boolean) ∈ WS := ws_in (List.mem_append_right _ (List.mem_of_getElem? (i := 200) (by decide +kernel))) (by decide +kernel)
theorem im_yX1_shareFor : Cond.instanceMethod yX1_shareFor ∈ WS := ws_in (List.mem_append_right _ (List.mem_of_getElem? (i := 203) (by decide +kernel))) (by decide +kernel)
theorem mk_X1 : Cond.instantiable RX1 4 ∈ WS := ws_in (List.mem_append_right _ (List.mem_of_getElem? (i := 204) (by decide +kernel))) (by decide +kernel)
theorem co_yX1_shareFor : Cond.code yX1_shareFor cX1_shareFor 2 (some .long) ∈ WS := ws_in (List.mem_append_right _ (List.mem_of_getElem? (i := 205) (by decide +kernel))) (by decide +kernel)
theorem sm_yX3_parted : Cond.static yX3_parted ∈ WS := ws_in (List.mem_append_right _ (List.mem_of_getElem? (i := 207) (by decide +kernel))) (by decide +kernel)
theorem co_yX3_parted : Cond.code yX3_parted cX3_parted 4 (some .long) ∈ WS := ws_in (List.mem_append_right _ (List.mem_of_getElem? (i := 208) (by decide +kernel))) (by decide +kernel)
theorem ml_L_50 : Cond.methodLink RL 50 yX3_paid ∈ WS := ws_in (List.mem_append_right _ (List.mem_of_getElem? (i := 209) (by decide +kernel))) (by decide +kernel)
theorem im_yX3_paid : Cond.instanceMethod yX3_paid ∈ WS := ws_in (List.mem_append_right _ (List.mem_of_getElem? (i := 210) (by decide +kernel))) (by decide +kernel)
theorem se_yX3_paid : Cond.selects RX3 yX3_paid yX3_paid ∈ WS := ws_in (List.mem_append_right _ (List.mem_of_getElem? (i := 211) (by decide +kernel))) (by decide +kernel)
theorem co_yX3_paid : Cond.code yX3_paid cX3_paid 2 (some .int) ∈ WS := ws_in (List.mem_append_right _ (List.mem_of_getElem? (i := 212) (by decide +kernel))) (by decide +kernel)
theorem ml_L_76 : Cond.methodLink RL 76 yX3_lastRatio ∈ WS := ws_in (List.mem_append_right _ (List.mem_of_getElem? (i := 213) (by decide +kernel))) (by decide +kernel)
theorem im_yX3_lastRatio : Cond.instanceMethod yX3_lastRatio ∈ WS := ws_in (List.mem_append_right _ (List.mem_of_getElem? (i := 214) (by decide +kernel))) (by decide +kernel)
theorem se_yX3_lastRatio : Cond.selects RX3 yX3_lastRatio yX3_lastRatio ∈ WS := ws_in (List.mem_append_right _ (List.mem_of_getElem? (i := 215) (by decide +kernel))) (by decide +kernel)
theorem co_yX3_lastRatio : Cond.code yX3_lastRatio cX3_lastRatio 2 (some .int) ∈ WS := ws_in (List.mem_append_right _ (List.mem_of_getElem? (i := 216) (by decide +kernel))) (by decide +kernel)
theorem ml_X3_46 : Cond.methodLink RX3 46 yX3_isTerm ∈ WS := ws_in (List.mem_append_right _ (List.mem_of_getElem? (i := 217) (by decide +kernel))) (by decide +kernel)
theorem sm_yX3_isTerm : Cond.static yX3_isTerm ∈ WS := ws_in (List.mem_append_right _ (List.mem_of_getElem? (i := 218) (by decide +kernel))) (by decide +kernel)
theorem co_yX3_isTerm : Cond.code yX3_isTerm cX3_isTerm 1 (some .boolean) ∈ WS := ws_in (List.mem_append_right _ (List.mem_of_getElem? (i := 219) (by decide +kernel))) (by decide +kernel)
theorem ml_X3_169 : Cond.methodLink RX3 169 yX3_ratioIn ∈ WS := ws_in (List.mem_append_right _ (List.mem_of_getElem? (i := 221) (by decide +kernel))) (by decide +kernel)
theorem sm_yX3_ratioIn : Cond.static yX3_ratioIn ∈ WS := ws_in (List.mem_append_right _ (List.mem_of_getElem? (i := 222) (by decide +kernel))) (by decide +kernel)
theorem co_yX3_ratioIn : Cond.code yX3_ratioIn cX3_ratioIn 2 (some .long) ∈ WS := ws_in (List.mem_append_right _ (List.mem_of_getElem? (i := 223) (by decide +kernel))) (by decide +kernel)
theorem ml_L_56 : Cond.methodLink RL 56 yX3_estate ∈ WS := ws_in (List.mem_append_right _ (List.mem_of_getElem? (i := 224) (by decide +kernel))) (by decide +kernel)
theorem im_yX3_estate : Cond.instanceMethod yX3_estate ∈ WS := ws_in (List.mem_append_right _ (List.mem_of_getElem? (i := 225) (by decide +kernel))) (by decide +kernel)
theorem se_yX3_estate : Cond.selects RX3 yX3_estate yX3_estate ∈ WS := ws_in (List.mem_append_right _ (List.mem_of_getElem? (i := 226) (by decide +kernel))) (by decide +kernel)
theorem co_yX3_estate : Cond.code yX3_estate cX3_estate 1 (some .long) ∈ WS := ws_in (List.mem_append_right _ (List.mem_of_getElem? (i := 227) (by decide +kernel))) (by decide +kernel)
theorem ml_L_27 : Cond.methodLink RL 27 yX3_assets ∈ WS := ws_in (List.mem_append_right _ (List.mem_of_getElem? (i := 228) (by decide +kernel))) (by decide +kernel)
theorem im_yX3_assets : Cond.instanceMethod yX3_assets ∈ WS := ws_in (List.mem_append_right _ (List.mem_of_getElem? (i := 229) (by decide +kernel))) (by decide +kernel)
theorem se_yX3_assets : Cond.selects RX3 yX3_assets yX3_assets ∈ WS := ws_in (List.mem_append_right _ (List.mem_of_getElem? (i := 230) (by decide +kernel))) (by decide +kernel)
theorem co_yX3_assets : Cond.code yX3_assets cX3_assets 1 (some .long) ∈ WS := ws_in (List.mem_append_right _ (List.mem_of_getElem? (i := 231) (by decide +kernel))) (by decide +kernel)
theorem ml_L_83 : Cond.methodLink RL 83 yL_low ∈ WS := ws_in (List.mem_append_right _ (List.mem_of_getElem? (i := 232) (by decide +kernel))) (by decide +kernel)
theorem sm_yL_low : Cond.static yL_low ∈ WS := ws_in (List.mem_append_right _ (List.mem_of_getElem? (i := 233) (by decide +kernel))) (by decide +kernel)
theorem co_yL_low : Cond.code yL_low cL_low 2 (some .int) ∈ WS := ws_in (List.mem_append_right _ (List.mem_of_getElem? (i := 234) (by decide +kernel))) (by decide +kernel)
theorem ki_L_7 : Cond.constant RL 7 (2147483647) ∈ WS := ws_in (List.mem_append_right _ (List.mem_of_getElem? (i := 235) (by decide +kernel))) (by decide +kernel)
theorem ml_L_79 : Cond.methodLink RL 79 yL_cell ∈ WS := ws_in (List.mem_append_right _ (List.mem_of_getElem? (i := 236) (by decide +kernel))) (by decide +kernel)
theorem sm_yL_cell : Cond.static yL_cell ∈ WS := ws_in (List.mem_append_right _ (List.mem_of_getElem? (i := 237) (by decide +kernel))) (by decide +kernel)
theorem co_yL_cell : Cond.code yL_cell cL_cell 2 (some .int) ∈ WS := ws_in (List.mem_append_right _ (List.mem_of_getElem? (i := 238) (by decide +kernel))) (by decide +kernel)
theorem ki_L_8 : Cond.constant RL 8 (40503) ∈ WS := ws_in (List.mem_append_right _ (List.mem_of_getElem? (i := 239) (by decide +kernel))) (by decide +kernel)
theorem ml_L_87 : Cond.methodLink RL 87 yL_begin ∈ WS := ws_in (List.mem_append_right _ (List.mem_of_getElem? (i := 240) (by decide +kernel))) (by decide +kernel)
theorem sm_yL_begin : Cond.static yL_begin ∈ WS := ws_in (List.mem_append_right _ (List.mem_of_getElem? (i := 241) (by decide +kernel))) (by decide +kernel)
theorem cw_yL_begin : Cond.codeWith yL_begin cL_begin 5 (some .int) [(0, 7, 8, 15)] ∈ WS := ws_in (List.mem_append_right _ (List.mem_of_getElem? (i := 242) (by decide +kernel))) (by decide +kernel)
theorem cl_L_15 : Cond.classLink RL 15 "java/lang/IllegalStateException" ∈ WS := ws_in (List.mem_append_right _ (List.mem_of_getElem? (i := 243) (by decide +kernel))) (by decide +kernel)
theorem ml_L_9 : Cond.methodLink RL 9 yX3_begin ∈ WS := ws_in (List.mem_append_right _ (List.mem_of_getElem? (i := 244) (by decide +kernel))) (by decide +kernel)
theorem im_yX3_begin : Cond.instanceMethod yX3_begin ∈ WS := ws_in (List.mem_append_right _ (List.mem_of_getElem? (i := 245) (by decide +kernel))) (by decide +kernel)
theorem se_yX3_begin : Cond.selects RX3 yX3_begin yX3_begin ∈ WS := ws_in (List.mem_append_right _ (List.mem_of_getElem? (i := 246) (by decide +kernel))) (by decide +kernel)
theorem co_yX3_begin : Cond.code yX3_begin cX3_begin 5 (some .int) ∈ WS := ws_in (List.mem_append_right _ (List.mem_of_getElem? (i := 247) (by decide +kernel))) (by decide +kernel)
theorem ki_X3_54 : Cond.constant RX3 54 (100000) ∈ WS := ws_in (List.mem_append_right _ (List.mem_of_getElem? (i := 248) (by decide +kernel))) (by decide +kernel)
theorem cl_X3_65 : Cond.classLink RX3 65 "java/lang/IllegalStateException" ∈ WS := ws_in (List.mem_append_right _ (List.mem_of_getElem? (i := 250) (by decide +kernel))) (by decide +kernel)
theorem ml_X3_70 : Cond.methodLink RX3 70 yX3_joinGeneration ∈ WS := ws_in (List.mem_append_right _ (List.mem_of_getElem? (i := 266) (by decide +kernel))) (by decide +kernel)
theorem im_yX3_joinGeneration : Cond.instanceMethod yX3_joinGeneration ∈ WS := ws_in (List.mem_append_right _ (List.mem_of_getElem? (i := 268) (by decide +kernel))) (by decide +kernel)
theorem co_yX3_joinGeneration : Cond.code yX3_joinGeneration cX3_joinGeneration 4 (some (.object "ProfitsOffice$Generation")) ∈ WS := ws_in (List.mem_append_right _ (List.mem_of_getElem? (i := 269) (by decide +kernel))) (by decide +kernel)
theorem ml_X3_158 : Cond.methodLink RX3 158 yX3_findGeneration ∈ WS := ws_in (List.mem_append_right _ (List.mem_of_getElem? (i := 270) (by decide +kernel))) (by decide +kernel)
theorem im_yX3_findGeneration : Cond.instanceMethod yX3_findGeneration ∈ WS := ws_in (List.mem_append_right _ (List.mem_of_getElem? (i := 272) (by decide +kernel))) (by decide +kernel)
theorem co_yX3_findGeneration : Cond.code yX3_findGeneration cX3_findGeneration 5 (some (.object "ProfitsOffice$Generation")) ∈ WS := ws_in (List.mem_append_right _ (List.mem_of_getElem? (i := 273) (by decide +kernel))) (by decide +kernel)
theorem im_yX1_init : Cond.instanceMethod yX1_init ∈ WS := ws_in (List.mem_append_right _ (List.mem_of_getElem? (i := 275) (by decide +kernel))) (by decide +kernel)
theorem co_yX1_init : Cond.code yX1_init cX1_init 3 (none : Option FieldType) ∈ WS := ws_in (List.mem_append_right _ (List.mem_of_getElem? (i := 276) (by decide +kernel))) (by decide +kernel)
theorem ml_X1_1 : Cond.methodLink RX1 1 objectInit ∈ WS := ws_in (List.mem_append_right _ (List.mem_of_getElem? (i := 277) (by decide +kernel))) (by decide +kernel)
theorem cl_X1_16 : Cond.classLink RX1 16 RX0 ∈ WS := ws_in (List.mem_append_right _ (List.mem_of_getElem? (i := 278) (by decide +kernel))) (by decide +kernel)
theorem mk_X0 : Cond.instantiable RX0 1 ∈ WS := ws_in (List.mem_append_right _ (List.mem_of_getElem? (i := 279) (by decide +kernel))) (by decide +kernel)
theorem im_yX0_init : Cond.instanceMethod yX0_init ∈ WS := ws_in (List.mem_append_right _ (List.mem_of_getElem? (i := 281) (by decide +kernel))) (by decide +kernel)
theorem co_yX0_init : Cond.code yX0_init cX0_init 1 (none : Option FieldType) ∈ WS := ws_in (List.mem_append_right _ (List.mem_of_getElem? (i := 282) (by decide +kernel))) (by decide +kernel)
theorem ml_X0_1 : Cond.methodLink RX0 1 objectInit ∈ WS := ws_in (List.mem_append_right _ (List.mem_of_getElem? (i := 283) (by decide +kernel))) (by decide +kernel)
theorem fl_X0_7 : Cond.fieldLink RX0 7 "ProfitsOffice$Fund" "amount" "J" ∈ WS := ws_in (List.mem_append_right _ (List.mem_of_getElem? (i := 284) (by decide +kernel))) (by decide +kernel)
theorem fl_X1_7 : Cond.fieldLink RX1 7 "ProfitsOffice$Generation" "begun" "I" ∈ WS := ws_in (List.mem_append_right _ (List.mem_of_getElem? (i := 290) (by decide +kernel))) (by decide +kernel)
theorem fl_X1_13 : Cond.fieldLink RX1 13 "ProfitsOffice$Generation" "term" "I" ∈ WS := ws_in (List.mem_append_right _ (List.mem_of_getElem? (i := 292) (by decide +kernel))) (by decide +kernel)
theorem fl_X1_19 : Cond.fieldLink RX1 19 "ProfitsOffice$Generation" "fund" "LProfitsOffice$Fund;" ∈ WS := ws_in (List.mem_append_right _ (List.mem_of_getElem? (i := 294) (by decide +kernel))) (by decide +kernel)
theorem fl_X1_27 : Cond.fieldLink RX1 27 "ProfitsOffice$Generation" "premiums" "J" ∈ WS := ws_in (List.mem_append_right _ (List.mem_of_getElem? (i := 296) (by decide +kernel))) (by decide +kernel)
theorem im_yX2_init : Cond.instanceMethod yX2_init ∈ WS := ws_in (List.mem_append_right _ (List.mem_of_getElem? (i := 308) (by decide +kernel))) (by decide +kernel)
theorem co_yX2_init : Cond.code yX2_init cX2_init 4 (none : Option FieldType) ∈ WS := ws_in (List.mem_append_right _ (List.mem_of_getElem? (i := 309) (by decide +kernel))) (by decide +kernel)
theorem ml_X2_3 : Cond.methodLink RX2 3 objectInit ∈ WS := ws_in (List.mem_append_right _ (List.mem_of_getElem? (i := 310) (by decide +kernel))) (by decide +kernel)
theorem cl_X2_22 : Cond.classLink RX2 22 RX0 ∈ WS := ws_in (List.mem_append_right _ (List.mem_of_getElem? (i := 311) (by decide +kernel))) (by decide +kernel)
theorem kl_X2_32 : Cond.constantLong RX2 32 (-1) ∈ WS := ws_in (List.mem_append_right _ (List.mem_of_getElem? (i := 313) (by decide +kernel))) (by decide +kernel)
theorem fl_X2_9 : Cond.fieldLink RX2 9 "ProfitsOffice$Policy" "generation" "LProfitsOffice$Generation;" ∈ WS := ws_in (List.mem_append_right _ (List.mem_of_getElem? (i := 314) (by decide +kernel))) (by decide +kernel)
theorem fl_X2_15 : Cond.fieldLink RX2 15 "ProfitsOffice$Policy" "premium" "I" ∈ WS := ws_in (List.mem_append_right _ (List.mem_of_getElem? (i := 316) (by decide +kernel))) (by decide +kernel)
theorem fl_X2_19 : Cond.fieldLink RX2 19 "ProfitsOffice$Policy" "sum" "I" ∈ WS := ws_in (List.mem_append_right _ (List.mem_of_getElem? (i := 318) (by decide +kernel))) (by decide +kernel)
theorem fl_X2_25 : Cond.fieldLink RX2 25 "ProfitsOffice$Policy" "alone" "LProfitsOffice$Fund;" ∈ WS := ws_in (List.mem_append_right _ (List.mem_of_getElem? (i := 319) (by decide +kernel))) (by decide +kernel)
theorem fl_X2_38 : Cond.fieldLink RX2 38 "ProfitsOffice$Policy" "bonuses" "J" ∈ WS := ws_in (List.mem_append_right _ (List.mem_of_getElem? (i := 321) (by decide +kernel))) (by decide +kernel)
theorem fl_X2_29 : Cond.fieldLink RX2 29 "ProfitsOffice$Policy" "state" "I" ∈ WS := ws_in (List.mem_append_right _ (List.mem_of_getElem? (i := 323) (by decide +kernel))) (by decide +kernel)
theorem fl_X2_34 : Cond.fieldLink RX2 34 "ProfitsOffice$Policy" "paid" "J" ∈ WS := ws_in (List.mem_append_right _ (List.mem_of_getElem? (i := 325) (by decide +kernel))) (by decide +kernel)
theorem ml_L_93 : Cond.methodLink RL 93 yL_surrender ∈ WS := ws_in (List.mem_append_right _ (List.mem_of_getElem? (i := 342) (by decide +kernel))) (by decide +kernel)
theorem sm_yL_surrender : Cond.static yL_surrender ∈ WS := ws_in (List.mem_append_right _ (List.mem_of_getElem? (i := 343) (by decide +kernel))) (by decide +kernel)
theorem cw_yL_surrender : Cond.codeWith yL_surrender cL_surrender 3 (some .int) [(0, 5, 6, 15)] ∈ WS := ws_in (List.mem_append_right _ (List.mem_of_getElem? (i := 344) (by decide +kernel))) (by decide +kernel)
theorem ml_L_17 : Cond.methodLink RL 17 yX3_surrender ∈ WS := ws_in (List.mem_append_right _ (List.mem_of_getElem? (i := 345) (by decide +kernel))) (by decide +kernel)
theorem im_yX3_surrender : Cond.instanceMethod yX3_surrender ∈ WS := ws_in (List.mem_append_right _ (List.mem_of_getElem? (i := 346) (by decide +kernel))) (by decide +kernel)
theorem se_yX3_surrender : Cond.selects RX3 yX3_surrender yX3_surrender ∈ WS := ws_in (List.mem_append_right _ (List.mem_of_getElem? (i := 347) (by decide +kernel))) (by decide +kernel)
theorem co_yX3_surrender : Cond.code yX3_surrender cX3_surrender 5 (some .int) ∈ WS := ws_in (List.mem_append_right _ (List.mem_of_getElem? (i := 348) (by decide +kernel))) (by decide +kernel)
theorem ml_X3_81 : Cond.methodLink RX3 81 yX3_checkSurrenderable ∈ WS := ws_in (List.mem_append_right _ (List.mem_of_getElem? (i := 349) (by decide +kernel))) (by decide +kernel)
theorem im_yX3_checkSurrenderable : Cond.instanceMethod yX3_checkSurrenderable ∈ WS := ws_in (List.mem_append_right _ (List.mem_of_getElem? (i := 351) (by decide +kernel))) (by decide +kernel)
theorem co_yX3_checkSurrenderable : Cond.code yX3_checkSurrenderable cX3_checkSurrenderable 2 (none : Option FieldType) ∈ WS := ws_in (List.mem_append_right _ (List.mem_of_getElem? (i := 352) (by decide +kernel))) (by decide +kernel)
theorem ml_X3_186 : Cond.methodLink RX3 186 yX3_yearsRun ∈ WS := ws_in (List.mem_append_right _ (List.mem_of_getElem? (i := 354) (by decide +kernel))) (by decide +kernel)
theorem im_yX3_yearsRun : Cond.instanceMethod yX3_yearsRun ∈ WS := ws_in (List.mem_append_right _ (List.mem_of_getElem? (i := 356) (by decide +kernel))) (by decide +kernel)
theorem co_yX3_yearsRun : Cond.code yX3_yearsRun cX3_yearsRun 2 (some .int) ∈ WS := ws_in (List.mem_append_right _ (List.mem_of_getElem? (i := 357) (by decide +kernel))) (by decide +kernel)
theorem ml_X3_85 : Cond.methodLink RX3 85 yX3_surrenderWorth ∈ WS := ws_in (List.mem_append_right _ (List.mem_of_getElem? (i := 359) (by decide +kernel))) (by decide +kernel)
theorem im_yX3_surrenderWorth : Cond.instanceMethod yX3_surrenderWorth ∈ WS := ws_in (List.mem_append_right _ (List.mem_of_getElem? (i := 361) (by decide +kernel))) (by decide +kernel)
theorem co_yX3_surrenderWorth : Cond.code yX3_surrenderWorth cX3_surrenderWorth 9 (some .long) ∈ WS := ws_in (List.mem_append_right _ (List.mem_of_getElem? (i := 362) (by decide +kernel))) (by decide +kernel)
theorem kl_X3_235 : Cond.constantLong RX3 235 (600) ∈ WS := ws_in (List.mem_append_right _ (List.mem_of_getElem? (i := 363) (by decide +kernel))) (by decide +kernel)
theorem kl_X3_237 : Cond.constantLong RX3 237 (400) ∈ WS := ws_in (List.mem_append_right _ (List.mem_of_getElem? (i := 364) (by decide +kernel))) (by decide +kernel)
theorem ml_X3_226 : Cond.methodLink RX3 226 yX3_parted ∈ WS := ws_in (List.mem_append_right _ (List.mem_of_getElem? (i := 365) (by decide +kernel))) (by decide +kernel)
theorem ml_X3_115 : Cond.methodLink RX3 115 yX3_thousandths ∈ WS := ws_in (List.mem_append_right _ (List.mem_of_getElem? (i := 366) (by decide +kernel))) (by decide +kernel)
theorem sm_yX3_thousandths : Cond.static yX3_thousandths ∈ WS := ws_in (List.mem_append_right _ (List.mem_of_getElem? (i := 367) (by decide +kernel))) (by decide +kernel)
theorem co_yX3_thousandths : Cond.code yX3_thousandths cX3_thousandths 4 (some .long) ∈ WS := ws_in (List.mem_append_right _ (List.mem_of_getElem? (i := 368) (by decide +kernel))) (by decide +kernel)
theorem kl_X3_224 : Cond.constantLong RX3 224 (1000) ∈ WS := ws_in (List.mem_append_right _ (List.mem_of_getElem? (i := 369) (by decide +kernel))) (by decide +kernel)
theorem ml_X3_242 : Cond.methodLink RX3 242 yJ9_floorDiv_f86c9 ∈ WS := ws_in (List.mem_append_right _ (List.mem_of_getElem? (i := 370) (by decide +kernel))) (by decide +kernel)
theorem sm_yJ9_floorDiv_f86c9 : Cond.static yJ9_floorDiv_f86c9 ∈ WS := ws_in (List.mem_append_right _ (List.mem_of_getElem? (i := 371) (by decide +kernel))) (by decide +kernel)
theorem co_yJ9_floorDiv_f86c9 : Cond.code yJ9_floorDiv_f86c9 cJ9_floorDiv_f86c9 6 (some .long) ∈ WS := ws_in (List.mem_append_right _ (List.mem_of_getElem? (i := 372) (by decide +kernel))) (by decide +kernel)
theorem ml_X3_176 : Cond.methodLink RX3 176 yJ9_max_f86c9 ∈ WS := ws_in (List.mem_append_right _ (List.mem_of_getElem? (i := 373) (by decide +kernel))) (by decide +kernel)
theorem sm_yJ9_max_f86c9 : Cond.static yJ9_max_f86c9 ∈ WS := ws_in (List.mem_append_right _ (List.mem_of_getElem? (i := 374) (by decide +kernel))) (by decide +kernel)
theorem co_yJ9_max_f86c9 : Cond.code yJ9_max_f86c9 cJ9_max_f86c9 4 (some .long) ∈ WS := ws_in (List.mem_append_right _ (List.mem_of_getElem? (i := 375) (by decide +kernel))) (by decide +kernel)
theorem ml_X3_89 : Cond.methodLink RX3 89 yX3_close ∈ WS := ws_in (List.mem_append_right _ (List.mem_of_getElem? (i := 376) (by decide +kernel))) (by decide +kernel)
theorem im_yX3_close : Cond.instanceMethod yX3_close ∈ WS := ws_in (List.mem_append_right _ (List.mem_of_getElem? (i := 378) (by decide +kernel))) (by decide +kernel)
theorem co_yX3_close : Cond.code yX3_close cX3_close 5 (none : Option FieldType) ∈ WS := ws_in (List.mem_append_right _ (List.mem_of_getElem? (i := 379) (by decide +kernel))) (by decide +kernel)
theorem im_yX1_release : Cond.instanceMethod yX1_release ∈ WS := ws_in (List.mem_append_right _ (List.mem_of_getElem? (i := 382) (by decide +kernel))) (by decide +kernel)
theorem co_yX1_release : Cond.code yX1_release cX1_release 4 (some .long) ∈ WS := ws_in (List.mem_append_right _ (List.mem_of_getElem? (i := 383) (by decide +kernel))) (by decide +kernel)
theorem ml_X1_36 : Cond.methodLink RX1 36 yX1_shareFor ∈ WS := ws_in (List.mem_append_right _ (List.mem_of_getElem? (i := 384) (by decide +kernel))) (by decide +kernel)
theorem ml_L_90 : Cond.methodLink RL 90 yL_worth ∈ WS := ws_in (List.mem_append_right _ (List.mem_of_getElem? (i := 385) (by decide +kernel))) (by decide +kernel)
theorem sm_yL_worth : Cond.static yL_worth ∈ WS := ws_in (List.mem_append_right _ (List.mem_of_getElem? (i := 386) (by decide +kernel))) (by decide +kernel)
theorem cw_yL_worth : Cond.codeWith yL_worth cL_worth 3 (some .int) [(0, 5, 6, 15)] ∈ WS := ws_in (List.mem_append_right _ (List.mem_of_getElem? (i := 387) (by decide +kernel))) (by decide +kernel)
theorem ml_L_21 : Cond.methodLink RL 21 yX3_worth ∈ WS := ws_in (List.mem_append_right _ (List.mem_of_getElem? (i := 388) (by decide +kernel))) (by decide +kernel)
theorem im_yX3_worth : Cond.instanceMethod yX3_worth ∈ WS := ws_in (List.mem_append_right _ (List.mem_of_getElem? (i := 389) (by decide +kernel))) (by decide +kernel)
theorem se_yX3_worth : Cond.selects RX3 yX3_worth yX3_worth ∈ WS := ws_in (List.mem_append_right _ (List.mem_of_getElem? (i := 390) (by decide +kernel))) (by decide +kernel)
theorem co_yX3_worth : Cond.code yX3_worth cX3_worth 3 (some .int) ∈ WS := ws_in (List.mem_append_right _ (List.mem_of_getElem? (i := 391) (by decide +kernel))) (by decide +kernel)
theorem ml_L_107 : Cond.methodLink RL 107 yL_run ∈ WS := ws_in (List.mem_append_right _ (List.mem_of_getElem? (i := 392) (by decide +kernel))) (by decide +kernel)
theorem sm_yL_run : Cond.static yL_run ∈ WS := ws_in (List.mem_append_right _ (List.mem_of_getElem? (i := 393) (by decide +kernel))) (by decide +kernel)
theorem cw_yL_run : Cond.codeWith yL_run cL_run 3 (some .int) [(0, 5, 6, 15)] ∈ WS := ws_in (List.mem_append_right _ (List.mem_of_getElem? (i := 394) (by decide +kernel))) (by decide +kernel)
theorem ml_L_24 : Cond.methodLink RL 24 yX3_run ∈ WS := ws_in (List.mem_append_right _ (List.mem_of_getElem? (i := 395) (by decide +kernel))) (by decide +kernel)
theorem im_yX3_run : Cond.instanceMethod yX3_run ∈ WS := ws_in (List.mem_append_right _ (List.mem_of_getElem? (i := 396) (by decide +kernel))) (by decide +kernel)
theorem se_yX3_run : Cond.selects RX3 yX3_run yX3_run ∈ WS := ws_in (List.mem_append_right _ (List.mem_of_getElem? (i := 397) (by decide +kernel))) (by decide +kernel)
theorem co_yX3_run : Cond.code yX3_run cX3_run 5 (some .int) ∈ WS := ws_in (List.mem_append_right _ (List.mem_of_getElem? (i := 398) (by decide +kernel))) (by decide +kernel)
theorem ml_X3_119 : Cond.methodLink RX3 119 yX3_growGenerations ∈ WS := ws_in (List.mem_append_right _ (List.mem_of_getElem? (i := 401) (by decide +kernel))) (by decide +kernel)
theorem im_yX3_growGenerations : Cond.instanceMethod yX3_growGenerations ∈ WS := ws_in (List.mem_append_right _ (List.mem_of_getElem? (i := 403) (by decide +kernel))) (by decide +kernel)
theorem co_yX3_growGenerations : Cond.code yX3_growGenerations cX3_growGenerations 4 (none : Option FieldType) ∈ WS := ws_in (List.mem_append_right _ (List.mem_of_getElem? (i := 404) (by decide +kernel))) (by decide +kernel)
theorem im_yX0_earn : Cond.instanceMethod yX0_earn ∈ WS := ws_in (List.mem_append_right _ (List.mem_of_getElem? (i := 407) (by decide +kernel))) (by decide +kernel)
theorem co_yX0_earn : Cond.code yX0_earn cX0_earn 4 (some .long) ∈ WS := ws_in (List.mem_append_right _ (List.mem_of_getElem? (i := 408) (by decide +kernel))) (by decide +kernel)
theorem im_yX0_takeCharge : Cond.instanceMethod yX0_takeCharge ∈ WS := ws_in (List.mem_append_right _ (List.mem_of_getElem? (i := 412) (by decide +kernel))) (by decide +kernel)
theorem co_yX0_takeCharge : Cond.code yX0_takeCharge cX0_takeCharge 4 (some .long) ∈ WS := ws_in (List.mem_append_right _ (List.mem_of_getElem? (i := 413) (by decide +kernel))) (by decide +kernel)
theorem ml_X3_123 : Cond.methodLink RX3 123 yX3_growPoliciesAlone ∈ WS := ws_in (List.mem_append_right _ (List.mem_of_getElem? (i := 414) (by decide +kernel))) (by decide +kernel)
theorem im_yX3_growPoliciesAlone : Cond.instanceMethod yX3_growPoliciesAlone ∈ WS := ws_in (List.mem_append_right _ (List.mem_of_getElem? (i := 416) (by decide +kernel))) (by decide +kernel)
theorem co_yX3_growPoliciesAlone : Cond.code yX3_growPoliciesAlone cX3_growPoliciesAlone 4 (none : Option FieldType) ∈ WS := ws_in (List.mem_append_right _ (List.mem_of_getElem? (i := 417) (by decide +kernel))) (by decide +kernel)
theorem ml_X3_126 : Cond.methodLink RX3 126 yX3_giveBonuses ∈ WS := ws_in (List.mem_append_right _ (List.mem_of_getElem? (i := 418) (by decide +kernel))) (by decide +kernel)
theorem im_yX3_giveBonuses : Cond.instanceMethod yX3_giveBonuses ∈ WS := ws_in (List.mem_append_right _ (List.mem_of_getElem? (i := 420) (by decide +kernel))) (by decide +kernel)
theorem co_yX3_giveBonuses : Cond.code yX3_giveBonuses cX3_giveBonuses 3 (none : Option FieldType) ∈ WS := ws_in (List.mem_append_right _ (List.mem_of_getElem? (i := 421) (by decide +kernel))) (by decide +kernel)
theorem im_yX2_guaranteed : Cond.instanceMethod yX2_guaranteed ∈ WS := ws_in (List.mem_append_right _ (List.mem_of_getElem? (i := 424) (by decide +kernel))) (by decide +kernel)
theorem co_yX2_guaranteed : Cond.code yX2_guaranteed cX2_guaranteed 1 (some .long) ∈ WS := ws_in (List.mem_append_right _ (List.mem_of_getElem? (i := 425) (by decide +kernel))) (by decide +kernel)
theorem ml_X3_129 : Cond.methodLink RX3 129 yX3_maturePolicies ∈ WS := ws_in (List.mem_append_right _ (List.mem_of_getElem? (i := 426) (by decide +kernel))) (by decide +kernel)
theorem im_yX3_maturePolicies : Cond.instanceMethod yX3_maturePolicies ∈ WS := ws_in (List.mem_append_right _ (List.mem_of_getElem? (i := 428) (by decide +kernel))) (by decide +kernel)
theorem co_yX3_maturePolicies : Cond.code yX3_maturePolicies cX3_maturePolicies 4 (some .int) ∈ WS := ws_in (List.mem_append_right _ (List.mem_of_getElem? (i := 429) (by decide +kernel))) (by decide +kernel)
theorem ml_X3_221 : Cond.methodLink RX3 221 yX3_mature ∈ WS := ws_in (List.mem_append_right _ (List.mem_of_getElem? (i := 430) (by decide +kernel))) (by decide +kernel)
theorem im_yX3_mature : Cond.instanceMethod yX3_mature ∈ WS := ws_in (List.mem_append_right _ (List.mem_of_getElem? (i := 432) (by decide +kernel))) (by decide +kernel)
theorem co_yX3_mature : Cond.code yX3_mature cX3_mature 11 (none : Option FieldType) ∈ WS := ws_in (List.mem_append_right _ (List.mem_of_getElem? (i := 433) (by decide +kernel))) (by decide +kernel)
theorem ml_X3_229 : Cond.methodLink RX3 229 yX3_smooth ∈ WS := ws_in (List.mem_append_right _ (List.mem_of_getElem? (i := 434) (by decide +kernel))) (by decide +kernel)
theorem im_yX3_smooth : Cond.instanceMethod yX3_smooth ∈ WS := ws_in (List.mem_append_right _ (List.mem_of_getElem? (i := 436) (by decide +kernel))) (by decide +kernel)
theorem co_yX3_smooth : Cond.code yX3_smooth cX3_smooth 7 (some .long) ∈ WS := ws_in (List.mem_append_right _ (List.mem_of_getElem? (i := 437) (by decide +kernel))) (by decide +kernel)
theorem ml_X3_232 : Cond.methodLink RX3 232 yJ9_min_f86c9 ∈ WS := ws_in (List.mem_append_right _ (List.mem_of_getElem? (i := 438) (by decide +kernel))) (by decide +kernel)
theorem sm_yJ9_min_f86c9 : Cond.static yJ9_min_f86c9 ∈ WS := ws_in (List.mem_append_right _ (List.mem_of_getElem? (i := 439) (by decide +kernel))) (by decide +kernel)
theorem co_yJ9_min_f86c9 : Cond.code yJ9_min_f86c9 cJ9_min_f86c9 4 (some .long) ∈ WS := ws_in (List.mem_append_right _ (List.mem_of_getElem? (i := 440) (by decide +kernel))) (by decide +kernel)
theorem ml_L_64 : Cond.methodLink RL 64 yL_holds ∈ WS := ws_in (List.mem_append_right _ (List.mem_of_getElem? (i := 441) (by decide +kernel))) (by decide +kernel)
theorem sm_yL_holds : Cond.static yL_holds ∈ WS := ws_in (List.mem_append_right _ (List.mem_of_getElem? (i := 442) (by decide +kernel))) (by decide +kernel)
theorem co_yL_holds : Cond.code yL_holds cL_holds 6 (some .boolean) ∈ WS := ws_in (List.mem_append_right _ (List.mem_of_getElem? (i := 443) (by decide +kernel))) (by decide +kernel)
theorem ml_L_31 : Cond.methodLink RL 31 yX3_sharesAndEstate ∈ WS := ws_in (List.mem_append_right _ (List.mem_of_getElem? (i := 444) (by decide +kernel))) (by decide +kernel)
theorem im_yX3_sharesAndEstate : Cond.instanceMethod yX3_sharesAndEstate ∈ WS := ws_in (List.mem_append_right _ (List.mem_of_getElem? (i := 445) (by decide +kernel))) (by decide +kernel)
theorem se_yX3_sharesAndEstate : Cond.selects RX3 yX3_sharesAndEstate yX3_sharesAndEstate ∈ WS := ws_in (List.mem_append_right _ (List.mem_of_getElem? (i := 446) (by decide +kernel))) (by decide +kernel)
theorem co_yX3_sharesAndEstate : Cond.code yX3_sharesAndEstate cX3_sharesAndEstate 5 (some .long) ∈ WS := ws_in (List.mem_append_right _ (List.mem_of_getElem? (i := 447) (by decide +kernel))) (by decide +kernel)
theorem ml_L_34 : Cond.methodLink RL 34 yX3_shortfall ∈ WS := ws_in (List.mem_append_right _ (List.mem_of_getElem? (i := 448) (by decide +kernel))) (by decide +kernel)
theorem im_yX3_shortfall : Cond.instanceMethod yX3_shortfall ∈ WS := ws_in (List.mem_append_right _ (List.mem_of_getElem? (i := 449) (by decide +kernel))) (by decide +kernel)
theorem se_yX3_shortfall : Cond.selects RX3 yX3_shortfall yX3_shortfall ∈ WS := ws_in (List.mem_append_right _ (List.mem_of_getElem? (i := 450) (by decide +kernel))) (by decide +kernel)
theorem co_yX3_shortfall : Cond.code yX3_shortfall cX3_shortfall 5 (some .int) ∈ WS := ws_in (List.mem_append_right _ (List.mem_of_getElem? (i := 451) (by decide +kernel))) (by decide +kernel)
theorem ml_L_47 : Cond.methodLink RL 47 yX3_shareAlone ∈ WS := ws_in (List.mem_append_right _ (List.mem_of_getElem? (i := 452) (by decide +kernel))) (by decide +kernel)
theorem im_yX3_shareAlone : Cond.instanceMethod yX3_shareAlone ∈ WS := ws_in (List.mem_append_right _ (List.mem_of_getElem? (i := 453) (by decide +kernel))) (by decide +kernel)
theorem se_yX3_shareAlone : Cond.selects RX3 yX3_shareAlone yX3_shareAlone ∈ WS := ws_in (List.mem_append_right _ (List.mem_of_getElem? (i := 454) (by decide +kernel))) (by decide +kernel)
theorem co_yX3_shareAlone : Cond.code yX3_shareAlone cX3_shareAlone 3 (some .int) ∈ WS := ws_in (List.mem_append_right _ (List.mem_of_getElem? (i := 455) (by decide +kernel))) (by decide +kernel)
theorem ml_L_53 : Cond.methodLink RL 53 yX3_bonuses ∈ WS := ws_in (List.mem_append_right _ (List.mem_of_getElem? (i := 456) (by decide +kernel))) (by decide +kernel)
theorem im_yX3_bonuses : Cond.instanceMethod yX3_bonuses ∈ WS := ws_in (List.mem_append_right _ (List.mem_of_getElem? (i := 457) (by decide +kernel))) (by decide +kernel)
theorem se_yX3_bonuses : Cond.selects RX3 yX3_bonuses yX3_bonuses ∈ WS := ws_in (List.mem_append_right _ (List.mem_of_getElem? (i := 458) (by decide +kernel))) (by decide +kernel)
theorem co_yX3_bonuses : Cond.code yX3_bonuses cX3_bonuses 2 (some .int) ∈ WS := ws_in (List.mem_append_right _ (List.mem_of_getElem? (i := 459) (by decide +kernel))) (by decide +kernel)
theorem ml_L_70 : Cond.methodLink RL 70 yL_generations ∈ WS := ws_in (List.mem_append_right _ (List.mem_of_getElem? (i := 460) (by decide +kernel))) (by decide +kernel)
theorem sm_yL_generations : Cond.static yL_generations ∈ WS := ws_in (List.mem_append_right _ (List.mem_of_getElem? (i := 461) (by decide +kernel))) (by decide +kernel)
theorem co_yL_generations : Cond.code yL_generations cL_generations 5 (some .boolean) ∈ WS := ws_in (List.mem_append_right _ (List.mem_of_getElem? (i := 462) (by decide +kernel))) (by decide +kernel)
theorem ml_L_59 : Cond.methodLink RL 59 yX3_generation ∈ WS := ws_in (List.mem_append_right _ (List.mem_of_getElem? (i := 463) (by decide +kernel))) (by decide +kernel)
theorem im_yX3_generation : Cond.instanceMethod yX3_generation ∈ WS := ws_in (List.mem_append_right _ (List.mem_of_getElem? (i := 464) (by decide +kernel))) (by decide +kernel)
theorem se_yX3_generation : Cond.selects RX3 yX3_generation yX3_generation ∈ WS := ws_in (List.mem_append_right _ (List.mem_of_getElem? (i := 465) (by decide +kernel))) (by decide +kernel)
theorem co_yX3_generation : Cond.code yX3_generation cX3_generation 4 (some .int) ∈ WS := ws_in (List.mem_append_right _ (List.mem_of_getElem? (i := 466) (by decide +kernel))) (by decide +kernel)
theorem ki_L_86 : Cond.constant RL 86 (100001) ∈ WS := ws_in (List.mem_append_right _ (List.mem_of_getElem? (i := 468) (by decide +kernel))) (by decide +kernel)
theorem ki_L_101 : Cond.constant RL 101 (2000001) ∈ WS := ws_in (List.mem_append_right _ (List.mem_of_getElem? (i := 469) (by decide +kernel))) (by decide +kernel)
theorem ki_L_102 : Cond.constant RL 102 (1000000) ∈ WS := ws_in (List.mem_append_right _ (List.mem_of_getElem? (i := 470) (by decide +kernel))) (by decide +kernel)
theorem se_yX3_knownPolicy : Cond.selects RX3 yX3_knownPolicy yX3_knownPolicy ∈ WS := ws_in (List.mem_append_left _ (List.mem_of_getElem? (i := 1) (by decide +kernel))) (by decide +kernel)
theorem se_yX2_assetShare : Cond.selects RX2 yX2_assetShare yX2_assetShare ∈ WS := ws_in (List.mem_append_left _ (List.mem_of_getElem? (i := 2) (by decide +kernel))) (by decide +kernel)
theorem se_yX2_isInForce : Cond.selects RX2 yX2_isInForce yX2_isInForce ∈ WS := ws_in (List.mem_append_left _ (List.mem_of_getElem? (i := 3) (by decide +kernel))) (by decide +kernel)
theorem se_yX1_shareFor : Cond.selects RX1 yX1_shareFor yX1_shareFor ∈ WS := ws_in (List.mem_append_left _ (List.mem_of_getElem? (i := 4) (by decide +kernel))) (by decide +kernel)
theorem se_yX3_joinGeneration : Cond.selects RX3 yX3_joinGeneration yX3_joinGeneration ∈ WS := ws_in (List.mem_append_left _ (List.mem_of_getElem? (i := 5) (by decide +kernel))) (by decide +kernel)
theorem se_yX3_findGeneration : Cond.selects RX3 yX3_findGeneration yX3_findGeneration ∈ WS := ws_in (List.mem_append_left _ (List.mem_of_getElem? (i := 6) (by decide +kernel))) (by decide +kernel)
theorem se_yX3_checkSurrenderable : Cond.selects RX3 yX3_checkSurrenderable yX3_checkSurrenderable ∈ WS := ws_in (List.mem_append_left _ (List.mem_of_getElem? (i := 7) (by decide +kernel))) (by decide +kernel)
theorem se_yX3_yearsRun : Cond.selects RX3 yX3_yearsRun yX3_yearsRun ∈ WS := ws_in (List.mem_append_left _ (List.mem_of_getElem? (i := 8) (by decide +kernel))) (by decide +kernel)
theorem se_yX3_surrenderWorth : Cond.selects RX3 yX3_surrenderWorth yX3_surrenderWorth ∈ WS := ws_in (List.mem_append_left _ (List.mem_of_getElem? (i := 9) (by decide +kernel))) (by decide +kernel)
theorem se_yX3_close : Cond.selects RX3 yX3_close yX3_close ∈ WS := ws_in (List.mem_append_left _ (List.mem_of_getElem? (i := 10) (by decide +kernel))) (by decide +kernel)
theorem se_yX1_release : Cond.selects RX1 yX1_release yX1_release ∈ WS := ws_in (List.mem_append_left _ (List.mem_of_getElem? (i := 11) (by decide +kernel))) (by decide +kernel)
theorem se_yX3_growGenerations : Cond.selects RX3 yX3_growGenerations yX3_growGenerations ∈ WS := ws_in (List.mem_append_left _ (List.mem_of_getElem? (i := 12) (by decide +kernel))) (by decide +kernel)
theorem se_yX0_earn : Cond.selects RX0 yX0_earn yX0_earn ∈ WS := ws_in (List.mem_append_left _ (List.mem_of_getElem? (i := 13) (by decide +kernel))) (by decide +kernel)
theorem se_yX0_takeCharge : Cond.selects RX0 yX0_takeCharge yX0_takeCharge ∈ WS := ws_in (List.mem_append_left _ (List.mem_of_getElem? (i := 14) (by decide +kernel))) (by decide +kernel)
theorem se_yX3_growPoliciesAlone : Cond.selects RX3 yX3_growPoliciesAlone yX3_growPoliciesAlone ∈ WS := ws_in (List.mem_append_left _ (List.mem_of_getElem? (i := 15) (by decide +kernel))) (by decide +kernel)
theorem se_yX3_giveBonuses : Cond.selects RX3 yX3_giveBonuses yX3_giveBonuses ∈ WS := ws_in (List.mem_append_left _ (List.mem_of_getElem? (i := 16) (by decide +kernel))) (by decide +kernel)
theorem se_yX2_guaranteed : Cond.selects RX2 yX2_guaranteed yX2_guaranteed ∈ WS := ws_in (List.mem_append_left _ (List.mem_of_getElem? (i := 17) (by decide +kernel))) (by decide +kernel)
theorem se_yX3_maturePolicies : Cond.selects RX3 yX3_maturePolicies yX3_maturePolicies ∈ WS := ws_in (List.mem_append_left _ (List.mem_of_getElem? (i := 18) (by decide +kernel))) (by decide +kernel)
theorem se_yX3_mature : Cond.selects RX3 yX3_mature yX3_mature ∈ WS := ws_in (List.mem_append_left _ (List.mem_of_getElem? (i := 19) (by decide +kernel))) (by decide +kernel)
theorem se_yX3_smooth : Cond.selects RX3 yX3_smooth yX3_smooth ∈ WS := ws_in (List.mem_append_left _ (List.mem_of_getElem? (i := 20) (by decide +kernel))) (by decide +kernel)
end
section
theorem ly_X0_0 : Cond.lays RX0 "ProfitsOffice$Fund" "amount" "J" ∈ WS := ws_in (List.mem_append_right _ (List.mem_of_getElem? (i := 287) (by decide +kernel))) (by decide +kernel)
theorem ly_X0 : ∀ w ∈ u_ws RX0 TX0 1, w ∈ WS := List.forall_mem_cons.mpr ⟨ly_X0_0, fun _ h => nomatch h⟩
theorem ly_X1_0 : Cond.laysFinal RX1 "ProfitsOffice$Generation" "begun" "I" ∈ WS := ws_in (List.mem_append_right _ (List.mem_of_getElem? (i := 298) (by decide +kernel))) (by decide +kernel)
theorem ly_X1_1 : Cond.laysFinal RX1 "ProfitsOffice$Generation" "term" "I" ∈ WS := ws_in (List.mem_append_right _ (List.mem_of_getElem? (i := 300) (by decide +kernel))) (by decide +kernel)
theorem ly_X1_2 : Cond.laysFinal RX1 "ProfitsOffice$Generation" "fund" "LProfitsOffice$Fund;" ∈ WS := ws_in (List.mem_append_right _ (List.mem_of_getElem? (i := 302) (by decide +kernel))) (by decide +kernel)
theorem ly_X1_3 : Cond.lays RX1 "ProfitsOffice$Generation" "premiums" "J" ∈ WS := ws_in (List.mem_append_right _ (List.mem_of_getElem? (i := 304) (by decide +kernel))) (by decide +kernel)
theorem ly_X1 : ∀ w ∈ u_ws RX1 TX1 4, w ∈ WS := List.forall_mem_cons.mpr ⟨ly_X1_0, List.forall_mem_cons.mpr ⟨ly_X1_1, List.forall_mem_cons.mpr ⟨ly_X1_2, List.forall_mem_cons.mpr ⟨ly_X1_3, fun _ h => nomatch h⟩⟩⟩⟩
theorem ly_X2_0 : Cond.laysFinal RX2 "ProfitsOffice$Policy" "generation" "LProfitsOffice$Generation;" ∈ WS := ws_in (List.mem_append_right _ (List.mem_of_getElem? (i := 327) (by decide +kernel))) (by decide +kernel)
theorem ly_X2_1 : Cond.laysFinal RX2 "ProfitsOffice$Policy" "premium" "I" ∈ WS := ws_in (List.mem_append_right _ (List.mem_of_getElem? (i := 329) (by decide +kernel))) (by decide +kernel)
theorem ly_X2_2 : Cond.laysFinal RX2 "ProfitsOffice$Policy" "sum" "I" ∈ WS := ws_in (List.mem_append_right _ (List.mem_of_getElem? (i := 331) (by decide +kernel))) (by decide +kernel)
theorem ly_X2_3 : Cond.laysFinal RX2 "ProfitsOffice$Policy" "alone" "LProfitsOffice$Fund;" ∈ WS := ws_in (List.mem_append_right _ (List.mem_of_getElem? (i := 333) (by decide +kernel))) (by decide +kernel)
theorem ly_X2_4 : Cond.lays RX2 "ProfitsOffice$Policy" "bonuses" "J" ∈ WS := ws_in (List.mem_append_right _ (List.mem_of_getElem? (i := 335) (by decide +kernel))) (by decide +kernel)
theorem ly_X2_5 : Cond.lays RX2 "ProfitsOffice$Policy" "state" "I" ∈ WS := ws_in (List.mem_append_right _ (List.mem_of_getElem? (i := 337) (by decide +kernel))) (by decide +kernel)
theorem ly_X2_6 : Cond.lays RX2 "ProfitsOffice$Policy" "paid" "J" ∈ WS := ws_in (List.mem_append_right _ (List.mem_of_getElem? (i := 339) (by decide +kernel))) (by decide +kernel)
theorem ly_X2 : ∀ w ∈ u_ws RX2 TX2 7, w ∈ WS := List.forall_mem_cons.mpr ⟨ly_X2_0, List.forall_mem_cons.mpr ⟨ly_X2_1, List.forall_mem_cons.mpr ⟨ly_X2_2, List.forall_mem_cons.mpr ⟨ly_X2_3, List.forall_mem_cons.mpr ⟨ly_X2_4, List.forall_mem_cons.mpr ⟨ly_X2_5, List.forall_mem_cons.mpr ⟨ly_X2_6, fun _ h => nomatch h⟩⟩⟩⟩⟩⟩⟩
theorem ly_X3_0 : Cond.laysFinal RX3 "ProfitsOffice" "policies" "[LProfitsOffice$Policy;" ∈ WS := ws_in (List.mem_append_right _ (List.mem_of_getElem? (i := 39) (by decide +kernel))) (by decide +kernel)
theorem ly_X3_1 : Cond.laysFinal RX3 "ProfitsOffice" "generations" "[LProfitsOffice$Generation;" ∈ WS := ws_in (List.mem_append_right _ (List.mem_of_getElem? (i := 41) (by decide +kernel))) (by decide +kernel)
theorem ly_X3_2 : Cond.laysFinal RX3 "ProfitsOffice" "lastRatios" "[J" ∈ WS := ws_in (List.mem_append_right _ (List.mem_of_getElem? (i := 43) (by decide +kernel))) (by decide +kernel)
theorem ly_X3_3 : Cond.laysFinal RX3 "ProfitsOffice" "ratiosBefore" "[J" ∈ WS := ws_in (List.mem_append_right _ (List.mem_of_getElem? (i := 45) (by decide +kernel))) (by decide +kernel)
theorem ly_X3_4 : Cond.lays RX3 "ProfitsOffice" "policyCount" "I" ∈ WS := ws_in (List.mem_append_right _ (List.mem_of_getElem? (i := 47) (by decide +kernel))) (by decide +kernel)
theorem ly_X3_5 : Cond.lays RX3 "ProfitsOffice" "generationCount" "I" ∈ WS := ws_in (List.mem_append_right _ (List.mem_of_getElem? (i := 49) (by decide +kernel))) (by decide +kernel)
theorem ly_X3_6 : Cond.lays RX3 "ProfitsOffice" "year" "I" ∈ WS := ws_in (List.mem_append_right _ (List.mem_of_getElem? (i := 51) (by decide +kernel))) (by decide +kernel)
theorem ly_X3_7 : Cond.lays RX3 "ProfitsOffice" "bonusRate" "I" ∈ WS := ws_in (List.mem_append_right _ (List.mem_of_getElem? (i := 53) (by decide +kernel))) (by decide +kernel)
theorem ly_X3_8 : Cond.lays RX3 "ProfitsOffice" "charge" "I" ∈ WS := ws_in (List.mem_append_right _ (List.mem_of_getElem? (i := 55) (by decide +kernel))) (by decide +kernel)
theorem ly_X3_9 : Cond.lays RX3 "ProfitsOffice" "scale" "I" ∈ WS := ws_in (List.mem_append_right _ (List.mem_of_getElem? (i := 57) (by decide +kernel))) (by decide +kernel)
theorem ly_X3_10 : Cond.lays RX3 "ProfitsOffice" "step" "I" ∈ WS := ws_in (List.mem_append_right _ (List.mem_of_getElem? (i := 59) (by decide +kernel))) (by decide +kernel)
theorem ly_X3_11 : Cond.lays RX3 "ProfitsOffice" "floor" "I" ∈ WS := ws_in (List.mem_append_right _ (List.mem_of_getElem? (i := 61) (by decide +kernel))) (by decide +kernel)
theorem ly_X3_12 : Cond.lays RX3 "ProfitsOffice" "estate" "J" ∈ WS := ws_in (List.mem_append_right _ (List.mem_of_getElem? (i := 63) (by decide +kernel))) (by decide +kernel)
theorem ly_X3_13 : Cond.lays RX3 "ProfitsOffice" "assets" "J" ∈ WS := ws_in (List.mem_append_right _ (List.mem_of_getElem? (i := 65) (by decide +kernel))) (by decide +kernel)
theorem ly_X3 : ∀ w ∈ u_ws RX3 TX3 14, w ∈ WS := List.forall_mem_cons.mpr ⟨ly_X3_0, List.forall_mem_cons.mpr ⟨ly_X3_1, List.forall_mem_cons.mpr ⟨ly_X3_2, List.forall_mem_cons.mpr ⟨ly_X3_3, List.forall_mem_cons.mpr ⟨ly_X3_4, List.forall_mem_cons.mpr ⟨ly_X3_5, List.forall_mem_cons.mpr ⟨ly_X3_6, List.forall_mem_cons.mpr ⟨ly_X3_7, List.forall_mem_cons.mpr ⟨ly_X3_8, List.forall_mem_cons.mpr ⟨ly_X3_9, List.forall_mem_cons.mpr ⟨ly_X3_10, List.forall_mem_cons.mpr ⟨ly_X3_11, List.forall_mem_cons.mpr ⟨ly_X3_12, List.forall_mem_cons.mpr ⟨ly_X3_13, fun _ h => nomatch h⟩⟩⟩⟩⟩⟩⟩⟩⟩⟩⟩⟩⟩⟩
def NS : List Cond := [Cond.methodLinkNest RX3 139 yX2_assetShare "ProfitsOffice", Cond.methodLinkNest RX2 45 yX1_shareFor "ProfitsOffice", Cond.methodLinkNest RX1 30 yX3_parted "ProfitsOffice", Cond.methodLinkNest RX3 202 yX1_init "ProfitsOffice", Cond.methodLinkNest RX1 18 yX0_init "ProfitsOffice", Cond.fieldLinkNest RX1 23 "ProfitsOffice$Fund" "amount" "J" "ProfitsOffice", Cond.fieldLinkNest RX3 151 "ProfitsOffice$Fund" "amount" "J" "ProfitsOffice", Cond.fieldLinkNest RX3 196 "ProfitsOffice$Generation" "begun" "I" "ProfitsOffice", Cond.fieldLinkNest RX3 199 "ProfitsOffice$Generation" "term" "I" "ProfitsOffice", Cond.fieldLinkNest RX3 161 "ProfitsOffice$Generation" "fund" "LProfitsOffice$Fund;" "ProfitsOffice", Cond.fieldLinkNest RX3 208 "ProfitsOffice$Generation" "premiums" "J" "ProfitsOffice", Cond.methodLinkNest RX3 74 yX2_init "ProfitsOffice", Cond.methodLinkNest RX2 24 yX0_init "ProfitsOffice", Cond.fieldLinkNest RX3 192 "ProfitsOffice$Policy" "generation" "LProfitsOffice$Generation;" "ProfitsOffice", Cond.fieldLinkNest RX3 218 "ProfitsOffice$Policy" "premium" "I" "ProfitsOffice", Cond.fieldLinkNest RX3 147 "ProfitsOffice$Policy" "alone" "LProfitsOffice$Fund;" "ProfitsOffice", Cond.fieldLinkNest RX3 136 "ProfitsOffice$Policy" "bonuses" "J" "ProfitsOffice", Cond.fieldLinkNest RX3 133 "ProfitsOffice$Policy" "state" "I" "ProfitsOffice", Cond.fieldLinkNest RX3 164 "ProfitsOffice$Policy" "paid" "J" "ProfitsOffice", Cond.methodLinkNest RX3 143 yX2_isInForce "ProfitsOffice", Cond.methodLinkNest RX3 239 yX1_release "ProfitsOffice", Cond.methodLinkNest RX3 211 yX0_earn "ProfitsOffice", Cond.methodLinkNest RX0 13 yX3_thousandths "ProfitsOffice", Cond.methodLinkNest RX3 215 yX0_takeCharge "ProfitsOffice", Cond.methodLinkNest RX3 173 yX2_guaranteed "ProfitsOffice"]
theorem nm_X3_139 : Cond.methodLinkNest RX3 139 yX2_assetShare "ProfitsOffice" ∈ NS := List.mem_of_getElem? (i := 0) rfl
theorem nm_X2_45 : Cond.methodLinkNest RX2 45 yX1_shareFor "ProfitsOffice" ∈ NS := List.mem_of_getElem? (i := 1) rfl
theorem nm_X1_30 : Cond.methodLinkNest RX1 30 yX3_parted "ProfitsOffice" ∈ NS := List.mem_of_getElem? (i := 2) rfl
theorem nm_X3_202 : Cond.methodLinkNest RX3 202 yX1_init "ProfitsOffice" ∈ NS := List.mem_of_getElem? (i := 3) rfl
theorem nm_X1_18 : Cond.methodLinkNest RX1 18 yX0_init "ProfitsOffice" ∈ NS := List.mem_of_getElem? (i := 4) rfl
theorem nf_X1_23 : Cond.fieldLinkNest RX1 23 "ProfitsOffice$Fund" "amount" "J" "ProfitsOffice" ∈ NS := List.mem_of_getElem? (i := 5) rfl
theorem nf_X3_151 : Cond.fieldLinkNest RX3 151 "ProfitsOffice$Fund" "amount" "J" "ProfitsOffice" ∈ NS := List.mem_of_getElem? (i := 6) rfl
theorem nf_X3_196 : Cond.fieldLinkNest RX3 196 "ProfitsOffice$Generation" "begun" "I" "ProfitsOffice" ∈ NS := List.mem_of_getElem? (i := 7) rfl
theorem nf_X3_199 : Cond.fieldLinkNest RX3 199 "ProfitsOffice$Generation" "term" "I" "ProfitsOffice" ∈ NS := List.mem_of_getElem? (i := 8) rfl
theorem nf_X3_161 : Cond.fieldLinkNest RX3 161 "ProfitsOffice$Generation" "fund" "LProfitsOffice$Fund;" "ProfitsOffice" ∈ NS := List.mem_of_getElem? (i := 9) rfl
theorem nf_X3_208 : Cond.fieldLinkNest RX3 208 "ProfitsOffice$Generation" "premiums" "J" "ProfitsOffice" ∈ NS := List.mem_of_getElem? (i := 10) rfl
theorem nm_X3_74 : Cond.methodLinkNest RX3 74 yX2_init "ProfitsOffice" ∈ NS := List.mem_of_getElem? (i := 11) rfl
theorem nm_X2_24 : Cond.methodLinkNest RX2 24 yX0_init "ProfitsOffice" ∈ NS := List.mem_of_getElem? (i := 12) rfl
theorem nf_X3_192 : Cond.fieldLinkNest RX3 192 "ProfitsOffice$Policy" "generation" "LProfitsOffice$Generation;" "ProfitsOffice" ∈ NS := List.mem_of_getElem? (i := 13) rfl
theorem nf_X3_218 : Cond.fieldLinkNest RX3 218 "ProfitsOffice$Policy" "premium" "I" "ProfitsOffice" ∈ NS := List.mem_of_getElem? (i := 14) rfl
theorem nf_X3_147 : Cond.fieldLinkNest RX3 147 "ProfitsOffice$Policy" "alone" "LProfitsOffice$Fund;" "ProfitsOffice" ∈ NS := List.mem_of_getElem? (i := 15) rfl
theorem nf_X3_136 : Cond.fieldLinkNest RX3 136 "ProfitsOffice$Policy" "bonuses" "J" "ProfitsOffice" ∈ NS := List.mem_of_getElem? (i := 16) rfl
theorem nf_X3_133 : Cond.fieldLinkNest RX3 133 "ProfitsOffice$Policy" "state" "I" "ProfitsOffice" ∈ NS := List.mem_of_getElem? (i := 17) rfl
theorem nf_X3_164 : Cond.fieldLinkNest RX3 164 "ProfitsOffice$Policy" "paid" "J" "ProfitsOffice" ∈ NS := List.mem_of_getElem? (i := 18) rfl
theorem nm_X3_143 : Cond.methodLinkNest RX3 143 yX2_isInForce "ProfitsOffice" ∈ NS := List.mem_of_getElem? (i := 19) rfl
theorem nm_X3_239 : Cond.methodLinkNest RX3 239 yX1_release "ProfitsOffice" ∈ NS := List.mem_of_getElem? (i := 20) rfl
theorem nm_X3_211 : Cond.methodLinkNest RX3 211 yX0_earn "ProfitsOffice" ∈ NS := List.mem_of_getElem? (i := 21) rfl
theorem nm_X0_13 : Cond.methodLinkNest RX0 13 yX3_thousandths "ProfitsOffice" ∈ NS := List.mem_of_getElem? (i := 22) rfl
theorem nm_X3_215 : Cond.methodLinkNest RX3 215 yX0_takeCharge "ProfitsOffice" ∈ NS := List.mem_of_getElem? (i := 23) rfl
theorem nm_X3_173 : Cond.methodLinkNest RX3 173 yX2_guaranteed "ProfitsOffice" ∈ NS := List.mem_of_getElem? (i := 24) rfl
theorem ns_tbl : ∀ w ∈ NS, w ∈ lw_tbl := List.forall_mem_cons.mpr ⟨List.mem_append_right _ (List.mem_of_getElem? (i := 192) (by decide +kernel)), List.forall_mem_cons.mpr ⟨List.mem_append_right _ (List.mem_of_getElem? (i := 201) (by decide +kernel)), List.forall_mem_cons.mpr ⟨List.mem_append_right _ (List.mem_of_getElem? (i := 206) (by decide +kernel)), List.forall_mem_cons.mpr ⟨List.mem_append_right _ (List.mem_of_getElem? (i := 274) (by decide +kernel)), List.forall_mem_cons.mpr ⟨List.mem_append_right _ (List.mem_of_getElem? (i := 280) (by decide +kernel)), List.forall_mem_cons.mpr ⟨List.mem_append_right _ (List.mem_of_getElem? (i := 285) (by decide +kernel)), List.forall_mem_cons.mpr ⟨List.mem_append_right _ (List.mem_of_getElem? (i := 286) (by decide +kernel)), List.forall_mem_cons.mpr ⟨List.mem_append_right _ (List.mem_of_getElem? (i := 291) (by decide +kernel)), List.forall_mem_cons.mpr ⟨List.mem_append_right _ (List.mem_of_getElem? (i := 293) (by decide +kernel)), List.forall_mem_cons.mpr ⟨List.mem_append_right _ (List.mem_of_getElem? (i := 295) (by decide +kernel)), List.forall_mem_cons.mpr ⟨List.mem_append_right _ (List.mem_of_getElem? (i := 297) (by decide +kernel)), List.forall_mem_cons.mpr ⟨List.mem_append_right _ (List.mem_of_getElem? (i := 307) (by decide +kernel)), List.forall_mem_cons.mpr ⟨List.mem_append_right _ (List.mem_of_getElem? (i := 312) (by decide +kernel)), List.forall_mem_cons.mpr ⟨List.mem_append_right _ (List.mem_of_getElem? (i := 315) (by decide +kernel)), List.forall_mem_cons.mpr ⟨List.mem_append_right _ (List.mem_of_getElem? (i := 317) (by decide +kernel)), List.forall_mem_cons.mpr ⟨List.mem_append_right _ (List.mem_of_getElem? (i := 320) (by decide +kernel)), List.forall_mem_cons.mpr ⟨List.mem_append_right _ (List.mem_of_getElem? (i := 322) (by decide +kernel)), List.forall_mem_cons.mpr ⟨List.mem_append_right _ (List.mem_of_getElem? (i := 324) (by decide +kernel)), List.forall_mem_cons.mpr ⟨List.mem_append_right _ (List.mem_of_getElem? (i := 326) (by decide +kernel)), List.forall_mem_cons.mpr ⟨List.mem_append_right _ (List.mem_of_getElem? (i := 353) (by decide +kernel)), List.forall_mem_cons.mpr ⟨List.mem_append_right _ (List.mem_of_getElem? (i := 380) (by decide +kernel)), List.forall_mem_cons.mpr ⟨List.mem_append_right _ (List.mem_of_getElem? (i := 405) (by decide +kernel)), List.forall_mem_cons.mpr ⟨List.mem_append_right _ (List.mem_of_getElem? (i := 409) (by decide +kernel)), List.forall_mem_cons.mpr ⟨List.mem_append_right _ (List.mem_of_getElem? (i := 410) (by decide +kernel)), List.forall_mem_cons.mpr ⟨List.mem_append_right _ (List.mem_of_getElem? (i := 422) (by decide +kernel)), fun _ h => nomatch h⟩⟩⟩⟩⟩⟩⟩⟩⟩⟩⟩⟩⟩⟩⟩⟩⟩⟩⟩⟩⟩⟩⟩⟩⟩
end
section
/-! base rows: one world of numbered roles; where a role's cell lies is ad, what it holds is g -/
section ZB
def zN (U : State) : Prop := ∀ w ∈ NS, va_Nw w U
theorem ns_tab : ∀ w ∈ NS, w.onTables = true := by decide +kernel
theorem ns_kind : ∀ w ∈ NS, (∃ a i b n d h, w = Cond.fieldLinkNest a i b n d h) ∨ (∃ a i x h, w = Cond.methodLinkNest a i x h) := by
  intro w hw
  cases w <;> first | exact Or.inl ⟨_, _, _, _, _, _, rfl⟩ | exact Or.inr ⟨_, _, _, _, rfl⟩ | (exfalso; revert hw; simp [NS])
theorem zN.calling {U : State} {g : JFrame} {mk : MethodId} {a : Array Value} (h : zN U) : zN (U.calling g mk a) := fun w hw => va_Nw.same (u := U) (U := U.calling g mk a) (ns_tab w hw) rfl (h w hw)
theorem zN.warm {s U : State} (hW : s.WarmedH U.vm) (h : zN s) : zN U := by
  intro w hw
  rcases ns_kind w hw with ⟨a, i, b, n, d, k, rfl⟩ | ⟨a, i, x, k, rfl⟩
  · exact va_Nw.warmF hW (h _ hw)
  · exact va_Nw.warmM hW (h _ hw)
/-- the four array classes: of ints, longs, generations, policies -/
def zT (ks : Nat → ClassId) : List (ClassId × FieldType) := [(ks 1, .long), (ks 1, .long), (ks 2, .object "ProfitsOffice$Generation"), (ks 3, .object "ProfitsOffice$Policy")]
def zK (D : va_G) (ks : Nat → ClassId) (U : State) : Prop := va_K D vwCl (zT ks) U ∧ zN U
theorem zK.calling {D : va_G} {ks : Nat → ClassId} {U : State} {g : JFrame} {mk : MethodId} {a : Array Value} (h : zK D ks U) : zK D ks (U.calling g mk a) := ⟨va_K.moved (u := U) (U := U.calling g mk a) (Vm.Alike.refl U.vm) h.1, h.2.calling⟩
theorem zK.warm {D : va_G} {ks : Nat → ClassId} {s U : State} (hW : s.WarmedH U.vm) (h : zK D ks s) : zK D ks U := ⟨va_K.moved hW.alike h.1, h.2.warm hW⟩
def zP (D : va_G) (Rs : List Nat) (ad : Nat → Nat) (g : Nat → va_E) (H : Heap) : Prop := ∀ r ∈ Rs, va_at D vwCl (ad r, g r) H
def zD (A : Nat → Prop) (Rs : List Nat) (ad : Nat → Nat) : Prop := Rs.Nodup ∧ (∀ r ∈ Rs, ∀ q ∈ Rs, ad r = ad q → r = q) ∧ ∀ r ∈ Rs, A (ad r)
def zA (Rs : List Nat) (ad : Nat → Nat) (sz : Nat) : Nat → Prop := fun q => (∃ r ∈ Rs, q = ad r) ∨ sz ≤ q
def zL (Rs : List Nat) (ad : Nat → Nat) (g : Nat → va_E) : va_W := Rs.map (fun r => (ad r, g r))
theorem zP.ws {D : va_G} {Rs : List Nat} {ad : Nat → Nat} {g : Nat → va_E} {H : Heap} (h : zP D Rs ad g H) : va_P D vwCl (zL Rs ad g) H := by
  intro k q hk
  simp only [zL, List.getElem?_map, Option.map_eq_some_iff] at hk
  obtain ⟨r, hr, rfl⟩ := hk
  exact h r (List.mem_of_getElem? hr)
theorem zP.of {D : va_G} {Rs : List Nat} {ad : Nat → Nat} {g : Nat → va_E} {H : Heap} (h : va_P D vwCl (zL Rs ad g) H) : zP D Rs ad g H := by
  intro r hr
  obtain ⟨k, hk⟩ := List.getElem?_of_mem hr
  exact h k (ad r, g r) (by simp [zL, hk])
theorem zD.ws {A : Nat → Prop} {Rs : List Nat} {ad : Nat → Nat} (h : zD A Rs ad) (g : Nat → va_E) : va_D A (zL Rs ad g) := by
  refine ⟨fun i j p q hi hj e => ?_, fun k q hk => ?_⟩
  · simp only [zL, List.getElem?_map, Option.map_eq_some_iff] at hi hj
    obtain ⟨r, hr, rfl⟩ := hi
    obtain ⟨r', hr', rfl⟩ := hj
    have e1 := h.2.1 r (List.mem_of_getElem? hr) r' (List.mem_of_getElem? hr') e
    subst e1
    exact (List.getElem?_inj (List.getElem?_eq_some_iff.mp hr).1 h.1).mp (hr.trans hr'.symm)
  · simp only [zL, List.getElem?_map, Option.map_eq_some_iff] at hk
    obtain ⟨r, hr, rfl⟩ := hk
    exact h.2.2 r (List.mem_of_getElem? hr)
theorem zL_at {Rs : List Nat} {ad : Nat → Nat} (g : Nat → va_E) {r : Nat} (hr : r ∈ Rs) : ∃ k : Nat, Rs[k]? = some r ∧ (zL Rs ad g)[k]? = some (ad r, g r) := by
  obtain ⟨k, hk⟩ := List.getElem?_of_mem hr
  exact ⟨k, hk, by simp [zL, hk]⟩
theorem zL_set {Rs : List Nat} {ad : Nat → Nat} {g : Nat → va_E} {r k : Nat} {e : va_E} (hn : Rs.Nodup) (hk : Rs[k]? = some r) : (zL Rs ad g).set k (ad r, e) = zL Rs ad (va_up g r e) := by
  apply List.ext_getElem?
  intro j
  by_cases hj : j = k
  · subst hj
    rw [List.getElem?_set_self (by simp [zL]; exact (List.getElem?_eq_some_iff.mp hk).1)]
    simp [zL, hk, va_up]
  · rw [List.getElem?_set_ne (Ne.symm hj)]
    simp only [zL, List.getElem?_map]
    cases hb : Rs[j]? with
    | none => rfl
    | some b =>
      have hba : b ≠ r := by
        intro e1
        subst e1
        exact hj ((List.getElem?_inj (List.getElem?_eq_some_iff.mp hb).1 hn).mp (hb.trans hk.symm))
      simp [va_up, hba]
theorem zP.cast {D : va_G} {Rs : List Nat} {ad : Nat → Nat} {g g' : Nat → va_E} {H : Heap} (h : zP D Rs ad g H) (e : ∀ r ∈ Rs, g' r = g r) : zP D Rs ad g' H := fun r hr => by rw [e r hr]; exact h r hr
theorem zP.at {D : va_G} {Rs : List Nat} {ad : Nat → Nat} {g : Nat → va_E} {H : Heap} (h : zP D Rs ad g H) {r : Nat} (hr : r ∈ Rs) {e : va_E} (he : g r = e) : va_at D vwCl (ad r, e) H := by rw [← he]; exact h r hr
theorem zP.lt {D : va_G} {Rs : List Nat} {ad : Nat → Nat} {g : Nat → va_E} {H : Heap} (h : zP D Rs ad g H) {r : Nat} (hr : r ∈ Rs) : ad r < H.size := by
  obtain ⟨k, -, hk⟩ := zL_at g hr (ad := ad)
  exact (h.ws k _ hk).lt
theorem zD.self {Rs : List Nat} {ad : Nat → Nat} {A : Nat → Prop} {sz : Nat} (h : zD A Rs ad) : zD (zA Rs ad sz) Rs ad := ⟨h.1, h.2.1, fun r hr => Or.inl ⟨r, hr, rfl⟩⟩
theorem zD.free {Rs : List Nat} {ad : Nat → Nat} {A : Nat → Prop} {sz : Nat} (h : zD A Rs ad) (hA : ∀ q, sz ≤ q → A q) : ∀ q, zA Rs ad sz q → A q := by
  rintro q (⟨r, hr, rfl⟩ | h1)
  · exact h.2.2 r hr
  · exact hA q h1
theorem z1P {D : va_G} {a : Nat} {e : va_E} {H : Heap} (h : va_at D vwCl (a, e) H) : va_P D vwCl [(a, e)] H := by
  intro k q hk
  cases k with
  | zero => cases hk; exact h
  | succ k => simp at hk
theorem z_word {own : Cond} {args : Array Value} {s : State} (hT : ∀ w ∈ WS, w.before args s = true) (h : own ∈ WS) : own.before args s = true := hT _ h
section ZR
variable {p : Program} {l : Launch} {e : Env} {R : Room} {s : State} {m : MethodId} {args : Array Value} {below : List Frame} {meth : Method} {c : Code} {H : Heap} {locs : List Loc} {cells slots : Nat} {Q : State → Prop}
variable {cc : ByteArray} {pc : Nat} {ls : Array Slot} {rest : List Value} {D : va_G} {ks : Nat → ClassId} {A : Nat → Prop} {a : Nat} {Rs : List Nat} {ad : Nat → Nat} {g : Nat → va_E}
theorem z_get (hx : p.tables.exec = Jvm.exec) (hb : c.code = cc) (hT : ∀ w ∈ WS, w.before args s = true) {own ref C : String} {T : u_T} {N ci index : Nat} (hown : s.vm.findClass own = some m.cls) (hK : zK D ks s) (hin : ∀ w ∈ u_ws C T N, w ∈ WS) (hc : vwCl[ci]? = some (C, T, N)) (k : Nat) (hk : k < N) (hlink : Cond.fieldLink own index ref (T k).2.1 (T k).2.2.1 ∈ WS) (hsame : ∀ x, s.fieldFound? (T k).1 (T k).2.1 (T k).2.2.1 = some x → s.fieldFound? ref (T k).2.1 (T k).2.2.1 = some x) {fs : List Value} {v : Value}
    (hat : va_at D vwCl (a, .inr (ci, fs)) H) (hv : fs[k]? = some v) (hdg : decode cc pc = .ok (.getfield index, 3))
    (kk : W p l e R s m args below meth c H locs cells slots Q (F0 m (pc + 3) ls (v :: rest))) : W p l e R s m args below meth c H locs cells slots Q (F0 m pc ls (.ref a :: rest)) :=
  va_get hx hb hT hin hown hK.1 (z1P hat) 0 rfl hc k hk (hT _ hlink) hsame hv hdg kk
theorem z_getN (hx : p.tables.exec = Jvm.exec) (hb : c.code = cc) (hT : ∀ w ∈ WS, w.before args s = true) {own ref C host : String} {T : u_T} {N ci index : Nat} (hown : s.vm.findClass own = some m.cls) (hK : zK D ks s) (hin : ∀ w ∈ u_ws C T N, w ∈ WS) (hc : vwCl[ci]? = some (C, T, N)) (k : Nat) (hk : k < N) (hlink : Cond.fieldLinkNest own index ref (T k).2.1 (T k).2.2.1 host ∈ NS) (hsame : ∀ x, s.fieldFound? (T k).1 (T k).2.1 (T k).2.2.1 = some x → s.fieldFound? ref (T k).2.1 (T k).2.2.1 = some x) {fs : List Value} {v : Value}
    (hat : va_at D vwCl (a, .inr (ci, fs)) H) (hv : fs[k]? = some v) (hdg : decode cc pc = .ok (.getfield index, 3))
    (kk : W p l e R s m args below meth c H locs cells slots Q (F0 m (pc + 3) ls (v :: rest))) : W p l e R s m args below meth c H locs cells slots Q (F0 m pc ls (.ref a :: rest)) :=
  va_getN hx hb hT hin hown hK.1 (z1P hat) 0 rfl hc k hk (va_Nw.use rfl (hK.2 _ hlink)) hsame hv hdg kk
theorem z_put (hx : p.tables.exec = Jvm.exec) (hb : c.code = cc) (hT : ∀ w ∈ WS, w.before args s = true) {own ref C : String} {T : u_T} {N ci index : Nat} (hown : s.vm.findClass own = some m.cls) (hK : zK D ks s) (hin : ∀ w ∈ u_ws C T N, w ∈ WS) (ty0 : Nat → FieldType) (hty : ∀ k, k < N → parseFieldDescriptor (T k).2.2.1 = some (ty0 k)) (hnm : ∀ a, a < N → ∀ b, b < N → a ≠ b → (T a).2.1 ≠ (T b).2.1) (hc : vwCl[ci]? = some (C, T, N)) (k : Nat) (hk : k < N) (hlink : Cond.fieldLink own index ref (T k).2.1 (T k).2.2.1 ∈ WS) (hsame : ∀ x, s.fieldFound? (T k).1 (T k).2.1 (T k).2.2.1 = some x → s.fieldFound? ref (T k).2.1 (T k).2.2.1 = some x) (hfin : (T k).2.2.2 = false) {ty : FieldType} {v : Value} (hd : parseFieldDescriptor (T k).2.2.1 = some ty) (hn : narrow ty v = v) (hfit : fits ty v = true)
    (hP : zP D Rs ad g H) (hD : zD A Rs ad) (hS : va_S A s.heap H locs) {r : Nat} (hr : r ∈ Rs) {fs : List Value} (he : g r = .inr (ci, fs)) (hl : k < fs.length) (hdg : decode cc pc = .ok (.putfield index, 3))
    (kk : ∀ (H1 : Heap) (locs1 : List Loc), zP D Rs ad (va_up g r (.inr (ci, fs.set k v))) H1 → va_S A s.heap H1 locs1 → W p l e R s m args below meth c H1 locs1 cells slots Q (F0 m (pc + 3) ls rest)) : W p l e R s m args below meth c H locs cells slots Q (F0 m pc ls (v :: .ref (ad r) :: rest)) := by
  obtain ⟨k0, h1, h2⟩ := zL_at g hr (ad := ad)
  rw [he] at h2
  exact va_put hx hb hT hin ty0 hty hnm hown hK.1 hP.ws (hD.ws g) hS k0 h2 hc k hk (hT _ hlink) hsame hfin hd hn hfit hl hdg (fun H1 locs1 hP1 _ hS1 => kk H1 locs1 (zP.of (by rw [← zL_set hD.1 h1]; exact hP1)) hS1)
theorem z_putN (hx : p.tables.exec = Jvm.exec) (hb : c.code = cc) (hT : ∀ w ∈ WS, w.before args s = true) {own ref C host : String} {T : u_T} {N ci index : Nat} (hown : s.vm.findClass own = some m.cls) (hK : zK D ks s) (hin : ∀ w ∈ u_ws C T N, w ∈ WS) (ty0 : Nat → FieldType) (hty : ∀ k, k < N → parseFieldDescriptor (T k).2.2.1 = some (ty0 k)) (hnm : ∀ a, a < N → ∀ b, b < N → a ≠ b → (T a).2.1 ≠ (T b).2.1) (hc : vwCl[ci]? = some (C, T, N)) (k : Nat) (hk : k < N) (hlink : Cond.fieldLinkNest own index ref (T k).2.1 (T k).2.2.1 host ∈ NS) (hsame : ∀ x, s.fieldFound? (T k).1 (T k).2.1 (T k).2.2.1 = some x → s.fieldFound? ref (T k).2.1 (T k).2.2.1 = some x) (hfin : (T k).2.2.2 = false) {ty : FieldType} {v : Value} (hd : parseFieldDescriptor (T k).2.2.1 = some ty) (hn : narrow ty v = v) (hfit : fits ty v = true)
    (hP : zP D Rs ad g H) (hD : zD A Rs ad) (hS : va_S A s.heap H locs) {r : Nat} (hr : r ∈ Rs) {fs : List Value} (he : g r = .inr (ci, fs)) (hl : k < fs.length) (hdg : decode cc pc = .ok (.putfield index, 3))
    (kk : ∀ (H1 : Heap) (locs1 : List Loc), zP D Rs ad (va_up g r (.inr (ci, fs.set k v))) H1 → va_S A s.heap H1 locs1 → W p l e R s m args below meth c H1 locs1 cells slots Q (F0 m (pc + 3) ls rest)) : W p l e R s m args below meth c H locs cells slots Q (F0 m pc ls (v :: .ref (ad r) :: rest)) := by
  obtain ⟨k0, h1, h2⟩ := zL_at g hr (ad := ad)
  rw [he] at h2
  exact va_putN hx hb hT hin ty0 hty hnm hown hK.1 hP.ws (hD.ws g) hS k0 h2 hc k hk (va_Nw.use rfl (hK.2 _ hlink)) hsame hfin hd hn hfit hl hdg (fun H1 locs1 hP1 _ hS1 => kk H1 locs1 (zP.of (by rw [← zL_set hD.1 h1]; exact hP1)) hS1)
theorem z_putF (hx : p.tables.exec = Jvm.exec) (hb : c.code = cc) (hT : ∀ w ∈ WS, w.before args s = true) {own ref C : String} {T : u_T} {N ci index : Nat} (hown : s.vm.findClass own = some m.cls) (hK : zK D ks s) (hin : ∀ w ∈ u_ws C T N, w ∈ WS) (ty0 : Nat → FieldType) (hty : ∀ k, k < N → parseFieldDescriptor (T k).2.2.1 = some (ty0 k)) (hnm : ∀ a, a < N → ∀ b, b < N → a ≠ b → (T a).2.1 ≠ (T b).2.1) (hc : vwCl[ci]? = some (C, T, N)) (k : Nat) (hk : k < N) (hlink : Cond.fieldLink own index ref (T k).2.1 (T k).2.2.1 ∈ WS) (hsame : ∀ x, s.fieldFound? (T k).1 (T k).2.1 (T k).2.2.1 = some x → s.fieldFound? ref (T k).2.1 (T k).2.2.1 = some x) (hfin : (T k).2.2.2 = true) (hin2 : meth.name = "<init>") (hdecl : (T k).1 = own) {ty : FieldType} {v : Value} (hd : parseFieldDescriptor (T k).2.2.1 = some ty) (hn : narrow ty v = v) (hfit : fits ty v = true)
    (hP : zP D Rs ad g H) (hD : zD A Rs ad) (hS : va_S A s.heap H locs) {r : Nat} (hr : r ∈ Rs) {fs : List Value} (he : g r = .inr (ci, fs)) (hl : k < fs.length) (hdg : decode cc pc = .ok (.putfield index, 3))
    (kk : ∀ (H1 : Heap) (locs1 : List Loc), zP D Rs ad (va_up g r (.inr (ci, fs.set k v))) H1 → va_S A s.heap H1 locs1 → W p l e R s m args below meth c H1 locs1 cells slots Q (F0 m (pc + 3) ls rest)) : W p l e R s m args below meth c H locs cells slots Q (F0 m pc ls (v :: .ref (ad r) :: rest)) := by
  obtain ⟨k0, h1, h2⟩ := zL_at g hr (ad := ad)
  rw [he] at h2
  exact va_putF hx hb hT hin ty0 hty hnm hown hK.1 hP.ws (hD.ws g) hS k0 h2 hc k hk (hT _ hlink) hsame hfin hin2 hdecl hd hn hfit hl hdg (fun H1 locs1 hP1 _ hS1 => kk H1 locs1 (zP.of (by rw [← zL_set hD.1 h1]; exact hP1)) hS1)
theorem z_lald (hx : p.tables.exec = Jvm.exec) (hb : c.code = cc) (hK : zK D ks s) {n : Nat} {f : Nat → Int64} (hat : va_at D vwCl (a, .inl (ks 1, n, .inr (.inl f))) H) {i : Int32} (hin : vp_in i n) (hdg : decode cc pc = .ok (.laload, 1))
    (kk : W p l e R s m args below meth c H locs cells slots Q (F0 m (pc + 1) ls (.long (f i.toNatClampNeg) :: rest))) : W p l e R s m args below meth c H locs cells slots Q (F0 m pc ls (.int i :: .ref a :: rest)) := va_lald hx hb hK.1 (z1P hat) 0 1 rfl rfl hin hdg kk
theorem z_gald (hx : p.tables.exec = Jvm.exec) (hb : c.code = cc) (hK : zK D ks s) {n : Nat} {f : Nat → Option Nat} (hat : va_at D vwCl (a, .inl (ks 2, n, .inr (.inr (.inr (.inr f))))) H) {i : Int32} (hin : vp_in i n) (hdg : decode cc pc = .ok (.aaload, 1))
    (kk : W p l e R s m args below meth c H locs cells slots Q (F0 m (pc + 1) ls (va_rf (f i.toNatClampNeg) :: rest))) : W p l e R s m args below meth c H locs cells slots Q (F0 m pc ls (.int i :: .ref a :: rest)) := va_aldq hx hb hK.1 (z1P hat) 0 2 rfl rfl hin hdg kk
theorem z_pald (hx : p.tables.exec = Jvm.exec) (hb : c.code = cc) (hK : zK D ks s) {n : Nat} {f : Nat → Option Nat} (hat : va_at D vwCl (a, .inl (ks 3, n, .inr (.inr (.inr (.inr f))))) H) {i : Int32} (hin : vp_in i n) (hdg : decode cc pc = .ok (.aaload, 1))
    (kk : W p l e R s m args below meth c H locs cells slots Q (F0 m (pc + 1) ls (va_rf (f i.toNatClampNeg) :: rest))) : W p l e R s m args below meth c H locs cells slots Q (F0 m pc ls (.int i :: .ref a :: rest)) := va_aldq hx hb hK.1 (z1P hat) 0 3 rfl rfl hin hdg kk
theorem z_jlen (hx : p.tables.exec = Jvm.exec) (hb : c.code = cc) (hK : zK D ks s) {n : Nat} {f : Nat → Int64} (hat : va_at D vwCl (a, .inl (ks 1, n, .inr (.inl f))) H) {v : Int32} (hv : Int32.ofNat n = v) (hdg : decode cc pc = .ok (.arraylength, 1))
    (kk : W p l e R s m args below meth c H locs cells slots Q (F0 m (pc + 1) ls (.int v :: rest))) : W p l e R s m args below meth c H locs cells slots Q (F0 m pc ls (.ref a :: rest)) := va_alen hx hb hK.1 (z1P hat) 0 1 rfl rfl hv hdg kk
theorem z_glen (hx : p.tables.exec = Jvm.exec) (hb : c.code = cc) (hK : zK D ks s) {n : Nat} {f : Nat → Option Nat} (hat : va_at D vwCl (a, .inl (ks 2, n, .inr (.inr (.inr (.inr f))))) H) {v : Int32} (hv : Int32.ofNat n = v) (hdg : decode cc pc = .ok (.arraylength, 1))
    (kk : W p l e R s m args below meth c H locs cells slots Q (F0 m (pc + 1) ls (.int v :: rest))) : W p l e R s m args below meth c H locs cells slots Q (F0 m pc ls (.ref a :: rest)) := va_alen hx hb hK.1 (z1P hat) 0 2 rfl rfl hv hdg kk
theorem z_plen (hx : p.tables.exec = Jvm.exec) (hb : c.code = cc) (hK : zK D ks s) {n : Nat} {f : Nat → Option Nat} (hat : va_at D vwCl (a, .inl (ks 3, n, .inr (.inr (.inr (.inr f))))) H) {v : Int32} (hv : Int32.ofNat n = v) (hdg : decode cc pc = .ok (.arraylength, 1))
    (kk : W p l e R s m args below meth c H locs cells slots Q (F0 m (pc + 1) ls (.int v :: rest))) : W p l e R s m args below meth c H locs cells slots Q (F0 m pc ls (.ref a :: rest)) := va_alen hx hb hK.1 (z1P hat) 0 3 rfl rfl hv hdg kk
theorem z_last (hx : p.tables.exec = Jvm.exec) (hb : c.code = cc) (hK : zK D ks s) (hP : zP D Rs ad g H) (hD : zD A Rs ad) (hS : va_S A s.heap H locs) {r : Nat} (hr : r ∈ Rs) {n : Nat} {f : Nat → Int64} (he : g r = .inl (ks 1, n, .inr (.inl f))) {i : Int32} {x : Int64} (hin : vp_in i n) (hdg : decode cc pc = .ok (.lastore, 1))
    (kk : ∀ (H1 : Heap) (locs1 : List Loc), zP D Rs ad (va_up g r (.inl (ks 1, n, .inr (.inl (vp_updL f i.toNatClampNeg x))))) H1 → va_S A s.heap H1 locs1 → W p l e R s m args below meth c H1 locs1 cells slots Q (F0 m (pc + 1) ls rest)) : W p l e R s m args below meth c H locs cells slots Q (F0 m pc ls (.long x :: .int i :: .ref (ad r) :: rest)) := by
  obtain ⟨k0, h1, h2⟩ := zL_at g hr (ad := ad)
  rw [he] at h2
  exact va_last hx hb hK.1 hP.ws (hD.ws g) hS k0 1 h2 rfl hin hdg (fun H1 locs1 hP1 _ hS1 => kk H1 locs1 (zP.of (by rw [← zL_set hD.1 h1]; exact hP1)) hS1)
theorem z_gast (hx : p.tables.exec = Jvm.exec) (hb : c.code = cc) (hK : zK D ks s) (hP : zP D Rs ad g H) (hD : zD A Rs ad) (hS : va_S A s.heap H locs) {r q : Nat} (hr : r ∈ Rs) {n : Nat} {f : Nat → Option Nat} (he : g r = .inl (ks 2, n, .inr (.inr (.inr (.inr f))))) (hq : q ∈ Rs) {vs : List Value} (hv : g q = .inr (1, vs)) {i : Int32} (hin : vp_in i n) (hdg : decode cc pc = .ok (.aastore, 1))
    (kk : ∀ (H1 : Heap) (locs1 : List Loc), zP D Rs ad (va_up g r (.inl (ks 2, n, .inr (.inr (.inr (.inr (va_up f i.toNatClampNeg (some (ad q))))))))) H1 → va_S A s.heap H1 locs1 → W p l e R s m args below meth c H1 locs1 cells slots Q (F0 m (pc + 1) ls rest)) : W p l e R s m args below meth c H locs cells slots Q (F0 m pc ls (.ref (ad q) :: .int i :: .ref (ad r) :: rest)) := by
  obtain ⟨k0, h1, h2⟩ := zL_at g hr (ad := ad)
  rw [he] at h2
  obtain ⟨k1, -, h4⟩ := zL_at g hq (ad := ad)
  rw [hv] at h4
  exact va_astq hx hb hK.1 hP.ws (hD.ws g) hS k0 2 k1 1 (r := (RX1, TX1, 4)) h2 rfl h4 rfl hin hdg (fun H1 locs1 hP1 _ hS1 => kk H1 locs1 (zP.of (by rw [← zL_set hD.1 h1]; exact hP1)) hS1)
theorem z_past (hx : p.tables.exec = Jvm.exec) (hb : c.code = cc) (hK : zK D ks s) (hP : zP D Rs ad g H) (hD : zD A Rs ad) (hS : va_S A s.heap H locs) {r q : Nat} (hr : r ∈ Rs) {n : Nat} {f : Nat → Option Nat} (he : g r = .inl (ks 3, n, .inr (.inr (.inr (.inr f))))) (hq : q ∈ Rs) {vs : List Value} (hv : g q = .inr (2, vs)) {i : Int32} (hin : vp_in i n) (hdg : decode cc pc = .ok (.aastore, 1))
    (kk : ∀ (H1 : Heap) (locs1 : List Loc), zP D Rs ad (va_up g r (.inl (ks 3, n, .inr (.inr (.inr (.inr (va_up f i.toNatClampNeg (some (ad q))))))))) H1 → va_S A s.heap H1 locs1 → W p l e R s m args below meth c H1 locs1 cells slots Q (F0 m (pc + 1) ls rest)) : W p l e R s m args below meth c H locs cells slots Q (F0 m pc ls (.ref (ad q) :: .int i :: .ref (ad r) :: rest)) := by
  obtain ⟨k0, h1, h2⟩ := zL_at g hr (ad := ad)
  rw [he] at h2
  obtain ⟨k1, -, h4⟩ := zL_at g hq (ad := ad)
  rw [hv] at h4
  exact va_astq hx hb hK.1 hP.ws (hD.ws g) hS k0 3 k1 2 (r := (RX2, TX2, 7)) h2 rfl h4 rfl hin hdg (fun H1 locs1 hP1 _ hS1 => kk H1 locs1 (zP.of (by rw [← zL_set hD.1 h1]; exact hP1)) hS1)
/-- long comparisons and the branch behind them -/
theorem z_lcmp_le (hx : p.tables.exec = Jvm.exec) (hb : c.code = cc) {x y : Int64} {off : Int} {tgt : Nat} (h1 : decode cc pc = .ok (.lcmp, 1)) (h2 : decode cc (pc + 1) = .ok (.ifCond .le off, 3)) (ht : ((pc + 1 : Nat) : Int) + off = (tgt : Int))
    (kt : ¬ y < x → W p l e R s m args below meth c H locs cells slots Q (F0 m tgt ls rest)) (kf : y < x → W p l e R s m args below meth c H locs cells slots Q (F0 m (pc + 4) ls rest)) : W p l e R s m args below meth c H locs cells slots Q (F0 m pc ls (.long y :: .long x :: rest)) := by
  refine W.lcmp hx hb h1 (lv_if_le hx hb h2 ht (fun q => kt fun q2 => ?_) (fun q => kf ?_))
  · exact absurd q (by simp [lg_cmp, q2])
  · by_cases z : y < x
    · exact z
    · exact absurd (by by_cases z2 : x = y <;> simp [lg_cmp, z, z2]) q
theorem z_lcmp_ge (hx : p.tables.exec = Jvm.exec) (hb : c.code = cc) {x y : Int64} {off : Int} {tgt : Nat} (h1 : decode cc pc = .ok (.lcmp, 1)) (h2 : decode cc (pc + 1) = .ok (.ifCond .ge off, 3)) (ht : ((pc + 1 : Nat) : Int) + off = (tgt : Int))
    (kt : ¬ x < y → W p l e R s m args below meth c H locs cells slots Q (F0 m tgt ls rest)) (kf : x < y → W p l e R s m args below meth c H locs cells slots Q (F0 m (pc + 4) ls rest)) : W p l e R s m args below meth c H locs cells slots Q (F0 m pc ls (.long y :: .long x :: rest)) := by
  refine W.lcmp hx hb h1 (lv_if_ge hx hb h2 ht (fun q => kt fun q2 => ?_) (fun q => kf ?_))
  · have a1 : ¬ y < x := fun h => Int64.lt_irrefl (Int64.lt_trans h q2)
    have a2 : ¬ x = y := fun h => by subst h; exact Int64.lt_irrefl q2
    exact absurd q (by simp [lg_cmp, a1, a2])
  · by_cases z : y < x
    · exact absurd (by simp [lg_cmp, z]) q
    · by_cases z2 : x = y
      · exact absurd (by simp [lg_cmp, z2]) q
      · rcases Int64.lt_or_eq_of_le (Int64.not_lt.mp z) with h | h
        · exact h
        · exact absurd h z2
theorem z_lcmp_eq (hx : p.tables.exec = Jvm.exec) (hb : c.code = cc) {x y : Int64} {off : Int} {tgt : Nat} (h1 : decode cc pc = .ok (.lcmp, 1)) (h2 : decode cc (pc + 1) = .ok (.ifCond .eq off, 3)) (ht : ((pc + 1 : Nat) : Int) + off = (tgt : Int))
    (kt : x = y → W p l e R s m args below meth c H locs cells slots Q (F0 m tgt ls rest)) (kf : ¬ x = y → W p l e R s m args below meth c H locs cells slots Q (F0 m (pc + 4) ls rest)) : W p l e R s m args below meth c H locs cells slots Q (F0 m pc ls (.long y :: .long x :: rest)) := by
  refine W.lcmp hx hb h1 (lv_if_eq hx hb h2 ht (fun q => kt ?_) (fun q => kf fun q2 => ?_))
  · by_cases z : y < x
    · exact absurd q (by simp [lg_cmp, z])
    · by_cases z2 : x = y
      · exact z2
      · exact absurd q (by simp [lg_cmp, z, z2])
  · exact q (by subst q2; simp [lg_cmp])
theorem z_lcmp_ne (hx : p.tables.exec = Jvm.exec) (hb : c.code = cc) {x y : Int64} {off : Int} {tgt : Nat} (h1 : decode cc pc = .ok (.lcmp, 1)) (h2 : decode cc (pc + 1) = .ok (.ifCond .ne off, 3)) (ht : ((pc + 1 : Nat) : Int) + off = (tgt : Int))
    (kt : ¬ x = y → W p l e R s m args below meth c H locs cells slots Q (F0 m tgt ls rest)) (kf : x = y → W p l e R s m args below meth c H locs cells slots Q (F0 m (pc + 4) ls rest)) : W p l e R s m args below meth c H locs cells slots Q (F0 m pc ls (.long y :: .long x :: rest)) := by
  refine W.lcmp hx hb h1 (lv_if_ne hx hb h2 ht (fun q => kt fun q2 => ?_) (fun q => kf ?_))
  · exact q (by subst q2; simp [lg_cmp])
  · by_cases z : y < x
    · exact absurd q (by simp [lg_cmp, z])
    · by_cases z2 : x = y
      · exact z2
      · exact absurd q (by simp [lg_cmp, z, z2])
end ZR
end ZB
end
section
/-! contracts and calls -/
section ZC
def zRm (fr lo mc ms : Nat) : Room := { frames := fr, cells := mc, slots := ms, locals := lo }
/-- a method that changes no cell: what it answers -/
def zQR (v : Option Value) : Array Value → State → Outcome → State → Prop := fun _ st oc t => oc = .returned v ∧ t.heap = st.heap
def zQW (v : Option Value) (B : Heap → Prop) (A : Nat → Prop) : Array Value → State → Outcome → State → Prop := fun _ st oc t => oc = .returned v ∧ B t.heap ∧ va_F A st t
def zPR (D : va_G) (ks : Nat → ClassId) (As : List Value) (P : Heap → Prop) : Array Value → State → Prop := va_Pc As (fun U => P U.heap ∧ zK D ks U)
def zPW (D : va_G) (ks : Nat → ClassId) (sz : Nat) (As : List Value) (P : Heap → Prop) : Array Value → State → Prop := va_Pc As (fun U => U.heap.size = sz ∧ P U.heap ∧ zK D ks U)
def zMR (l : Launch) (y : MethodName) (cc : ByteArray) (n : Nat) (ret : Option FieldType) (fr lo : Nat) (D : va_G) (ks : Nat → ClassId) (As : List Value) (P : Heap → Prop) (v : Option Value) : Prop :=
  Met l y (Cond.code y cc n ret :: WS) (zRm fr lo 0 0) (zPR D ks As P) (zQR v) 0 0 (fun _ => False)
def zMW (l : Launch) (y : MethodName) (cc : ByteArray) (n : Nat) (ret : Option FieldType) (fr lo mc ms : Nat) (D : va_G) (ks : Nat → ClassId) (sz : Nat) (As : List Value) (P : Heap → Prop) (v : Option Value) (B : Heap → Prop) (A : Nat → Prop) : Prop :=
  Met l y (Cond.code y cc n ret :: WS) (zRm fr lo mc ms) (zPW D ks sz As P) (zQW v B A) mc ms A
theorem zPR.blind {D : va_G} {ks : Nat → ClassId} {As : List Value} {P : Heap → Prop} : FrameBlind (zPR D ks As P) := fun a U g mk q => ⟨q.1, q.2.1, q.2.2.calling⟩
theorem zPW.blind {D : va_G} {ks : Nat → ClassId} {sz : Nat} {As : List Value} {P : Heap → Prop} : FrameBlind (zPW D ks sz As P) := fun a U g mk q => ⟨q.1, q.2.1, q.2.2.1, q.2.2.2.calling⟩
theorem z_good {y : MethodName} {cy : ByteArray} {n : Nat} {ret : Option FieldType} (hc : Cond.code y cy n ret ∈ WS) : GoodIn WS (Cond.code y cy n ret :: WS) := by
  intro w hw
  have h : w ∈ WS := by
    rcases List.mem_cons.mp hw with rfl | h
    · exact hc
    · exact h
  exact ⟨h, ws_good h⟩
abbrev zcD (y : MethodName) (k : Nat) : Prop := y.cls ≠ "java/lang/invoke/MethodHandle" ∧ y.cls ≠ "java/lang/invoke/VarHandle" ∧ (parseMethodDescriptor y.desc).map (fun d => d.parameters.length) = some k
def zcS (own : String) (index : Nat) (y : MethodName) (cy : ByteArray) (n : Nat) (ret : Option FieldType) (k : Nat) : Prop := Cond.methodLink own index y ∈ WS ∧ Cond.static y ∈ WS ∧ Cond.initialized y.cls ∈ WS ∧ Cond.code y cy n ret ∈ WS ∧ zcD y k
def zcV (own : String) (index : Nat) (y : MethodName) (cy : ByteArray) (n : Nat) (ret : Option FieldType) (k : Nat) : Prop := Cond.methodLink own index y ∈ WS ∧ Cond.instanceMethod y ∈ WS ∧ Cond.selects y.cls y y ∈ WS ∧ Cond.initialized y.cls ∈ WS ∧ Cond.code y cy n ret ∈ WS ∧ zcD y k
def zcI (own : String) (index : Nat) (y : MethodName) (cy : ByteArray) (n : Nat) (k : Nat) : Prop := Cond.methodLink own index y ∈ WS ∧ Cond.instanceMethod y ∈ WS ∧ Cond.initialized y.cls ∈ WS ∧ Cond.code y cy n none ∈ WS ∧ zcD y k ∧ y.name = "<init>"
def zcSN (own : String) (index : Nat) (y : MethodName) (cy : ByteArray) (n : Nat) (ret : Option FieldType) (k : Nat) : Prop := Cond.methodLinkNest own index y "ProfitsOffice" ∈ NS ∧ Cond.static y ∈ WS ∧ Cond.initialized y.cls ∈ WS ∧ Cond.code y cy n ret ∈ WS ∧ zcD y k
def zcVN (own : String) (index : Nat) (y : MethodName) (cy : ByteArray) (n : Nat) (ret : Option FieldType) (k : Nat) : Prop := Cond.methodLinkNest own index y "ProfitsOffice" ∈ NS ∧ Cond.instanceMethod y ∈ WS ∧ Cond.selects y.cls y y ∈ WS ∧ Cond.initialized y.cls ∈ WS ∧ Cond.code y cy n ret ∈ WS ∧ zcD y k
def zcIN (own : String) (index : Nat) (y : MethodName) (cy : ByteArray) (n : Nat) (k : Nat) : Prop := Cond.methodLinkNest own index y "ProfitsOffice" ∈ NS ∧ Cond.instanceMethod y ∈ WS ∧ Cond.initialized y.cls ∈ WS ∧ Cond.code y cy n none ∈ WS ∧ zcD y k ∧ y.name = "<init>"
section ZCB
variable {l : Launch} {y : MethodName} {cc : ByteArray} {n : Nat} {ret : Option FieldType} {fr lo mc ms : Nat} {D : va_G} {ks : Nat → ClassId} {As : List Value} {P : Heap → Prop} {v : Option Value} {B : Heap → Prop} {A : Nat → Prop} {sz : Nat}
theorem zMR.of (hy : plainName y.cls = true) (hn : (lg_sl As).length ≤ n)
    (body : ∀ (p : Program) (e : Env) (s : State) (m : MethodId) (below : List Frame) (meth : Method) (c : Code) (ls : Array Slot), p.tables.exec = Jvm.exec → c.code = cc → meth.sig.returnType = ret → c.maxLocals = n → s.vm.findClass y.cls = some m.cls → meth.locks = false → (∀ w ∈ WS, w.before As.toArray s = true) → P s.heap → zK D ks s → lv_has ls n (lv_args 0 As) →
      W p l e (zRm fr lo 0 0) s m As.toArray below meth c s.heap [] 0 0 (MQ below (zQR v) As.toArray s 0 0 (fun _ => False)) (F0 m 0 ls [])) : zMR l y cc n ret fr lo D ks As P v := by
  refine Met.ofW (cc := cc) (maxL := n) (ret := ret) hy rfl ?_
  intro p e s m args below meth c s₁ B hml hv
  obtain ⟨rfl, hP, hK⟩ := hv
  rw [lg_entry_eq]
  exact body p e s m below meth c _ B.exec B.bytes B.returns hml (findClass_of_methodNamed B.named) B.notSynchronized (fun w hw => atoms_spec (ws := Cond.code y cc n ret :: WS) B.pre w (List.mem_cons_of_mem _ hw)) hP hK (lv_entry As hn)
theorem zMW.of (hy : plainName y.cls = true) (hn : (lg_sl As).length ≤ n)
    (body : ∀ (p : Program) (e : Env) (s : State) (m : MethodId) (below : List Frame) (meth : Method) (c : Code) (ls : Array Slot), p.tables.exec = Jvm.exec → c.code = cc → meth.sig.returnType = ret → c.maxLocals = n → s.vm.findClass y.cls = some m.cls → meth.locks = false → (∀ w ∈ WS, w.before As.toArray s = true) → s.heap.size = sz → P s.heap → zK D ks s → lv_has ls n (lv_args 0 As) → (y.name = "<init>" → meth.name = "<init>") →
      W p l e (zRm fr lo mc ms) s m As.toArray below meth c s.heap [] 0 0 (MQ below (zQW v B A) As.toArray s mc ms A) (F0 m 0 ls [])) : zMW l y cc n ret fr lo mc ms D ks sz As P v B A := by
  refine Met.ofW (cc := cc) (maxL := n) (ret := ret) hy rfl ?_
  intro p e s m args below meth c s₁ B hml hv
  obtain ⟨rfl, hsz, hP, hK⟩ := hv
  rw [lg_entry_eq]
  exact body p e s m below meth c _ B.exec B.bytes B.returns hml (findClass_of_methodNamed B.named) B.notSynchronized (fun w hw => atoms_spec (ws := Cond.code y cc n ret :: WS) B.pre w (List.mem_cons_of_mem _ hw)) hsz hP hK (lv_entry As hn) (fun h => (name_of_methodNamed B.named B.method).1.trans h)
end ZCB
theorem zMR.ofF {l : Launch} {y : MethodName} {cc : ByteArray} {n : Nat} {ret : Option FieldType} {fr lo : Nat} {D : va_G} {ks : Nat → ClassId} {As : List Value} {P : Heap → Prop} {v : Option Value} (hy : plainFor y = true) (hn : (lg_sl As).length ≤ n)
    (body : ∀ (p : Program) (e : Env) (s : State) (m : MethodId) (below : List Frame) (meth : Method) (c : Code) (ls : Array Slot), p.tables.exec = Jvm.exec → c.code = cc → meth.sig.returnType = ret → c.maxLocals = n → s.vm.findClass y.cls = some m.cls → meth.locks = false → (∀ w ∈ WS, w.before As.toArray s = true) → P s.heap → zK D ks s → lv_has ls n (lv_args 0 As) →
      W p l e (zRm fr lo 0 0) s m As.toArray below meth c s.heap [] 0 0 (MQ below (zQR v) As.toArray s 0 0 (fun _ => False)) (F0 m 0 ls [])) : zMR l y cc n ret fr lo D ks As P v := by
  unfold zMR Met
  refine MetFree.of_bodySF (code := cc) (maxLocals := n) (ret := ret) hy ?_ ?_
  · intro args s m h hn
    obtain ⟨meth, c, h1, h2, h3, h4, h5, h6, -, -⟩ := Cond.code_spec hn (atoms_spec (ws := Cond.code y cc n ret :: WS) h _ List.mem_cons_self)
    exact ⟨meth, c, h1, h2, h3, h4, h5, h6⟩
  · intro p e s m args below meth c s₁ B hml hv _
    obtain ⟨rfl, hP, hK⟩ := hv
    have hh0 : s₁.heap = s.heap := by rw [B.state]; rfl
    rw [lg_entry_eq]
    obtain ⟨t, a1, o, b1, b2, b3⟩ := body p e s m below meth c _ B.exec B.bytes B.returns hml (findClass_of_methodNamed B.named) B.notSynchronized (fun w hw => atoms_spec (ws := Cond.code y cc n ret :: WS) B.pre w (List.mem_cons_of_mem _ hw)) hP hK (lv_entry As hn) s₁ hh0 (Stand.of_body B)
    exact ⟨t, o, a1, b1, b2, ⟨b3.1, b3.2⟩⟩
section ZCR
variable {p : Program} {l : Launch} {e : Env} {R : Room} {s : State} {m : MethodId} {args : Array Value} {below : List Frame} {meth : Method} {c : Code} {H : Heap} {locs : List Loc} {cells slots : Nat} {Q : State → Prop}
variable {cc : ByteArray} {pc : Nat} {ls : Array Slot} {rest st0 : List Value} {D : va_G} {ks : Nat → ClassId} {A : Nat → Prop} {b : Nat}
variable {own : String} {index : Nat} {y : MethodName} {cy : ByteArray} {n2 nL : Nat} {ret2 : Option FieldType} {fr lo mc ms : Nat} {As : List Value} {P : Heap → Prop} {v : Option Value} {B : Heap → Prop} {A1 : Nat → Prop} {k : Nat}
/-! ends -/
theorem zR_l {x v : Int64} (hx : p.tables.exec = Jvm.exec) (hb : c.code = cc) (hr : meth.sig.returnType = some .long) (hlk : meth.locks = false) (hdg : decode cc pc = .ok (.lreturn, 1)) (hv : x = v) : W p l e R s m args below meth c s.heap [] 0 0 (MQ below (zQR (some (.long v))) args s 0 0 (fun _ => False)) (F0 m pc ls [.long x]) :=
  W.lret hx hb hr (fun t ht _ => ⟨by rw [hv], ht⟩) (fun _ h => nomatch h) hdg hlk
theorem zR_i {x v : Int32} (hx : p.tables.exec = Jvm.exec) (hb : c.code = cc) (hr : meth.sig.returnType = some .int) (hlk : meth.locks = false) (hdg : decode cc pc = .ok (.ireturn, 1)) (hv : x = v) : W p l e R s m args below meth c s.heap [] 0 0 (MQ below (zQR (some (.int v))) args s 0 0 (fun _ => False)) (F0 m pc ls [.int x]) :=
  W.iret hx hb hr (fun t ht _ => ⟨by rw [hv], ht⟩) (fun _ h => nomatch h) hdg hlk
theorem zR_z {x v : Int32} (hx : p.tables.exec = Jvm.exec) (hb : c.code = cc) (hr : meth.sig.returnType = some .boolean) (hlk : meth.locks = false) (hdg : decode cc pc = .ok (.ireturn, 1)) (hn : narrow .boolean (.int x) = .int x) (hv : x = v) : W p l e R s m args below meth c s.heap [] 0 0 (MQ below (zQR (some (.int v))) args s 0 0 (fun _ => False)) (F0 m pc ls [.int x]) :=
  W.zret hx hb hr hn (fun t ht _ => ⟨by rw [hv], ht⟩) (fun _ h => nomatch h) hdg hlk
theorem zR_v (hx : p.tables.exec = Jvm.exec) (hb : c.code = cc) (hr : meth.sig.returnType = none) (hlk : meth.locks = false) (hdg : decode cc pc = .ok (.return_, 1)) : W p l e R s m args below meth c s.heap [] 0 0 (MQ below (zQR none) args s 0 0 (fun _ => False)) (F0 m pc ls []) :=
  W.vret hx hb hr (fun t ht _ => ⟨rfl, ht⟩) (fun _ h => nomatch h) hdg hlk
theorem zR_a {x v : Value} {C : String} (hx : p.tables.exec = Jvm.exec) (hb : c.code = cc) (hr : meth.sig.returnType = some (.object C)) (hlk : meth.locks = false) (hdg : decode cc pc = .ok (.areturn, 1)) (hq : x = .null ∨ ∃ a, x = .ref a) (hv : x = v) : W p l e R s m args below meth c s.heap [] 0 0 (MQ below (zQR (some v)) args s 0 0 (fun _ => False)) (F0 m pc ls [x]) :=
  W.aret hx hb hr (Or.inl ⟨_, rfl⟩) hq (fun t ht _ => ⟨by rw [hv], ht⟩) (fun _ h => nomatch h) hdg hlk
theorem zW_l {x v : Int64} (hx : p.tables.exec = Jvm.exec) (hb : c.code = cc) (hr : meth.sig.returnType = some .long) (hlk : meth.locks = false) (hS : va_S A s.heap H locs) (hc : cells ≤ mc) (hs : slots ≤ ms) (hdg : decode cc pc = .ok (.lreturn, 1)) (hv : x = v) (hB : B H) : W p l e R s m args below meth c H locs cells slots (MQ below (zQW (some (.long v)) B A) args s mc ms A) (F0 m pc ls [.long x]) :=
  W.widen hc hs (W.lret hx hb hr (fun t ht _ => ⟨by rw [hv], by rw [ht]; exact hB, hS.F ht⟩) hS.2.2 hdg hlk)
theorem zW_i {x v : Int32} (hx : p.tables.exec = Jvm.exec) (hb : c.code = cc) (hr : meth.sig.returnType = some .int) (hlk : meth.locks = false) (hS : va_S A s.heap H locs) (hc : cells ≤ mc) (hs : slots ≤ ms) (hdg : decode cc pc = .ok (.ireturn, 1)) (hv : x = v) (hB : B H) : W p l e R s m args below meth c H locs cells slots (MQ below (zQW (some (.int v)) B A) args s mc ms A) (F0 m pc ls [.int x]) :=
  W.widen hc hs (W.iret hx hb hr (fun t ht _ => ⟨by rw [hv], by rw [ht]; exact hB, hS.F ht⟩) hS.2.2 hdg hlk)
theorem zW_z {x v : Int32} (hx : p.tables.exec = Jvm.exec) (hb : c.code = cc) (hr : meth.sig.returnType = some .boolean) (hlk : meth.locks = false) (hS : va_S A s.heap H locs) (hc : cells ≤ mc) (hs : slots ≤ ms) (hdg : decode cc pc = .ok (.ireturn, 1)) (hn : narrow .boolean (.int x) = .int x) (hv : x = v) (hB : B H) : W p l e R s m args below meth c H locs cells slots (MQ below (zQW (some (.int v)) B A) args s mc ms A) (F0 m pc ls [.int x]) :=
  W.widen hc hs (W.zret hx hb hr hn (fun t ht _ => ⟨by rw [hv], by rw [ht]; exact hB, hS.F ht⟩) hS.2.2 hdg hlk)
theorem zW_v (hx : p.tables.exec = Jvm.exec) (hb : c.code = cc) (hr : meth.sig.returnType = none) (hlk : meth.locks = false) (hS : va_S A s.heap H locs) (hc : cells ≤ mc) (hs : slots ≤ ms) (hdg : decode cc pc = .ok (.return_, 1)) (hB : B H) : W p l e R s m args below meth c H locs cells slots (MQ below (zQW none B A) args s mc ms A) (F0 m pc ls []) :=
  W.widen hc hs (W.vret hx hb hr (fun t ht _ => ⟨rfl, by rw [ht]; exact hB, hS.F ht⟩) hS.2.2 hdg hlk)
/-! behind a call -/
theorem z_backR1 {val : Value} {a : Array Value} (hr : va_Run p l e R s m args below meth c H locs cells slots 0 0 (F0 m pc ls st0) rest (zQR (some val) a) (fun _ => False))
    (kk : W p l e R s m args below meth c H locs cells slots Q (F0 m (pc + 3) ls (val :: rest))) : W p l e R s m args below meth c H locs cells slots Q (F0 m pc ls st0) := by
  intro T hT X
  obtain ⟨v, st₀, t, T', L, h0, X', hL, e1, e2, ⟨hv, hh⟩, st⟩ := hr T hT X
  cases hv
  obtain ⟨t2, a1, b1⟩ := kk T' (by rw [e1, hh, h0]) (Stand.forget X' (fun q h => (hL q h).elim))
  exact ⟨t2, st t2 a1, b1⟩
theorem z_backR0 {a : Array Value} (hr : va_Run p l e R s m args below meth c H locs cells slots 0 0 (F0 m pc ls st0) rest (zQR none a) (fun _ => False))
    (kk : W p l e R s m args below meth c H locs cells slots Q (F0 m (pc + 3) ls rest)) : W p l e R s m args below meth c H locs cells slots Q (F0 m pc ls st0) := by
  intro T hT X
  obtain ⟨v, st₀, t, T', L, h0, X', hL, e1, e2, ⟨hv, hh⟩, st⟩ := hr T hT X
  cases hv
  obtain ⟨t2, a1, b1⟩ := kk T' (by rw [e1, hh, h0]) (Stand.forget X' (fun q h => (hL q h).elim))
  exact ⟨t2, st t2 a1, b1⟩
theorem z_keep {st₀ t T' : State} {L : List Loc} (h0 : st₀.heap = H) (e1 : T'.heap = t.heap) (hS : va_S A s.heap H locs) (hA : ∀ q, A1 q → A q) (hL : ∀ q ∈ L, A1 q.base) (hF : va_F A1 st₀ t) : va_S A s.heap T'.heap (locs ++ L) := by
  obtain ⟨hz, hk⟩ := hF
  rw [h0] at hz hk
  refine ⟨Nat.le_trans hS.1 (by rw [e1]; exact hz), fun q h1 h2 => ?_, fun q hq => ?_⟩
  · rw [e1, hk q (Nat.lt_of_lt_of_le h1 hS.1) (fun z => h2 (hA q z))]
    exact hS.2.1 q h1 h2
  · rcases List.mem_append.mp hq with h | h
    · exact hS.2.2 q h
    · exact hA _ (hL q h)
theorem z_backW1 {val : Value} {a : Array Value} (hr : va_Run p l e R s m args below meth c H locs cells slots mc ms (F0 m pc ls st0) rest (zQW (some val) B A1 a) A1) (hS : va_S A s.heap H locs) (hA : ∀ q, A1 q → A q)
    (kk : ∀ (H1 : Heap) (locs1 : List Loc), B H1 → H.size ≤ H1.size → (∀ q : Nat, q < H.size → ¬ A1 q → H1[q]? = H[q]?) → va_S A s.heap H1 locs1 → W p l e R s m args below meth c H1 locs1 (cells + mc) (slots + ms) Q (F0 m (pc + 3) ls (val :: rest))) : W p l e R s m args below meth c H locs cells slots Q (F0 m pc ls st0) := by
  intro T hT X
  obtain ⟨v, st₀, t, T', L, h0, X', hL, e1, e2, ⟨hv, hB, hF⟩, st⟩ := hr T hT X
  cases hv
  obtain ⟨t2, a1, b1⟩ := kk T'.heap (locs ++ L) (by rw [e1]; exact hB) (by rw [e1, ← h0]; exact hF.1) (fun q h1 h2 => by rw [e1, ← h0]; exact hF.2 q (by rw [h0]; exact h1) h2) (z_keep h0 e1 hS hA hL hF) T' rfl X'
  exact ⟨t2, st t2 a1, b1⟩
theorem z_backW0 {a : Array Value} (hr : va_Run p l e R s m args below meth c H locs cells slots mc ms (F0 m pc ls st0) rest (zQW none B A1 a) A1) (hS : va_S A s.heap H locs) (hA : ∀ q, A1 q → A q)
    (kk : ∀ (H1 : Heap) (locs1 : List Loc), B H1 → H.size ≤ H1.size → (∀ q : Nat, q < H.size → ¬ A1 q → H1[q]? = H[q]?) → va_S A s.heap H1 locs1 → W p l e R s m args below meth c H1 locs1 (cells + mc) (slots + ms) Q (F0 m (pc + 3) ls rest)) : W p l e R s m args below meth c H locs cells slots Q (F0 m pc ls st0) := by
  intro T hT X
  obtain ⟨v, st₀, t, T', L, h0, X', hL, e1, e2, ⟨hv, hB, hF⟩, st⟩ := hr T hT X
  cases hv
  obtain ⟨t2, a1, b1⟩ := kk T'.heap (locs ++ L) (by rw [e1]; exact hB) (by rw [e1, ← h0]; exact hF.1) (fun q h1 h2 => by rw [e1, ← h0]; exact hF.2 q (by rw [h0]; exact h1) h2) (z_keep h0 e1 hS hA hL hF) T' rfl X'
  exact ⟨t2, st t2 a1, b1⟩
/-! runs -/
abbrev zFx (p : Program) (m : MethodId) (c : Code) (cc : ByteArray) (nL : Nat) (s : State) (args : Array Value) (own : String) : Prop := CallFix p m c cc nL s args WS own
variable {Pc : Array Value → State → Prop} {Qc : Array Value → State → Outcome → State → Prop} {free : Addr → Prop}
theorem z_runS (F : zFx p m c cc nL s args own) (hM : Met l y (Cond.code y cy n2 ret2 :: WS) (zRm fr lo mc ms) Pc Qc mc ms free) (w : zcS own index y cy n2 ret2 k) (hp : PreS s H Pc As) (hn : As.length = k) (hR : fr + 1 ≤ R.frames ∧ 8 + (n2 + 11) + lo ≤ R.locals) (hsz : ls.size = nL) (hst : st0 = As.reverse ++ rest) (hW : (rest.map fun v => v.category).sum ≤ 8) (hdg : decode cc pc = .ok (.invokestatic index, 3)) (hf : cells + mc ≤ R.cells ∧ slots + ms ≤ R.slots) :
    va_Run p l e R s m args below meth c H locs cells slots mc ms (F0 m pc ls st0) rest (Qc As.toArray) free :=
  va_runS F hM ⟨callB_of k F.2.2.2.2 (z_good w.2.2.2.1) rfl rfl rfl (F.2.2.2.2 _ w.2.2.1) (F.2.2.2.2 _ w.1) w.2.2.2.2 hR, F.2.2.2.2 _ w.2.1⟩ hp rfl hn hsz hst (lv_room hW) hdg hf
theorem z_runSN (F : zFx p m c cc nL s args own) (hK : zK D ks s) (hM : Met l y (Cond.code y cy n2 ret2 :: WS) (zRm fr lo mc ms) Pc Qc mc ms free) (w : zcSN own index y cy n2 ret2 k) (hp : PreS s H Pc As) (hn : As.length = k) (hR : fr + 1 ≤ R.frames ∧ 8 + (n2 + 11) + lo ≤ R.locals) (hsz : ls.size = nL) (hst : st0 = As.reverse ++ rest) (hW : (rest.map fun v => v.category).sum ≤ 8) (hdg : decode cc pc = .ok (.invokestatic index, 3)) (hf : cells + mc ≤ R.cells ∧ slots + ms ≤ R.slots) :
    va_Run p l e R s m args below meth c H locs cells slots mc ms (F0 m pc ls st0) rest (Qc As.toArray) free :=
  va_runSN F hM ⟨va_cnB k F.2.2.2.2 (z_good w.2.2.2.1) rfl rfl rfl (hK.2 _ w.1) (F.2.2.2.2 _ w.2.2.1) w.2.2.2.2 hR, F.2.2.2.2 _ w.2.1, trivial⟩ hp rfl hn hsz hst (lv_room hW) hdg hf
theorem z_runV (F : zFx p m c cc nL s args own) (hM : Met l y (Cond.code y cy n2 ret2 :: WS) (zRm fr lo mc ms) Pc Qc mc ms free) (w : zcV own index y cy n2 ret2 k) (hp : PreV s H y.cls b Pc As) (hn : As.length = k) (hR : fr + 1 ≤ R.frames ∧ 8 + (n2 + 11) + lo ≤ R.locals) (hsz : ls.size = nL) (hst : st0 = As.reverse ++ .ref b :: rest) (hW : (rest.map fun v => v.category).sum ≤ 8) (hdg : decode cc pc = .ok (.invokevirtual index, 3)) (hf : cells + mc ≤ R.cells ∧ slots + ms ≤ R.slots) :
    va_Run p l e R s m args below meth c H locs cells slots mc ms (F0 m pc ls st0) rest (Qc (Value.ref b :: As).toArray) free :=
  va_runV F hM ⟨callB_of k F.2.2.2.2 (z_good w.2.2.2.2.1) rfl rfl rfl (F.2.2.2.2 _ w.2.2.2.1) (F.2.2.2.2 _ w.1) w.2.2.2.2.2 hR, F.2.2.2.2 _ w.2.1, F.2.2.2.2 _ w.2.2.1⟩ hp rfl hn hsz hst (lv_room hW) hdg hf
theorem z_runVN (F : zFx p m c cc nL s args own) (hK : zK D ks s) (hM : Met l y (Cond.code y cy n2 ret2 :: WS) (zRm fr lo mc ms) Pc Qc mc ms free) (w : zcVN own index y cy n2 ret2 k) (hp : PreV s H y.cls b Pc As) (hn : As.length = k) (hR : fr + 1 ≤ R.frames ∧ 8 + (n2 + 11) + lo ≤ R.locals) (hsz : ls.size = nL) (hst : st0 = As.reverse ++ .ref b :: rest) (hW : (rest.map fun v => v.category).sum ≤ 8) (hdg : decode cc pc = .ok (.invokevirtual index, 3)) (hf : cells + mc ≤ R.cells ∧ slots + ms ≤ R.slots) :
    va_Run p l e R s m args below meth c H locs cells slots mc ms (F0 m pc ls st0) rest (Qc (Value.ref b :: As).toArray) free :=
  va_runVN F hM ⟨va_cnB k F.2.2.2.2 (z_good w.2.2.2.2.1) rfl rfl rfl (hK.2 _ w.1) (F.2.2.2.2 _ w.2.2.2.1) w.2.2.2.2.2 hR, F.2.2.2.2 _ w.2.1, F.2.2.2.2 _ w.2.2.1⟩ hp rfl hn hsz hst (lv_room hW) hdg hf
theorem z_runI (F : zFx p m c cc nL s args own) (hM : Met l y (Cond.code y cy n2 none :: WS) (zRm fr lo mc ms) Pc Qc mc ms free) (w : zcI own index y cy n2 k) (hp : PreS s H Pc (.ref b :: As)) (hn : As.length = k) (hR : fr + 1 ≤ R.frames ∧ 8 + (n2 + 11) + lo ≤ R.locals) (hsz : ls.size = nL) (hst : st0 = As.reverse ++ .ref b :: rest) (hW : (rest.map fun v => v.category).sum ≤ 8) (hdg : decode cc pc = .ok (.invokespecial index, 3)) (hf : cells + mc ≤ R.cells ∧ slots + ms ≤ R.slots) :
    va_Run p l e R s m args below meth c H locs cells slots mc ms (F0 m pc ls st0) rest (Qc (Value.ref b :: As).toArray) free :=
  va_runI F hM ⟨callB_of k F.2.2.2.2 (z_good w.2.2.2.1) rfl rfl rfl (F.2.2.2.2 _ w.2.2.1) (F.2.2.2.2 _ w.1) w.2.2.2.2.1 hR, w.2.2.2.2.2, F.2.2.2.2 _ w.2.1⟩ hp rfl hn hsz hst (lv_room hW) hdg hf
theorem z_runIN (F : zFx p m c cc nL s args own) (hK : zK D ks s) (hM : Met l y (Cond.code y cy n2 none :: WS) (zRm fr lo mc ms) Pc Qc mc ms free) (w : zcIN own index y cy n2 k) (hp : PreS s H Pc (.ref b :: As)) (hn : As.length = k) (hR : fr + 1 ≤ R.frames ∧ 8 + (n2 + 11) + lo ≤ R.locals) (hsz : ls.size = nL) (hst : st0 = As.reverse ++ .ref b :: rest) (hW : (rest.map fun v => v.category).sum ≤ 8) (hdg : decode cc pc = .ok (.invokespecial index, 3)) (hf : cells + mc ≤ R.cells ∧ slots + ms ≤ R.slots) :
    va_Run p l e R s m args below meth c H locs cells slots mc ms (F0 m pc ls st0) rest (Qc (Value.ref b :: As).toArray) free :=
  va_runIN F hM ⟨va_cnB k F.2.2.2.2 (z_good w.2.2.2.1) rfl rfl rfl (hK.2 _ w.1) (F.2.2.2.2 _ w.2.2.1) w.2.2.2.2.1 hR, w.2.2.2.2.2, F.2.2.2.2 _ w.2.1⟩ hp rfl hn hsz hst (lv_room hW) hdg hf
/-! what a call's start wants -/
theorem z_preR (hK : zK D ks s) (hP : P H) : PreS s H (zPR D ks As P) As := ⟨zPR.blind, fun U hU hW => ⟨rfl, by rw [hU]; exact hP, hK.warm hW⟩⟩
theorem z_preW (hK : zK D ks s) (hP : P H) : PreS s H (zPW D ks H.size As P) As := ⟨zPW.blind, fun U hU hW => ⟨rfl, by rw [hU], by rw [hU]; exact hP, hK.warm hW⟩⟩
theorem z_recv {C : String} (hK : zK D ks s) {ci : Nat} {T : u_T} {N : Nat} {fs : List Value} (hat : va_at D vwCl (b, .inr (ci, fs)) H) (hc : vwCl[ci]? = some (C, T, N)) : ∃ cell : Cell, H[b]? = some cell ∧ cell.vm.isStatics = false ∧ s.vm.findClass C = some cell.cls := va_recv hK.1 (z1P hat) hc (q0 := 0) rfl
theorem z_preRV {C : String} (hK : zK D ks s) (hP : P H) {ci : Nat} {T : u_T} {N : Nat} {fs : List Value} (hat : va_at D vwCl (b, .inr (ci, fs)) H) (hc : vwCl[ci]? = some (C, T, N)) : PreV s H C b (zPR D ks (.ref b :: As) P) As := ⟨zPR.blind, z_recv hK hat hc, fun U hU hW => ⟨rfl, by rw [hU]; exact hP, hK.warm hW⟩⟩
theorem z_preWV {C : String} (hK : zK D ks s) (hP : P H) {ci : Nat} {T : u_T} {N : Nat} {fs : List Value} (hat : va_at D vwCl (b, .inr (ci, fs)) H) (hc : vwCl[ci]? = some (C, T, N)) : PreV s H C b (zPW D ks H.size (.ref b :: As) P) As := ⟨zPW.blind, z_recv hK hat hc, fun U hU hW => ⟨rfl, by rw [hU], by rw [hU]; exact hP, hK.warm hW⟩⟩
end ZCR
end ZC
end
section
section ZW
def u2 {α : Type} (F : Nat → Nat → α) (k i : Nat) (v : α) : Nat → Nat → α := fun a => if a = k then (fun b => if b = i then v else F a b) else F a
theorem u2_s {α : Type} {F : Nat → Nat → α} {k i : Nat} {v : α} : u2 F k i v k i = v := by simp [u2]
theorem u2_n {α : Type} {F : Nat → Nat → α} {k i j : Nat} {v : α} (h : j ≠ i) : u2 F k i v k j = F k j := by simp [u2, h]
theorem u2_k {α : Type} {F : Nat → Nat → α} {k i a : Nat} {v : α} (h : a ≠ k) : u2 F k i v a = F a := by simp [u2, h]
theorem u2_if {α : Type} {F : Nat → Nat → α} {k i j : Nat} {v : α} : u2 F k i v k j = if j = i then v else F k j := by simp [u2]
abbrev eFund (v : Int64) : va_E := .inr (0, [.long v])
abbrev eGen (b t : Int32) (f : Nat) (pr : Int64) : va_E := .inr (1, [.int b, .int t, .ref f, .long pr])
abbrev ePol (g : Nat) (pr su : Int32) (al : Nat) (bo : Int64) (st : Int32) (pd : Int64) : va_E := .inr (2, [.ref g, .int pr, .int su, .ref al, .long bo, .int st, .long pd])
abbrev eOff (ad : Nat → Nat) (X : Nat → Int32) (Y : Nat → Int64) : va_E := .inr (3, [.ref (ad 14), .ref (ad 15), .ref (ad 16), .ref (ad 17), .int (X 0), .int (X 1), .int (X 2), .int (X 3), .int (X 4), .int (X 5), .int (X 6), .int (X 7), .long (Y 0), .long (Y 1)])
abbrev eMod (ad : Nat → Nat) (X : Nat → Int32) (Y : Nat → Int64) : va_E := .inr (4, [.int (X 0), .int (X 1), .int (X 2), .int (X 3), .int (X 4), .int (X 5), .int (X 6), .ref (ad 1), .ref (ad 2), .ref (ad 3), .ref (ad 4), .ref (ad 5), .ref (ad 6), .ref (ad 7), .ref (ad 8), .ref (ad 9), .ref (ad 10), .ref (ad 11), .long (Y 0), .long (Y 1), .int (X 7)])
def rPol (ad : Nat → Nat) (np : Nat) : Nat → Option Nat := fun k => if k < np then some (ad (22 + 4 * k)) else none
def rGen (ad : Nat → Nat) (ng : Nat) : Nat → Option Nat := fun k => if k < ng then some (ad (20 + 4 * k)) else none
abbrev aI (c : ClassId) (n : Nat) (f : Nat → Int32) : va_E := .inl (c, n, .inl f)
abbrev aJ (c : ClassId) (n : Nat) (f : Nat → Int64) : va_E := .inl (c, n, .inr (.inl f))
abbrev aQ (c : ClassId) (n : Nat) (f : Nat → Option Nat) : va_E := .inl (c, n, .inr (.inr (.inr (.inr f))))
def gLo (ks : Nat → ClassId) (ad : Nat → Nat) (np ng : Nat) (MI : Nat → Nat → Int32) (MJ : Nat → Nat → Int64) (X : Nat → Int32) (Y lr rb : Nat → Int64) (r : Nat) : va_E := match r with
  | 0 => eMod ad (MI 0) (MJ 0)
  | 1 => aI (ks 0) 30 (MI 1)
  | 2 => aI (ks 0) 30 (MI 2)
  | 3 => aI (ks 0) 30 (MI 3)
  | 4 => aI (ks 0) 30 (MI 4)
  | 5 => aI (ks 0) 30 (MI 5)
  | 6 => aI (ks 0) 30 (MI 6)
  | 7 => aI (ks 0) 30 (MI 7)
  | 8 => aJ (ks 1) 30 (MJ 1)
  | 9 => aJ (ks 1) 30 (MJ 2)
  | 10 => aI (ks 0) 21 (MI 8)
  | 11 => aI (ks 0) 21 (MI 9)
  | 12 => aJ (ks 1) 1 (MJ 3)
  | 13 => eOff ad X Y
  | 14 => aQ (ks 3) 30 (rPol ad np)
  | 15 => aQ (ks 2) 30 (rGen ad ng)
  | 16 => aJ (ks 1) 21 lr
  | 17 => aJ (ks 1) 21 rb
  | _ => eFund 0
def gHi (ad : Nat → Nat) (G : Nat → Nat) (XI : Nat → Nat → Int32) (XJ : Nat → Nat → Int64) (k i : Nat) : va_E := match k with
  | 0 => eGen (XI 11 i) (XI 12 i) (ad (21 + 4 * i)) (XJ 7 i)
  | 1 => eFund (XJ 8 i)
  | 2 => ePol (ad (20 + 4 * G i)) (XI 13 i) (XI 14 i) (ad (23 + 4 * i)) (XJ 10 i) (XI 15 i) (XJ 11 i)
  | _ => eFund (XJ 9 i)
def gS (ks : Nat → ClassId) (ad : Nat → Nat) (np ng : Nat) (G : Nat → Nat) (MI : Nat → Nat → Int32) (MJ : Nat → Nat → Int64) (XI : Nat → Nat → Int32) (XJ : Nat → Nat → Int64) (r : Nat) : va_E :=
  if 20 ≤ r then gHi ad G XI XJ ((r - 20) % 4) ((r - 20) / 4) else gLo ks ad np ng MI MJ (XI 10) (XJ 4) (XJ 5) (XJ 6) r
/-- what of the roles is there -/
def zIn (Rs : List Nat) (np ng : Nat) : Prop := (∀ r, (13 ≤ r ∧ r < 18) → r ∈ Rs) ∧ (∀ i, i < ng → 20 + 4 * i ∈ Rs ∧ 21 + 4 * i ∈ Rs) ∧ ∀ j, j < np → 22 + 4 * j ∈ Rs ∧ 23 + 4 * j ∈ Rs
section
variable {ks : Nat → ClassId} {ad : Nat → Nat} {np ng : Nat} {G : Nat → Nat} {MI : Nat → Nat → Int32} {MJ : Nat → Nat → Int64} {XI : Nat → Nat → Int32} {XJ : Nat → Nat → Int64}
theorem gS_0 {i : Nat} : gS ks ad np ng G MI MJ XI XJ (20 + 4 * i) = gHi ad G XI XJ 0 i := by
  have h1 : (20 + 4 * i - 20) % 4 = 0 := by omega
  have h2 : (20 + 4 * i - 20) / 4 = i := by omega
  have h3 : 20 ≤ 20 + 4 * i := by omega
  simp only [gS, h1, h2, if_pos h3]
theorem gS_1 {i : Nat} : gS ks ad np ng G MI MJ XI XJ (21 + 4 * i) = gHi ad G XI XJ 1 i := by
  have h1 : (21 + 4 * i - 20) % 4 = 1 := by omega
  have h2 : (21 + 4 * i - 20) / 4 = i := by omega
  have h3 : 20 ≤ 21 + 4 * i := by omega
  simp only [gS, h1, h2, if_pos h3]
theorem gS_2 {i : Nat} : gS ks ad np ng G MI MJ XI XJ (22 + 4 * i) = gHi ad G XI XJ 2 i := by
  have h1 : (22 + 4 * i - 20) % 4 = 2 := by omega
  have h2 : (22 + 4 * i - 20) / 4 = i := by omega
  have h3 : 20 ≤ 22 + 4 * i := by omega
  simp only [gS, h1, h2, if_pos h3]
theorem gS_3 {i : Nat} : gS ks ad np ng G MI MJ XI XJ (23 + 4 * i) = gHi ad G XI XJ 3 i := by
  have h1 : (23 + 4 * i - 20) % 4 = 3 := by omega
  have h2 : (23 + 4 * i - 20) / 4 = i := by omega
  have h3 : 20 ≤ 23 + 4 * i := by omega
  simp only [gS, h1, h2, if_pos h3]
theorem r_cases (r : Nat) : r < 20 ∨ (∃ i, r = 20 + 4 * i) ∨ (∃ i, r = 21 + 4 * i) ∨ (∃ i, r = 22 + 4 * i) ∨ ∃ i, r = 23 + 4 * i := by
  rcases Nat.lt_or_ge r 20 with h | h
  · exact Or.inl h
  · have h4 : (r - 20) % 4 < 4 := Nat.mod_lt _ (by decide)
    have h5 := Nat.div_add_mod (r - 20) 4
    have h6 : (r - 20) % 4 = 0 ∨ (r - 20) % 4 = 1 ∨ (r - 20) % 4 = 2 ∨ (r - 20) % 4 = 3 := by omega
    rcases h6 with h6 | h6 | h6 | h6
    · exact Or.inr (Or.inl ⟨(r - 20) / 4, by omega⟩)
    · exact Or.inr (Or.inr (Or.inl ⟨(r - 20) / 4, by omega⟩))
    · exact Or.inr (Or.inr (Or.inr (Or.inl ⟨(r - 20) / 4, by omega⟩)))
    · exact Or.inr (Or.inr (Or.inr (Or.inr ⟨(r - 20) / 4, by omega⟩)))
theorem gS_lo {r : Nat} (h : r < 20) : gS ks ad np ng G MI MJ XI XJ r = gLo ks ad np ng MI MJ (XI 10) (XJ 4) (XJ 5) (XJ 6) r := by simp only [gS, if_neg (Nat.not_le.mpr h)]
theorem r_20 {r : Nat} (h : r < 20) : r = 0 ∨ r = 1 ∨ r = 2 ∨ r = 3 ∨ r = 4 ∨ r = 5 ∨ r = 6 ∨ r = 7 ∨ r = 8 ∨ r = 9 ∨ r = 10 ∨ r = 11 ∨ r = 12 ∨ r = 13 ∨ r = 14 ∨ r = 15 ∨ r = 16 ∨ r = 17 ∨ r = 18 ∨ r = 19 := by omega
/-- a write to a low role -/
theorem gS_upLo {MI' : Nat → Nat → Int32} {MJ' : Nat → Nat → Int64} {XI' : Nat → Nat → Int32} {XJ' : Nat → Nat → Int64} {q : Nat} {e : va_E} (hq : q < 20) (h1 : gLo ks ad np ng MI' MJ' (XI' 10) (XJ' 4) (XJ' 5) (XJ' 6) q = e) (h2 : ∀ r, r < 20 → r ≠ q → gLo ks ad np ng MI' MJ' (XI' 10) (XJ' 4) (XJ' 5) (XJ' 6) r = gLo ks ad np ng MI MJ (XI 10) (XJ 4) (XJ 5) (XJ 6) r) (h3 : ∀ k i, gHi ad G XI' XJ' k i = gHi ad G XI XJ k i) :
    va_up (gS ks ad np ng G MI MJ XI XJ) q e = gS ks ad np ng G MI' MJ' XI' XJ' := by
  funext r
  by_cases hr : r = q
  · subst hr
    rw [va_up_self, gS_lo hq, h1]
  · rw [va_up_ne _ _ hr]
    by_cases h : r < 20
    · rw [gS_lo h, gS_lo h, h2 r h hr]
    · simp only [gS, if_pos (Nat.not_lt.mp h), h3]
/-- a write to a high role -/
theorem gS_upHi {XI' : Nat → Nat → Int32} {XJ' : Nat → Nat → Int64} {k i : Nat} {e : va_E} (hk : k < 4) (h1 : gHi ad G XI' XJ' k i = e) (h2 : ∀ a j, a < 4 → (a ≠ k ∨ j ≠ i) → gHi ad G XI' XJ' a j = gHi ad G XI XJ a j) (h3 : XI' 10 = XI 10) (h4 : XJ' 4 = XJ 4) (h5 : XJ' 5 = XJ 5) (h6 : XJ' 6 = XJ 6) :
    va_up (gS ks ad np ng G MI MJ XI XJ) (20 + k + 4 * i) e = gS ks ad np ng G MI MJ XI' XJ' := by
  funext r
  by_cases hr : r = 20 + k + 4 * i
  · subst hr
    have a1 : (20 + k + 4 * i - 20) % 4 = k := by omega
    have a2 : (20 + k + 4 * i - 20) / 4 = i := by omega
    have a3 : 20 ≤ 20 + k + 4 * i := by omega
    rw [va_up_self]
    simp only [gS, a1, a2, if_pos a3, h1]
  · rw [va_up_ne _ _ hr]
    by_cases h : r < 20
    · rw [gS_lo h, gS_lo h, h3, h4, h5, h6]
    · simp only [gS, if_pos (Nat.not_lt.mp h)]
      rw [h2 _ _ (Nat.mod_lt _ (by decide)) (by omega)]
theorem gu_o4 {v : Int32} : va_up (gS ks ad np ng G MI MJ XI XJ) 13 (.inr (3, [.ref (ad 14), .ref (ad 15), .ref (ad 16), .ref (ad 17), .int v, .int (XI 10 1), .int (XI 10 2), .int (XI 10 3), .int (XI 10 4), .int (XI 10 5), .int (XI 10 6), .int (XI 10 7), .long (XJ 4 0), .long (XJ 4 1)])) = gS ks ad np ng G MI MJ (u2 XI 10 0 v) XJ := gS_upLo (by decide) (by simp [gLo, u2]) (fun r h hn => by rcases r_20 h with rfl | rfl | rfl | rfl | rfl | rfl | rfl | rfl | rfl | rfl | rfl | rfl | rfl | rfl | rfl | rfl | rfl | rfl | rfl | rfl <;> first | exact absurd rfl hn | simp [gLo, u2]) (fun k i => by first | rfl | (unfold gHi; simp [u2]))
theorem gu_o5 {v : Int32} : va_up (gS ks ad np ng G MI MJ XI XJ) 13 (.inr (3, [.ref (ad 14), .ref (ad 15), .ref (ad 16), .ref (ad 17), .int (XI 10 0), .int v, .int (XI 10 2), .int (XI 10 3), .int (XI 10 4), .int (XI 10 5), .int (XI 10 6), .int (XI 10 7), .long (XJ 4 0), .long (XJ 4 1)])) = gS ks ad np ng G MI MJ (u2 XI 10 1 v) XJ := gS_upLo (by decide) (by simp [gLo, u2]) (fun r h hn => by rcases r_20 h with rfl | rfl | rfl | rfl | rfl | rfl | rfl | rfl | rfl | rfl | rfl | rfl | rfl | rfl | rfl | rfl | rfl | rfl | rfl | rfl <;> first | exact absurd rfl hn | simp [gLo, u2]) (fun k i => by first | rfl | (unfold gHi; simp [u2]))
theorem gu_o6 {v : Int32} : va_up (gS ks ad np ng G MI MJ XI XJ) 13 (.inr (3, [.ref (ad 14), .ref (ad 15), .ref (ad 16), .ref (ad 17), .int (XI 10 0), .int (XI 10 1), .int v, .int (XI 10 3), .int (XI 10 4), .int (XI 10 5), .int (XI 10 6), .int (XI 10 7), .long (XJ 4 0), .long (XJ 4 1)])) = gS ks ad np ng G MI MJ (u2 XI 10 2 v) XJ := gS_upLo (by decide) (by simp [gLo, u2]) (fun r h hn => by rcases r_20 h with rfl | rfl | rfl | rfl | rfl | rfl | rfl | rfl | rfl | rfl | rfl | rfl | rfl | rfl | rfl | rfl | rfl | rfl | rfl | rfl <;> first | exact absurd rfl hn | simp [gLo, u2]) (fun k i => by first | rfl | (unfold gHi; simp [u2]))
theorem gu_o7 {v : Int32} : va_up (gS ks ad np ng G MI MJ XI XJ) 13 (.inr (3, [.ref (ad 14), .ref (ad 15), .ref (ad 16), .ref (ad 17), .int (XI 10 0), .int (XI 10 1), .int (XI 10 2), .int v, .int (XI 10 4), .int (XI 10 5), .int (XI 10 6), .int (XI 10 7), .long (XJ 4 0), .long (XJ 4 1)])) = gS ks ad np ng G MI MJ (u2 XI 10 3 v) XJ := gS_upLo (by decide) (by simp [gLo, u2]) (fun r h hn => by rcases r_20 h with rfl | rfl | rfl | rfl | rfl | rfl | rfl | rfl | rfl | rfl | rfl | rfl | rfl | rfl | rfl | rfl | rfl | rfl | rfl | rfl <;> first | exact absurd rfl hn | simp [gLo, u2]) (fun k i => by first | rfl | (unfold gHi; simp [u2]))
theorem gu_o8 {v : Int32} : va_up (gS ks ad np ng G MI MJ XI XJ) 13 (.inr (3, [.ref (ad 14), .ref (ad 15), .ref (ad 16), .ref (ad 17), .int (XI 10 0), .int (XI 10 1), .int (XI 10 2), .int (XI 10 3), .int v, .int (XI 10 5), .int (XI 10 6), .int (XI 10 7), .long (XJ 4 0), .long (XJ 4 1)])) = gS ks ad np ng G MI MJ (u2 XI 10 4 v) XJ := gS_upLo (by decide) (by simp [gLo, u2]) (fun r h hn => by rcases r_20 h with rfl | rfl | rfl | rfl | rfl | rfl | rfl | rfl | rfl | rfl | rfl | rfl | rfl | rfl | rfl | rfl | rfl | rfl | rfl | rfl <;> first | exact absurd rfl hn | simp [gLo, u2]) (fun k i => by first | rfl | (unfold gHi; simp [u2]))
theorem gu_o9 {v : Int32} : va_up (gS ks ad np ng G MI MJ XI XJ) 13 (.inr (3, [.ref (ad 14), .ref (ad 15), .ref (ad 16), .ref (ad 17), .int (XI 10 0), .int (XI 10 1), .int (XI 10 2), .int (XI 10 3), .int (XI 10 4), .int v, .int (XI 10 6), .int (XI 10 7), .long (XJ 4 0), .long (XJ 4 1)])) = gS ks ad np ng G MI MJ (u2 XI 10 5 v) XJ := gS_upLo (by decide) (by simp [gLo, u2]) (fun r h hn => by rcases r_20 h with rfl | rfl | rfl | rfl | rfl | rfl | rfl | rfl | rfl | rfl | rfl | rfl | rfl | rfl | rfl | rfl | rfl | rfl | rfl | rfl <;> first | exact absurd rfl hn | simp [gLo, u2]) (fun k i => by first | rfl | (unfold gHi; simp [u2]))
theorem gu_o10 {v : Int32} : va_up (gS ks ad np ng G MI MJ XI XJ) 13 (.inr (3, [.ref (ad 14), .ref (ad 15), .ref (ad 16), .ref (ad 17), .int (XI 10 0), .int (XI 10 1), .int (XI 10 2), .int (XI 10 3), .int (XI 10 4), .int (XI 10 5), .int v, .int (XI 10 7), .long (XJ 4 0), .long (XJ 4 1)])) = gS ks ad np ng G MI MJ (u2 XI 10 6 v) XJ := gS_upLo (by decide) (by simp [gLo, u2]) (fun r h hn => by rcases r_20 h with rfl | rfl | rfl | rfl | rfl | rfl | rfl | rfl | rfl | rfl | rfl | rfl | rfl | rfl | rfl | rfl | rfl | rfl | rfl | rfl <;> first | exact absurd rfl hn | simp [gLo, u2]) (fun k i => by first | rfl | (unfold gHi; simp [u2]))
theorem gu_o11 {v : Int32} : va_up (gS ks ad np ng G MI MJ XI XJ) 13 (.inr (3, [.ref (ad 14), .ref (ad 15), .ref (ad 16), .ref (ad 17), .int (XI 10 0), .int (XI 10 1), .int (XI 10 2), .int (XI 10 3), .int (XI 10 4), .int (XI 10 5), .int (XI 10 6), .int v, .long (XJ 4 0), .long (XJ 4 1)])) = gS ks ad np ng G MI MJ (u2 XI 10 7 v) XJ := gS_upLo (by decide) (by simp [gLo, u2]) (fun r h hn => by rcases r_20 h with rfl | rfl | rfl | rfl | rfl | rfl | rfl | rfl | rfl | rfl | rfl | rfl | rfl | rfl | rfl | rfl | rfl | rfl | rfl | rfl <;> first | exact absurd rfl hn | simp [gLo, u2]) (fun k i => by first | rfl | (unfold gHi; simp [u2]))
theorem gu_o12 {v : Int64} : va_up (gS ks ad np ng G MI MJ XI XJ) 13 (.inr (3, [.ref (ad 14), .ref (ad 15), .ref (ad 16), .ref (ad 17), .int (XI 10 0), .int (XI 10 1), .int (XI 10 2), .int (XI 10 3), .int (XI 10 4), .int (XI 10 5), .int (XI 10 6), .int (XI 10 7), .long v, .long (XJ 4 1)])) = gS ks ad np ng G MI MJ XI (u2 XJ 4 0 v) := gS_upLo (by decide) (by simp [gLo, u2]) (fun r h hn => by rcases r_20 h with rfl | rfl | rfl | rfl | rfl | rfl | rfl | rfl | rfl | rfl | rfl | rfl | rfl | rfl | rfl | rfl | rfl | rfl | rfl | rfl <;> first | exact absurd rfl hn | simp [gLo, u2]) (fun k i => by first | rfl | (unfold gHi; simp [u2]))
theorem gu_o13 {v : Int64} : va_up (gS ks ad np ng G MI MJ XI XJ) 13 (.inr (3, [.ref (ad 14), .ref (ad 15), .ref (ad 16), .ref (ad 17), .int (XI 10 0), .int (XI 10 1), .int (XI 10 2), .int (XI 10 3), .int (XI 10 4), .int (XI 10 5), .int (XI 10 6), .int (XI 10 7), .long (XJ 4 0), .long v])) = gS ks ad np ng G MI MJ XI (u2 XJ 4 1 v) := gS_upLo (by decide) (by simp [gLo, u2]) (fun r h hn => by rcases r_20 h with rfl | rfl | rfl | rfl | rfl | rfl | rfl | rfl | rfl | rfl | rfl | rfl | rfl | rfl | rfl | rfl | rfl | rfl | rfl | rfl <;> first | exact absurd rfl hn | simp [gLo, u2]) (fun k i => by first | rfl | (unfold gHi; simp [u2]))
theorem gu_m0 {v : Int32} : va_up (gS ks ad np ng G MI MJ XI XJ) 0 (.inr (4, [.int v, .int (MI 0 1), .int (MI 0 2), .int (MI 0 3), .int (MI 0 4), .int (MI 0 5), .int (MI 0 6), .ref (ad 1), .ref (ad 2), .ref (ad 3), .ref (ad 4), .ref (ad 5), .ref (ad 6), .ref (ad 7), .ref (ad 8), .ref (ad 9), .ref (ad 10), .ref (ad 11), .long (MJ 0 0), .long (MJ 0 1), .int (MI 0 7)])) = gS ks ad np ng G (u2 MI 0 0 v) MJ XI XJ := gS_upLo (by decide) (by simp [gLo, u2]) (fun r h hn => by rcases r_20 h with rfl | rfl | rfl | rfl | rfl | rfl | rfl | rfl | rfl | rfl | rfl | rfl | rfl | rfl | rfl | rfl | rfl | rfl | rfl | rfl <;> first | exact absurd rfl hn | simp [gLo, u2]) (fun k i => by first | rfl | (unfold gHi; simp [u2]))
theorem gu_m1 {v : Int32} : va_up (gS ks ad np ng G MI MJ XI XJ) 0 (.inr (4, [.int (MI 0 0), .int v, .int (MI 0 2), .int (MI 0 3), .int (MI 0 4), .int (MI 0 5), .int (MI 0 6), .ref (ad 1), .ref (ad 2), .ref (ad 3), .ref (ad 4), .ref (ad 5), .ref (ad 6), .ref (ad 7), .ref (ad 8), .ref (ad 9), .ref (ad 10), .ref (ad 11), .long (MJ 0 0), .long (MJ 0 1), .int (MI 0 7)])) = gS ks ad np ng G (u2 MI 0 1 v) MJ XI XJ := gS_upLo (by decide) (by simp [gLo, u2]) (fun r h hn => by rcases r_20 h with rfl | rfl | rfl | rfl | rfl | rfl | rfl | rfl | rfl | rfl | rfl | rfl | rfl | rfl | rfl | rfl | rfl | rfl | rfl | rfl <;> first | exact absurd rfl hn | simp [gLo, u2]) (fun k i => by first | rfl | (unfold gHi; simp [u2]))
theorem gu_m2 {v : Int32} : va_up (gS ks ad np ng G MI MJ XI XJ) 0 (.inr (4, [.int (MI 0 0), .int (MI 0 1), .int v, .int (MI 0 3), .int (MI 0 4), .int (MI 0 5), .int (MI 0 6), .ref (ad 1), .ref (ad 2), .ref (ad 3), .ref (ad 4), .ref (ad 5), .ref (ad 6), .ref (ad 7), .ref (ad 8), .ref (ad 9), .ref (ad 10), .ref (ad 11), .long (MJ 0 0), .long (MJ 0 1), .int (MI 0 7)])) = gS ks ad np ng G (u2 MI 0 2 v) MJ XI XJ := gS_upLo (by decide) (by simp [gLo, u2]) (fun r h hn => by rcases r_20 h with rfl | rfl | rfl | rfl | rfl | rfl | rfl | rfl | rfl | rfl | rfl | rfl | rfl | rfl | rfl | rfl | rfl | rfl | rfl | rfl <;> first | exact absurd rfl hn | simp [gLo, u2]) (fun k i => by first | rfl | (unfold gHi; simp [u2]))
theorem gu_m3 {v : Int32} : va_up (gS ks ad np ng G MI MJ XI XJ) 0 (.inr (4, [.int (MI 0 0), .int (MI 0 1), .int (MI 0 2), .int v, .int (MI 0 4), .int (MI 0 5), .int (MI 0 6), .ref (ad 1), .ref (ad 2), .ref (ad 3), .ref (ad 4), .ref (ad 5), .ref (ad 6), .ref (ad 7), .ref (ad 8), .ref (ad 9), .ref (ad 10), .ref (ad 11), .long (MJ 0 0), .long (MJ 0 1), .int (MI 0 7)])) = gS ks ad np ng G (u2 MI 0 3 v) MJ XI XJ := gS_upLo (by decide) (by simp [gLo, u2]) (fun r h hn => by rcases r_20 h with rfl | rfl | rfl | rfl | rfl | rfl | rfl | rfl | rfl | rfl | rfl | rfl | rfl | rfl | rfl | rfl | rfl | rfl | rfl | rfl <;> first | exact absurd rfl hn | simp [gLo, u2]) (fun k i => by first | rfl | (unfold gHi; simp [u2]))
theorem gu_m4 {v : Int32} : va_up (gS ks ad np ng G MI MJ XI XJ) 0 (.inr (4, [.int (MI 0 0), .int (MI 0 1), .int (MI 0 2), .int (MI 0 3), .int v, .int (MI 0 5), .int (MI 0 6), .ref (ad 1), .ref (ad 2), .ref (ad 3), .ref (ad 4), .ref (ad 5), .ref (ad 6), .ref (ad 7), .ref (ad 8), .ref (ad 9), .ref (ad 10), .ref (ad 11), .long (MJ 0 0), .long (MJ 0 1), .int (MI 0 7)])) = gS ks ad np ng G (u2 MI 0 4 v) MJ XI XJ := gS_upLo (by decide) (by simp [gLo, u2]) (fun r h hn => by rcases r_20 h with rfl | rfl | rfl | rfl | rfl | rfl | rfl | rfl | rfl | rfl | rfl | rfl | rfl | rfl | rfl | rfl | rfl | rfl | rfl | rfl <;> first | exact absurd rfl hn | simp [gLo, u2]) (fun k i => by first | rfl | (unfold gHi; simp [u2]))
theorem gu_m5 {v : Int32} : va_up (gS ks ad np ng G MI MJ XI XJ) 0 (.inr (4, [.int (MI 0 0), .int (MI 0 1), .int (MI 0 2), .int (MI 0 3), .int (MI 0 4), .int v, .int (MI 0 6), .ref (ad 1), .ref (ad 2), .ref (ad 3), .ref (ad 4), .ref (ad 5), .ref (ad 6), .ref (ad 7), .ref (ad 8), .ref (ad 9), .ref (ad 10), .ref (ad 11), .long (MJ 0 0), .long (MJ 0 1), .int (MI 0 7)])) = gS ks ad np ng G (u2 MI 0 5 v) MJ XI XJ := gS_upLo (by decide) (by simp [gLo, u2]) (fun r h hn => by rcases r_20 h with rfl | rfl | rfl | rfl | rfl | rfl | rfl | rfl | rfl | rfl | rfl | rfl | rfl | rfl | rfl | rfl | rfl | rfl | rfl | rfl <;> first | exact absurd rfl hn | simp [gLo, u2]) (fun k i => by first | rfl | (unfold gHi; simp [u2]))
theorem gu_m6 {v : Int32} : va_up (gS ks ad np ng G MI MJ XI XJ) 0 (.inr (4, [.int (MI 0 0), .int (MI 0 1), .int (MI 0 2), .int (MI 0 3), .int (MI 0 4), .int (MI 0 5), .int v, .ref (ad 1), .ref (ad 2), .ref (ad 3), .ref (ad 4), .ref (ad 5), .ref (ad 6), .ref (ad 7), .ref (ad 8), .ref (ad 9), .ref (ad 10), .ref (ad 11), .long (MJ 0 0), .long (MJ 0 1), .int (MI 0 7)])) = gS ks ad np ng G (u2 MI 0 6 v) MJ XI XJ := gS_upLo (by decide) (by simp [gLo, u2]) (fun r h hn => by rcases r_20 h with rfl | rfl | rfl | rfl | rfl | rfl | rfl | rfl | rfl | rfl | rfl | rfl | rfl | rfl | rfl | rfl | rfl | rfl | rfl | rfl <;> first | exact absurd rfl hn | simp [gLo, u2]) (fun k i => by first | rfl | (unfold gHi; simp [u2]))
theorem gu_m18 {v : Int64} : va_up (gS ks ad np ng G MI MJ XI XJ) 0 (.inr (4, [.int (MI 0 0), .int (MI 0 1), .int (MI 0 2), .int (MI 0 3), .int (MI 0 4), .int (MI 0 5), .int (MI 0 6), .ref (ad 1), .ref (ad 2), .ref (ad 3), .ref (ad 4), .ref (ad 5), .ref (ad 6), .ref (ad 7), .ref (ad 8), .ref (ad 9), .ref (ad 10), .ref (ad 11), .long v, .long (MJ 0 1), .int (MI 0 7)])) = gS ks ad np ng G MI (u2 MJ 0 0 v) XI XJ := gS_upLo (by decide) (by simp [gLo, u2]) (fun r h hn => by rcases r_20 h with rfl | rfl | rfl | rfl | rfl | rfl | rfl | rfl | rfl | rfl | rfl | rfl | rfl | rfl | rfl | rfl | rfl | rfl | rfl | rfl <;> first | exact absurd rfl hn | simp [gLo, u2]) (fun k i => by first | rfl | (unfold gHi; simp [u2]))
theorem gu_m19 {v : Int64} : va_up (gS ks ad np ng G MI MJ XI XJ) 0 (.inr (4, [.int (MI 0 0), .int (MI 0 1), .int (MI 0 2), .int (MI 0 3), .int (MI 0 4), .int (MI 0 5), .int (MI 0 6), .ref (ad 1), .ref (ad 2), .ref (ad 3), .ref (ad 4), .ref (ad 5), .ref (ad 6), .ref (ad 7), .ref (ad 8), .ref (ad 9), .ref (ad 10), .ref (ad 11), .long (MJ 0 0), .long v, .int (MI 0 7)])) = gS ks ad np ng G MI (u2 MJ 0 1 v) XI XJ := gS_upLo (by decide) (by simp [gLo, u2]) (fun r h hn => by rcases r_20 h with rfl | rfl | rfl | rfl | rfl | rfl | rfl | rfl | rfl | rfl | rfl | rfl | rfl | rfl | rfl | rfl | rfl | rfl | rfl | rfl <;> first | exact absurd rfl hn | simp [gLo, u2]) (fun k i => by first | rfl | (unfold gHi; simp [u2]))
theorem gu_m20 {v : Int32} : va_up (gS ks ad np ng G MI MJ XI XJ) 0 (.inr (4, [.int (MI 0 0), .int (MI 0 1), .int (MI 0 2), .int (MI 0 3), .int (MI 0 4), .int (MI 0 5), .int (MI 0 6), .ref (ad 1), .ref (ad 2), .ref (ad 3), .ref (ad 4), .ref (ad 5), .ref (ad 6), .ref (ad 7), .ref (ad 8), .ref (ad 9), .ref (ad 10), .ref (ad 11), .long (MJ 0 0), .long (MJ 0 1), .int v])) = gS ks ad np ng G (u2 MI 0 7 v) MJ XI XJ := gS_upLo (by decide) (by simp [gLo, u2]) (fun r h hn => by rcases r_20 h with rfl | rfl | rfl | rfl | rfl | rfl | rfl | rfl | rfl | rfl | rfl | rfl | rfl | rfl | rfl | rfl | rfl | rfl | rfl | rfl <;> first | exact absurd rfl hn | simp [gLo, u2]) (fun k i => by first | rfl | (unfold gHi; simp [u2]))
theorem gu_a1 {i : Nat} {v : Int32} : va_up (gS ks ad np ng G MI MJ XI XJ) 1 (.inl (ks 0, 30, .inl (upd (MI 1) i v))) = gS ks ad np ng G (u2 MI 1 i v) MJ XI XJ := gS_upLo (by decide) (by simp [gLo, u2]; rfl) (fun r h hn => by rcases r_20 h with rfl | rfl | rfl | rfl | rfl | rfl | rfl | rfl | rfl | rfl | rfl | rfl | rfl | rfl | rfl | rfl | rfl | rfl | rfl | rfl <;> first | exact absurd rfl hn | simp [gLo, u2]) (fun k i => by first | rfl | (unfold gHi; simp [u2]))
theorem gu_a2 {i : Nat} {v : Int32} : va_up (gS ks ad np ng G MI MJ XI XJ) 2 (.inl (ks 0, 30, .inl (upd (MI 2) i v))) = gS ks ad np ng G (u2 MI 2 i v) MJ XI XJ := gS_upLo (by decide) (by simp [gLo, u2]; rfl) (fun r h hn => by rcases r_20 h with rfl | rfl | rfl | rfl | rfl | rfl | rfl | rfl | rfl | rfl | rfl | rfl | rfl | rfl | rfl | rfl | rfl | rfl | rfl | rfl <;> first | exact absurd rfl hn | simp [gLo, u2]) (fun k i => by first | rfl | (unfold gHi; simp [u2]))
theorem gu_a3 {i : Nat} {v : Int32} : va_up (gS ks ad np ng G MI MJ XI XJ) 3 (.inl (ks 0, 30, .inl (upd (MI 3) i v))) = gS ks ad np ng G (u2 MI 3 i v) MJ XI XJ := gS_upLo (by decide) (by simp [gLo, u2]; rfl) (fun r h hn => by rcases r_20 h with rfl | rfl | rfl | rfl | rfl | rfl | rfl | rfl | rfl | rfl | rfl | rfl | rfl | rfl | rfl | rfl | rfl | rfl | rfl | rfl <;> first | exact absurd rfl hn | simp [gLo, u2]) (fun k i => by first | rfl | (unfold gHi; simp [u2]))
theorem gu_a4 {i : Nat} {v : Int32} : va_up (gS ks ad np ng G MI MJ XI XJ) 4 (.inl (ks 0, 30, .inl (upd (MI 4) i v))) = gS ks ad np ng G (u2 MI 4 i v) MJ XI XJ := gS_upLo (by decide) (by simp [gLo, u2]; rfl) (fun r h hn => by rcases r_20 h with rfl | rfl | rfl | rfl | rfl | rfl | rfl | rfl | rfl | rfl | rfl | rfl | rfl | rfl | rfl | rfl | rfl | rfl | rfl | rfl <;> first | exact absurd rfl hn | simp [gLo, u2]) (fun k i => by first | rfl | (unfold gHi; simp [u2]))
theorem gu_a5 {i : Nat} {v : Int32} : va_up (gS ks ad np ng G MI MJ XI XJ) 5 (.inl (ks 0, 30, .inl (upd (MI 5) i v))) = gS ks ad np ng G (u2 MI 5 i v) MJ XI XJ := gS_upLo (by decide) (by simp [gLo, u2]; rfl) (fun r h hn => by rcases r_20 h with rfl | rfl | rfl | rfl | rfl | rfl | rfl | rfl | rfl | rfl | rfl | rfl | rfl | rfl | rfl | rfl | rfl | rfl | rfl | rfl <;> first | exact absurd rfl hn | simp [gLo, u2]) (fun k i => by first | rfl | (unfold gHi; simp [u2]))
theorem gu_a6 {i : Nat} {v : Int32} : va_up (gS ks ad np ng G MI MJ XI XJ) 6 (.inl (ks 0, 30, .inl (upd (MI 6) i v))) = gS ks ad np ng G (u2 MI 6 i v) MJ XI XJ := gS_upLo (by decide) (by simp [gLo, u2]; rfl) (fun r h hn => by rcases r_20 h with rfl | rfl | rfl | rfl | rfl | rfl | rfl | rfl | rfl | rfl | rfl | rfl | rfl | rfl | rfl | rfl | rfl | rfl | rfl | rfl <;> first | exact absurd rfl hn | simp [gLo, u2]) (fun k i => by first | rfl | (unfold gHi; simp [u2]))
theorem gu_a7 {i : Nat} {v : Int32} : va_up (gS ks ad np ng G MI MJ XI XJ) 7 (.inl (ks 0, 30, .inl (upd (MI 7) i v))) = gS ks ad np ng G (u2 MI 7 i v) MJ XI XJ := gS_upLo (by decide) (by simp [gLo, u2]; rfl) (fun r h hn => by rcases r_20 h with rfl | rfl | rfl | rfl | rfl | rfl | rfl | rfl | rfl | rfl | rfl | rfl | rfl | rfl | rfl | rfl | rfl | rfl | rfl | rfl <;> first | exact absurd rfl hn | simp [gLo, u2]) (fun k i => by first | rfl | (unfold gHi; simp [u2]))
theorem gu_a8 {i : Nat} {v : Int64} : va_up (gS ks ad np ng G MI MJ XI XJ) 8 (.inl (ks 1, 30, .inr (.inl (vp_updL (MJ 1) i v)))) = gS ks ad np ng G MI (u2 MJ 1 i v) XI XJ := gS_upLo (by decide) (by simp [gLo, u2]; rfl) (fun r h hn => by rcases r_20 h with rfl | rfl | rfl | rfl | rfl | rfl | rfl | rfl | rfl | rfl | rfl | rfl | rfl | rfl | rfl | rfl | rfl | rfl | rfl | rfl <;> first | exact absurd rfl hn | simp [gLo, u2]) (fun k i => by first | rfl | (unfold gHi; simp [u2]))
theorem gu_a9 {i : Nat} {v : Int64} : va_up (gS ks ad np ng G MI MJ XI XJ) 9 (.inl (ks 1, 30, .inr (.inl (vp_updL (MJ 2) i v)))) = gS ks ad np ng G MI (u2 MJ 2 i v) XI XJ := gS_upLo (by decide) (by simp [gLo, u2]; rfl) (fun r h hn => by rcases r_20 h with rfl | rfl | rfl | rfl | rfl | rfl | rfl | rfl | rfl | rfl | rfl | rfl | rfl | rfl | rfl | rfl | rfl | rfl | rfl | rfl <;> first | exact absurd rfl hn | simp [gLo, u2]) (fun k i => by first | rfl | (unfold gHi; simp [u2]))
theorem gu_a10 {i : Nat} {v : Int32} : va_up (gS ks ad np ng G MI MJ XI XJ) 10 (.inl (ks 0, 21, .inl (upd (MI 8) i v))) = gS ks ad np ng G (u2 MI 8 i v) MJ XI XJ := gS_upLo (by decide) (by simp [gLo, u2]; rfl) (fun r h hn => by rcases r_20 h with rfl | rfl | rfl | rfl | rfl | rfl | rfl | rfl | rfl | rfl | rfl | rfl | rfl | rfl | rfl | rfl | rfl | rfl | rfl | rfl <;> first | exact absurd rfl hn | simp [gLo, u2]) (fun k i => by first | rfl | (unfold gHi; simp [u2]))
theorem gu_a11 {i : Nat} {v : Int32} : va_up (gS ks ad np ng G MI MJ XI XJ) 11 (.inl (ks 0, 21, .inl (upd (MI 9) i v))) = gS ks ad np ng G (u2 MI 9 i v) MJ XI XJ := gS_upLo (by decide) (by simp [gLo, u2]; rfl) (fun r h hn => by rcases r_20 h with rfl | rfl | rfl | rfl | rfl | rfl | rfl | rfl | rfl | rfl | rfl | rfl | rfl | rfl | rfl | rfl | rfl | rfl | rfl | rfl <;> first | exact absurd rfl hn | simp [gLo, u2]) (fun k i => by first | rfl | (unfold gHi; simp [u2]))
theorem gu_a12 {i : Nat} {v : Int64} : va_up (gS ks ad np ng G MI MJ XI XJ) 12 (.inl (ks 1, 1, .inr (.inl (vp_updL (MJ 3) i v)))) = gS ks ad np ng G MI (u2 MJ 3 i v) XI XJ := gS_upLo (by decide) (by simp [gLo, u2]; rfl) (fun r h hn => by rcases r_20 h with rfl | rfl | rfl | rfl | rfl | rfl | rfl | rfl | rfl | rfl | rfl | rfl | rfl | rfl | rfl | rfl | rfl | rfl | rfl | rfl <;> first | exact absurd rfl hn | simp [gLo, u2]) (fun k i => by first | rfl | (unfold gHi; simp [u2]))
theorem gu_a16 {i : Nat} {v : Int64} : va_up (gS ks ad np ng G MI MJ XI XJ) 16 (.inl (ks 1, 21, .inr (.inl (vp_updL (XJ 5) i v)))) = gS ks ad np ng G MI MJ XI (u2 XJ 5 i v) := gS_upLo (by decide) (by simp [gLo, u2]; rfl) (fun r h hn => by rcases r_20 h with rfl | rfl | rfl | rfl | rfl | rfl | rfl | rfl | rfl | rfl | rfl | rfl | rfl | rfl | rfl | rfl | rfl | rfl | rfl | rfl <;> first | exact absurd rfl hn | simp [gLo, u2]) (fun k i => by first | rfl | (unfold gHi; simp [u2]))
theorem gu_a17 {i : Nat} {v : Int64} : va_up (gS ks ad np ng G MI MJ XI XJ) 17 (.inl (ks 1, 21, .inr (.inl (vp_updL (XJ 6) i v)))) = gS ks ad np ng G MI MJ XI (u2 XJ 6 i v) := gS_upLo (by decide) (by simp [gLo, u2]; rfl) (fun r h hn => by rcases r_20 h with rfl | rfl | rfl | rfl | rfl | rfl | rfl | rfl | rfl | rfl | rfl | rfl | rfl | rfl | rfl | rfl | rfl | rfl | rfl | rfl <;> first | exact absurd rfl hn | simp [gLo, u2]) (fun k i => by first | rfl | (unfold gHi; simp [u2]))
theorem gu_gprem {i : Nat} {v : Int64} : va_up (gS ks ad np ng G MI MJ XI XJ) (20 + 4 * i) (.inr (1, [.int (XI 11 i), .int (XI 12 i), .ref (ad (21 + 4 * i)), .long v])) = gS ks ad np ng G MI MJ XI (u2 XJ 7 i v) := gS_upHi (k := 0) (by decide) (by simp [gHi, u2]) (fun a j ha hn => by rcases (show a = 0 ∨ a = 1 ∨ a = 2 ∨ a = 3 by omega) with rfl | rfl | rfl | rfl <;> simp_all [gHi, u2]) (by simp [u2]) (by simp [u2]) (by simp [u2]) (by simp [u2])
theorem gu_gamt {i : Nat} {v : Int64} : va_up (gS ks ad np ng G MI MJ XI XJ) (21 + 4 * i) (.inr (0, [.long v])) = gS ks ad np ng G MI MJ XI (u2 XJ 8 i v) := gS_upHi (k := 1) (by decide) (by simp [gHi, u2]) (fun a j ha hn => by rcases (show a = 0 ∨ a = 1 ∨ a = 2 ∨ a = 3 by omega) with rfl | rfl | rfl | rfl <;> simp_all [gHi, u2]) (by simp [u2]) (by simp [u2]) (by simp [u2]) (by simp [u2])
theorem gu_pbon {i : Nat} {v : Int64} : va_up (gS ks ad np ng G MI MJ XI XJ) (22 + 4 * i) (.inr (2, [.ref (ad (20 + 4 * G i)), .int (XI 13 i), .int (XI 14 i), .ref (ad (23 + 4 * i)), .long v, .int (XI 15 i), .long (XJ 11 i)])) = gS ks ad np ng G MI MJ XI (u2 XJ 10 i v) := gS_upHi (k := 2) (by decide) (by simp [gHi, u2]) (fun a j ha hn => by rcases (show a = 0 ∨ a = 1 ∨ a = 2 ∨ a = 3 by omega) with rfl | rfl | rfl | rfl <;> simp_all [gHi, u2]) (by simp [u2]) (by simp [u2]) (by simp [u2]) (by simp [u2])
theorem gu_pst {i : Nat} {v : Int32} : va_up (gS ks ad np ng G MI MJ XI XJ) (22 + 4 * i) (.inr (2, [.ref (ad (20 + 4 * G i)), .int (XI 13 i), .int (XI 14 i), .ref (ad (23 + 4 * i)), .long (XJ 10 i), .int v, .long (XJ 11 i)])) = gS ks ad np ng G MI MJ (u2 XI 15 i v) XJ := gS_upHi (k := 2) (by decide) (by simp [gHi, u2]) (fun a j ha hn => by rcases (show a = 0 ∨ a = 1 ∨ a = 2 ∨ a = 3 by omega) with rfl | rfl | rfl | rfl <;> simp_all [gHi, u2]) (by simp [u2]) (by simp [u2]) (by simp [u2]) (by simp [u2])
theorem gu_ppaid {i : Nat} {v : Int64} : va_up (gS ks ad np ng G MI MJ XI XJ) (22 + 4 * i) (.inr (2, [.ref (ad (20 + 4 * G i)), .int (XI 13 i), .int (XI 14 i), .ref (ad (23 + 4 * i)), .long (XJ 10 i), .int (XI 15 i), .long v])) = gS ks ad np ng G MI MJ XI (u2 XJ 11 i v) := gS_upHi (k := 2) (by decide) (by simp [gHi, u2]) (fun a j ha hn => by rcases (show a = 0 ∨ a = 1 ∨ a = 2 ∨ a = 3 by omega) with rfl | rfl | rfl | rfl <;> simp_all [gHi, u2]) (by simp [u2]) (by simp [u2]) (by simp [u2]) (by simp [u2])
theorem gu_pamt {i : Nat} {v : Int64} : va_up (gS ks ad np ng G MI MJ XI XJ) (23 + 4 * i) (.inr (0, [.long v])) = gS ks ad np ng G MI MJ XI (u2 XJ 9 i v) := gS_upHi (k := 3) (by decide) (by simp [gHi, u2]) (fun a j ha hn => by rcases (show a = 0 ∨ a = 1 ∨ a = 2 ∨ a = 3 by omega) with rfl | rfl | rfl | rfl <;> simp_all [gHi, u2]) (by simp [u2]) (by simp [u2]) (by simp [u2]) (by simp [u2])
end
end ZW
end
section
section ZF
variable {p : Program} {l : Launch} {e : Env} {R : Room} {s : State} {m : MethodId} {args : Array Value} {below : List Frame} {meth : Method} {c : Code} {H : Heap} {locs : List Loc} {cells slots : Nat} {Q : State → Prop}
variable {cc : ByteArray} {pc : Nat} {ls : Array Slot} {rest : List Value} {D : va_G} {A : Nat → Prop} {a : Nat} {Rs : List Nat}
variable {ks : Nat → ClassId} {ad : Nat → Nat} {np ng : Nat} {G : Nat → Nat} {MI : Nat → Nat → Int32} {MJ : Nat → Nat → Int64} {XI : Nat → Nat → Int32} {XJ : Nat → Nat → Int64}
theorem gf_X3_11 (hx : p.tables.exec = Jvm.exec) (hb : c.code = cc) (hT : ∀ w ∈ WS, w.before args s = true) (hown : s.vm.findClass RX3 = some m.cls) (hK : zK D ks s) {fs : List Value} {v : Value} (hat : va_at D vwCl (a, .inr (3, fs)) H) (hv : fs[0]? = some v) (hdg : decode cc pc = .ok (.getfield 11, 3)) (kk : W p l e R s m args below meth c H locs cells slots Q (F0 m (pc + 3) ls (v :: rest))) : W p l e R s m args below meth c H locs cells slots Q (F0 m pc ls (.ref a :: rest)) :=
  z_get hx hb hT hown hK ly_X3 (T := TX3) (N := 14) rfl 0 (by decide) fl_X3_11 (fun _ h => h) hat hv hdg kk
theorem pg_X3_11 (hx : p.tables.exec = Jvm.exec) (hb : c.code = cc) (hT : ∀ w ∈ WS, w.before args s = true) (hown : s.vm.findClass RX3 = some m.cls) (hK : zK D ks s) (hin : meth.name = "<init>") {g : Nat → va_E} (hP : zP D Rs ad g H) (hD : zD A Rs ad) (hS : va_S A s.heap H locs) {r : Nat} (hr : r ∈ Rs) {fs : List Value} {v : Nat} (he : g r = .inr (3, fs)) (hl : 0 < fs.length) (hdg : decode cc pc = .ok (.putfield 11, 3)) (kk : ∀ (H1 : Heap) (locs1 : List Loc), zP D Rs ad (va_up g r (.inr (3, fs.set 0 (.ref v)))) H1 → va_S A s.heap H1 locs1 → W p l e R s m args below meth c H1 locs1 cells slots Q (F0 m (pc + 3) ls rest)) : W p l e R s m args below meth c H locs cells slots Q (F0 m pc ls (.ref v :: .ref (ad r) :: rest)) :=
  z_putF hx hb hT hown hK ly_X3 tyX3 tyX3_ok nmX3 (T := TX3) (N := 14) rfl 0 (by decide) fl_X3_11 (fun _ h => h) rfl hin rfl (ty := tyX3 0) (by decide +kernel) rfl rfl hP hD hS hr he hl hdg kk
theorem gf_X3_17 (hx : p.tables.exec = Jvm.exec) (hb : c.code = cc) (hT : ∀ w ∈ WS, w.before args s = true) (hown : s.vm.findClass RX3 = some m.cls) (hK : zK D ks s) {fs : List Value} {v : Value} (hat : va_at D vwCl (a, .inr (3, fs)) H) (hv : fs[1]? = some v) (hdg : decode cc pc = .ok (.getfield 17, 3)) (kk : W p l e R s m args below meth c H locs cells slots Q (F0 m (pc + 3) ls (v :: rest))) : W p l e R s m args below meth c H locs cells slots Q (F0 m pc ls (.ref a :: rest)) :=
  z_get hx hb hT hown hK ly_X3 (T := TX3) (N := 14) rfl 1 (by decide) fl_X3_17 (fun _ h => h) hat hv hdg kk
theorem pg_X3_17 (hx : p.tables.exec = Jvm.exec) (hb : c.code = cc) (hT : ∀ w ∈ WS, w.before args s = true) (hown : s.vm.findClass RX3 = some m.cls) (hK : zK D ks s) (hin : meth.name = "<init>") {g : Nat → va_E} (hP : zP D Rs ad g H) (hD : zD A Rs ad) (hS : va_S A s.heap H locs) {r : Nat} (hr : r ∈ Rs) {fs : List Value} {v : Nat} (he : g r = .inr (3, fs)) (hl : 1 < fs.length) (hdg : decode cc pc = .ok (.putfield 17, 3)) (kk : ∀ (H1 : Heap) (locs1 : List Loc), zP D Rs ad (va_up g r (.inr (3, fs.set 1 (.ref v)))) H1 → va_S A s.heap H1 locs1 → W p l e R s m args below meth c H1 locs1 cells slots Q (F0 m (pc + 3) ls rest)) : W p l e R s m args below meth c H locs cells slots Q (F0 m pc ls (.ref v :: .ref (ad r) :: rest)) :=
  z_putF hx hb hT hown hK ly_X3 tyX3 tyX3_ok nmX3 (T := TX3) (N := 14) rfl 1 (by decide) fl_X3_17 (fun _ h => h) rfl hin rfl (ty := tyX3 1) (by decide +kernel) rfl rfl hP hD hS hr he hl hdg kk
theorem gf_X3_21 (hx : p.tables.exec = Jvm.exec) (hb : c.code = cc) (hT : ∀ w ∈ WS, w.before args s = true) (hown : s.vm.findClass RX3 = some m.cls) (hK : zK D ks s) {fs : List Value} {v : Value} (hat : va_at D vwCl (a, .inr (3, fs)) H) (hv : fs[2]? = some v) (hdg : decode cc pc = .ok (.getfield 21, 3)) (kk : W p l e R s m args below meth c H locs cells slots Q (F0 m (pc + 3) ls (v :: rest))) : W p l e R s m args below meth c H locs cells slots Q (F0 m pc ls (.ref a :: rest)) :=
  z_get hx hb hT hown hK ly_X3 (T := TX3) (N := 14) rfl 2 (by decide) fl_X3_21 (fun _ h => h) hat hv hdg kk
theorem pg_X3_21 (hx : p.tables.exec = Jvm.exec) (hb : c.code = cc) (hT : ∀ w ∈ WS, w.before args s = true) (hown : s.vm.findClass RX3 = some m.cls) (hK : zK D ks s) (hin : meth.name = "<init>") {g : Nat → va_E} (hP : zP D Rs ad g H) (hD : zD A Rs ad) (hS : va_S A s.heap H locs) {r : Nat} (hr : r ∈ Rs) {fs : List Value} {v : Nat} (he : g r = .inr (3, fs)) (hl : 2 < fs.length) (hdg : decode cc pc = .ok (.putfield 21, 3)) (kk : ∀ (H1 : Heap) (locs1 : List Loc), zP D Rs ad (va_up g r (.inr (3, fs.set 2 (.ref v)))) H1 → va_S A s.heap H1 locs1 → W p l e R s m args below meth c H1 locs1 cells slots Q (F0 m (pc + 3) ls rest)) : W p l e R s m args below meth c H locs cells slots Q (F0 m pc ls (.ref v :: .ref (ad r) :: rest)) :=
  z_putF hx hb hT hown hK ly_X3 tyX3 tyX3_ok nmX3 (T := TX3) (N := 14) rfl 2 (by decide) fl_X3_21 (fun _ h => h) rfl hin rfl (ty := tyX3 2) (by decide +kernel) rfl rfl hP hD hS hr he hl hdg kk
theorem gf_X3_25 (hx : p.tables.exec = Jvm.exec) (hb : c.code = cc) (hT : ∀ w ∈ WS, w.before args s = true) (hown : s.vm.findClass RX3 = some m.cls) (hK : zK D ks s) {fs : List Value} {v : Value} (hat : va_at D vwCl (a, .inr (3, fs)) H) (hv : fs[3]? = some v) (hdg : decode cc pc = .ok (.getfield 25, 3)) (kk : W p l e R s m args below meth c H locs cells slots Q (F0 m (pc + 3) ls (v :: rest))) : W p l e R s m args below meth c H locs cells slots Q (F0 m pc ls (.ref a :: rest)) :=
  z_get hx hb hT hown hK ly_X3 (T := TX3) (N := 14) rfl 3 (by decide) fl_X3_25 (fun _ h => h) hat hv hdg kk
theorem pg_X3_25 (hx : p.tables.exec = Jvm.exec) (hb : c.code = cc) (hT : ∀ w ∈ WS, w.before args s = true) (hown : s.vm.findClass RX3 = some m.cls) (hK : zK D ks s) (hin : meth.name = "<init>") {g : Nat → va_E} (hP : zP D Rs ad g H) (hD : zD A Rs ad) (hS : va_S A s.heap H locs) {r : Nat} (hr : r ∈ Rs) {fs : List Value} {v : Nat} (he : g r = .inr (3, fs)) (hl : 3 < fs.length) (hdg : decode cc pc = .ok (.putfield 25, 3)) (kk : ∀ (H1 : Heap) (locs1 : List Loc), zP D Rs ad (va_up g r (.inr (3, fs.set 3 (.ref v)))) H1 → va_S A s.heap H1 locs1 → W p l e R s m args below meth c H1 locs1 cells slots Q (F0 m (pc + 3) ls rest)) : W p l e R s m args below meth c H locs cells slots Q (F0 m pc ls (.ref v :: .ref (ad r) :: rest)) :=
  z_putF hx hb hT hown hK ly_X3 tyX3 tyX3_ok nmX3 (T := TX3) (N := 14) rfl 3 (by decide) fl_X3_25 (fun _ h => h) rfl hin rfl (ty := tyX3 3) (by decide +kernel) rfl rfl hP hD hS hr he hl hdg kk
theorem gf_X3_62 (hx : p.tables.exec = Jvm.exec) (hb : c.code = cc) (hT : ∀ w ∈ WS, w.before args s = true) (hown : s.vm.findClass RX3 = some m.cls) (hK : zK D ks s) {fs : List Value} {v : Value} (hat : va_at D vwCl (a, .inr (3, fs)) H) (hv : fs[4]? = some v) (hdg : decode cc pc = .ok (.getfield 62, 3)) (kk : W p l e R s m args below meth c H locs cells slots Q (F0 m (pc + 3) ls (v :: rest))) : W p l e R s m args below meth c H locs cells slots Q (F0 m pc ls (.ref a :: rest)) :=
  z_get hx hb hT hown hK ly_X3 (T := TX3) (N := 14) rfl 4 (by decide) fl_X3_62 (fun _ h => h) hat hv hdg kk
theorem pg_X3_62 (hx : p.tables.exec = Jvm.exec) (hb : c.code = cc) (hT : ∀ w ∈ WS, w.before args s = true) (hown : s.vm.findClass RX3 = some m.cls) (hK : zK D ks s) {g : Nat → va_E} (hP : zP D Rs ad g H) (hD : zD A Rs ad) (hS : va_S A s.heap H locs) {r : Nat} (hr : r ∈ Rs) {fs : List Value} {v : Int32} (he : g r = .inr (3, fs)) (hl : 4 < fs.length) (hdg : decode cc pc = .ok (.putfield 62, 3)) (kk : ∀ (H1 : Heap) (locs1 : List Loc), zP D Rs ad (va_up g r (.inr (3, fs.set 4 (.int v)))) H1 → va_S A s.heap H1 locs1 → W p l e R s m args below meth c H1 locs1 cells slots Q (F0 m (pc + 3) ls rest)) : W p l e R s m args below meth c H locs cells slots Q (F0 m pc ls (.int v :: .ref (ad r) :: rest)) :=
  z_put hx hb hT hown hK ly_X3 tyX3 tyX3_ok nmX3 (T := TX3) (N := 14) rfl 4 (by decide) fl_X3_62 (fun _ h => h) rfl (ty := .int) (by decide +kernel) rfl rfl hP hD hS hr he hl hdg kk
theorem gf_X3_205 (hx : p.tables.exec = Jvm.exec) (hb : c.code = cc) (hT : ∀ w ∈ WS, w.before args s = true) (hown : s.vm.findClass RX3 = some m.cls) (hK : zK D ks s) {fs : List Value} {v : Value} (hat : va_at D vwCl (a, .inr (3, fs)) H) (hv : fs[5]? = some v) (hdg : decode cc pc = .ok (.getfield 205, 3)) (kk : W p l e R s m args below meth c H locs cells slots Q (F0 m (pc + 3) ls (v :: rest))) : W p l e R s m args below meth c H locs cells slots Q (F0 m pc ls (.ref a :: rest)) :=
  z_get hx hb hT hown hK ly_X3 (T := TX3) (N := 14) rfl 5 (by decide) fl_X3_205 (fun _ h => h) hat hv hdg kk
theorem pg_X3_205 (hx : p.tables.exec = Jvm.exec) (hb : c.code = cc) (hT : ∀ w ∈ WS, w.before args s = true) (hown : s.vm.findClass RX3 = some m.cls) (hK : zK D ks s) {g : Nat → va_E} (hP : zP D Rs ad g H) (hD : zD A Rs ad) (hS : va_S A s.heap H locs) {r : Nat} (hr : r ∈ Rs) {fs : List Value} {v : Int32} (he : g r = .inr (3, fs)) (hl : 5 < fs.length) (hdg : decode cc pc = .ok (.putfield 205, 3)) (kk : ∀ (H1 : Heap) (locs1 : List Loc), zP D Rs ad (va_up g r (.inr (3, fs.set 5 (.int v)))) H1 → va_S A s.heap H1 locs1 → W p l e R s m args below meth c H1 locs1 cells slots Q (F0 m (pc + 3) ls rest)) : W p l e R s m args below meth c H locs cells slots Q (F0 m pc ls (.int v :: .ref (ad r) :: rest)) :=
  z_put hx hb hT hown hK ly_X3 tyX3 tyX3_ok nmX3 (T := TX3) (N := 14) rfl 5 (by decide) fl_X3_205 (fun _ h => h) rfl (ty := .int) (by decide +kernel) rfl rfl hP hD hS hr he hl hdg kk
theorem gf_X3_110 (hx : p.tables.exec = Jvm.exec) (hb : c.code = cc) (hT : ∀ w ∈ WS, w.before args s = true) (hown : s.vm.findClass RX3 = some m.cls) (hK : zK D ks s) {fs : List Value} {v : Value} (hat : va_at D vwCl (a, .inr (3, fs)) H) (hv : fs[6]? = some v) (hdg : decode cc pc = .ok (.getfield 110, 3)) (kk : W p l e R s m args below meth c H locs cells slots Q (F0 m (pc + 3) ls (v :: rest))) : W p l e R s m args below meth c H locs cells slots Q (F0 m pc ls (.ref a :: rest)) :=
  z_get hx hb hT hown hK ly_X3 (T := TX3) (N := 14) rfl 6 (by decide) fl_X3_110 (fun _ h => h) hat hv hdg kk
theorem pg_X3_110 (hx : p.tables.exec = Jvm.exec) (hb : c.code = cc) (hT : ∀ w ∈ WS, w.before args s = true) (hown : s.vm.findClass RX3 = some m.cls) (hK : zK D ks s) {g : Nat → va_E} (hP : zP D Rs ad g H) (hD : zD A Rs ad) (hS : va_S A s.heap H locs) {r : Nat} (hr : r ∈ Rs) {fs : List Value} {v : Int32} (he : g r = .inr (3, fs)) (hl : 6 < fs.length) (hdg : decode cc pc = .ok (.putfield 110, 3)) (kk : ∀ (H1 : Heap) (locs1 : List Loc), zP D Rs ad (va_up g r (.inr (3, fs.set 6 (.int v)))) H1 → va_S A s.heap H1 locs1 → W p l e R s m args below meth c H1 locs1 cells slots Q (F0 m (pc + 3) ls rest)) : W p l e R s m args below meth c H locs cells slots Q (F0 m pc ls (.int v :: .ref (ad r) :: rest)) :=
  z_put hx hb hT hown hK ly_X3 tyX3 tyX3_ok nmX3 (T := TX3) (N := 14) rfl 6 (by decide) fl_X3_110 (fun _ h => h) rfl (ty := .int) (by decide +kernel) rfl rfl hP hD hS hr he hl hdg kk
theorem gf_X3_30 (hx : p.tables.exec = Jvm.exec) (hb : c.code = cc) (hT : ∀ w ∈ WS, w.before args s = true) (hown : s.vm.findClass RX3 = some m.cls) (hK : zK D ks s) {fs : List Value} {v : Value} (hat : va_at D vwCl (a, .inr (3, fs)) H) (hv : fs[7]? = some v) (hdg : decode cc pc = .ok (.getfield 30, 3)) (kk : W p l e R s m args below meth c H locs cells slots Q (F0 m (pc + 3) ls (v :: rest))) : W p l e R s m args below meth c H locs cells slots Q (F0 m pc ls (.ref a :: rest)) :=
  z_get hx hb hT hown hK ly_X3 (T := TX3) (N := 14) rfl 7 (by decide) fl_X3_30 (fun _ h => h) hat hv hdg kk
theorem pg_X3_30 (hx : p.tables.exec = Jvm.exec) (hb : c.code = cc) (hT : ∀ w ∈ WS, w.before args s = true) (hown : s.vm.findClass RX3 = some m.cls) (hK : zK D ks s) {g : Nat → va_E} (hP : zP D Rs ad g H) (hD : zD A Rs ad) (hS : va_S A s.heap H locs) {r : Nat} (hr : r ∈ Rs) {fs : List Value} {v : Int32} (he : g r = .inr (3, fs)) (hl : 7 < fs.length) (hdg : decode cc pc = .ok (.putfield 30, 3)) (kk : ∀ (H1 : Heap) (locs1 : List Loc), zP D Rs ad (va_up g r (.inr (3, fs.set 7 (.int v)))) H1 → va_S A s.heap H1 locs1 → W p l e R s m args below meth c H1 locs1 cells slots Q (F0 m (pc + 3) ls rest)) : W p l e R s m args below meth c H locs cells slots Q (F0 m pc ls (.int v :: .ref (ad r) :: rest)) :=
  z_put hx hb hT hown hK ly_X3 tyX3 tyX3_ok nmX3 (T := TX3) (N := 14) rfl 7 (by decide) fl_X3_30 (fun _ h => h) rfl (ty := .int) (by decide +kernel) rfl rfl hP hD hS hr he hl hdg kk
theorem gf_X3_34 (hx : p.tables.exec = Jvm.exec) (hb : c.code = cc) (hT : ∀ w ∈ WS, w.before args s = true) (hown : s.vm.findClass RX3 = some m.cls) (hK : zK D ks s) {fs : List Value} {v : Value} (hat : va_at D vwCl (a, .inr (3, fs)) H) (hv : fs[8]? = some v) (hdg : decode cc pc = .ok (.getfield 34, 3)) (kk : W p l e R s m args below meth c H locs cells slots Q (F0 m (pc + 3) ls (v :: rest))) : W p l e R s m args below meth c H locs cells slots Q (F0 m pc ls (.ref a :: rest)) :=
  z_get hx hb hT hown hK ly_X3 (T := TX3) (N := 14) rfl 8 (by decide) fl_X3_34 (fun _ h => h) hat hv hdg kk
theorem pg_X3_34 (hx : p.tables.exec = Jvm.exec) (hb : c.code = cc) (hT : ∀ w ∈ WS, w.before args s = true) (hown : s.vm.findClass RX3 = some m.cls) (hK : zK D ks s) {g : Nat → va_E} (hP : zP D Rs ad g H) (hD : zD A Rs ad) (hS : va_S A s.heap H locs) {r : Nat} (hr : r ∈ Rs) {fs : List Value} {v : Int32} (he : g r = .inr (3, fs)) (hl : 8 < fs.length) (hdg : decode cc pc = .ok (.putfield 34, 3)) (kk : ∀ (H1 : Heap) (locs1 : List Loc), zP D Rs ad (va_up g r (.inr (3, fs.set 8 (.int v)))) H1 → va_S A s.heap H1 locs1 → W p l e R s m args below meth c H1 locs1 cells slots Q (F0 m (pc + 3) ls rest)) : W p l e R s m args below meth c H locs cells slots Q (F0 m pc ls (.int v :: .ref (ad r) :: rest)) :=
  z_put hx hb hT hown hK ly_X3 tyX3 tyX3_ok nmX3 (T := TX3) (N := 14) rfl 8 (by decide) fl_X3_34 (fun _ h => h) rfl (ty := .int) (by decide +kernel) rfl rfl hP hD hS hr he hl hdg kk
theorem gf_X3_37 (hx : p.tables.exec = Jvm.exec) (hb : c.code = cc) (hT : ∀ w ∈ WS, w.before args s = true) (hown : s.vm.findClass RX3 = some m.cls) (hK : zK D ks s) {fs : List Value} {v : Value} (hat : va_at D vwCl (a, .inr (3, fs)) H) (hv : fs[9]? = some v) (hdg : decode cc pc = .ok (.getfield 37, 3)) (kk : W p l e R s m args below meth c H locs cells slots Q (F0 m (pc + 3) ls (v :: rest))) : W p l e R s m args below meth c H locs cells slots Q (F0 m pc ls (.ref a :: rest)) :=
  z_get hx hb hT hown hK ly_X3 (T := TX3) (N := 14) rfl 9 (by decide) fl_X3_37 (fun _ h => h) hat hv hdg kk
theorem pg_X3_37 (hx : p.tables.exec = Jvm.exec) (hb : c.code = cc) (hT : ∀ w ∈ WS, w.before args s = true) (hown : s.vm.findClass RX3 = some m.cls) (hK : zK D ks s) {g : Nat → va_E} (hP : zP D Rs ad g H) (hD : zD A Rs ad) (hS : va_S A s.heap H locs) {r : Nat} (hr : r ∈ Rs) {fs : List Value} {v : Int32} (he : g r = .inr (3, fs)) (hl : 9 < fs.length) (hdg : decode cc pc = .ok (.putfield 37, 3)) (kk : ∀ (H1 : Heap) (locs1 : List Loc), zP D Rs ad (va_up g r (.inr (3, fs.set 9 (.int v)))) H1 → va_S A s.heap H1 locs1 → W p l e R s m args below meth c H1 locs1 cells slots Q (F0 m (pc + 3) ls rest)) : W p l e R s m args below meth c H locs cells slots Q (F0 m pc ls (.int v :: .ref (ad r) :: rest)) :=
  z_put hx hb hT hown hK ly_X3 tyX3 tyX3_ok nmX3 (T := TX3) (N := 14) rfl 9 (by decide) fl_X3_37 (fun _ h => h) rfl (ty := .int) (by decide +kernel) rfl rfl hP hD hS hr he hl hdg kk
theorem gf_X3_40 (hx : p.tables.exec = Jvm.exec) (hb : c.code = cc) (hT : ∀ w ∈ WS, w.before args s = true) (hown : s.vm.findClass RX3 = some m.cls) (hK : zK D ks s) {fs : List Value} {v : Value} (hat : va_at D vwCl (a, .inr (3, fs)) H) (hv : fs[10]? = some v) (hdg : decode cc pc = .ok (.getfield 40, 3)) (kk : W p l e R s m args below meth c H locs cells slots Q (F0 m (pc + 3) ls (v :: rest))) : W p l e R s m args below meth c H locs cells slots Q (F0 m pc ls (.ref a :: rest)) :=
  z_get hx hb hT hown hK ly_X3 (T := TX3) (N := 14) rfl 10 (by decide) fl_X3_40 (fun _ h => h) hat hv hdg kk
theorem pg_X3_40 (hx : p.tables.exec = Jvm.exec) (hb : c.code = cc) (hT : ∀ w ∈ WS, w.before args s = true) (hown : s.vm.findClass RX3 = some m.cls) (hK : zK D ks s) {g : Nat → va_E} (hP : zP D Rs ad g H) (hD : zD A Rs ad) (hS : va_S A s.heap H locs) {r : Nat} (hr : r ∈ Rs) {fs : List Value} {v : Int32} (he : g r = .inr (3, fs)) (hl : 10 < fs.length) (hdg : decode cc pc = .ok (.putfield 40, 3)) (kk : ∀ (H1 : Heap) (locs1 : List Loc), zP D Rs ad (va_up g r (.inr (3, fs.set 10 (.int v)))) H1 → va_S A s.heap H1 locs1 → W p l e R s m args below meth c H1 locs1 cells slots Q (F0 m (pc + 3) ls rest)) : W p l e R s m args below meth c H locs cells slots Q (F0 m pc ls (.int v :: .ref (ad r) :: rest)) :=
  z_put hx hb hT hown hK ly_X3 tyX3 tyX3_ok nmX3 (T := TX3) (N := 14) rfl 10 (by decide) fl_X3_40 (fun _ h => h) rfl (ty := .int) (by decide +kernel) rfl rfl hP hD hS hr he hl hdg kk
theorem gf_X3_43 (hx : p.tables.exec = Jvm.exec) (hb : c.code = cc) (hT : ∀ w ∈ WS, w.before args s = true) (hown : s.vm.findClass RX3 = some m.cls) (hK : zK D ks s) {fs : List Value} {v : Value} (hat : va_at D vwCl (a, .inr (3, fs)) H) (hv : fs[11]? = some v) (hdg : decode cc pc = .ok (.getfield 43, 3)) (kk : W p l e R s m args below meth c H locs cells slots Q (F0 m (pc + 3) ls (v :: rest))) : W p l e R s m args below meth c H locs cells slots Q (F0 m pc ls (.ref a :: rest)) :=
  z_get hx hb hT hown hK ly_X3 (T := TX3) (N := 14) rfl 11 (by decide) fl_X3_43 (fun _ h => h) hat hv hdg kk
theorem pg_X3_43 (hx : p.tables.exec = Jvm.exec) (hb : c.code = cc) (hT : ∀ w ∈ WS, w.before args s = true) (hown : s.vm.findClass RX3 = some m.cls) (hK : zK D ks s) {g : Nat → va_E} (hP : zP D Rs ad g H) (hD : zD A Rs ad) (hS : va_S A s.heap H locs) {r : Nat} (hr : r ∈ Rs) {fs : List Value} {v : Int32} (he : g r = .inr (3, fs)) (hl : 11 < fs.length) (hdg : decode cc pc = .ok (.putfield 43, 3)) (kk : ∀ (H1 : Heap) (locs1 : List Loc), zP D Rs ad (va_up g r (.inr (3, fs.set 11 (.int v)))) H1 → va_S A s.heap H1 locs1 → W p l e R s m args below meth c H1 locs1 cells slots Q (F0 m (pc + 3) ls rest)) : W p l e R s m args below meth c H locs cells slots Q (F0 m pc ls (.int v :: .ref (ad r) :: rest)) :=
  z_put hx hb hT hown hK ly_X3 tyX3 tyX3_ok nmX3 (T := TX3) (N := 14) rfl 11 (by decide) fl_X3_43 (fun _ h => h) rfl (ty := .int) (by decide +kernel) rfl rfl hP hD hS hr he hl hdg kk
theorem gf_X3_101 (hx : p.tables.exec = Jvm.exec) (hb : c.code = cc) (hT : ∀ w ∈ WS, w.before args s = true) (hown : s.vm.findClass RX3 = some m.cls) (hK : zK D ks s) {fs : List Value} {v : Value} (hat : va_at D vwCl (a, .inr (3, fs)) H) (hv : fs[12]? = some v) (hdg : decode cc pc = .ok (.getfield 101, 3)) (kk : W p l e R s m args below meth c H locs cells slots Q (F0 m (pc + 3) ls (v :: rest))) : W p l e R s m args below meth c H locs cells slots Q (F0 m pc ls (.ref a :: rest)) :=
  z_get hx hb hT hown hK ly_X3 (T := TX3) (N := 14) rfl 12 (by decide) fl_X3_101 (fun _ h => h) hat hv hdg kk
theorem pg_X3_101 (hx : p.tables.exec = Jvm.exec) (hb : c.code = cc) (hT : ∀ w ∈ WS, w.before args s = true) (hown : s.vm.findClass RX3 = some m.cls) (hK : zK D ks s) {g : Nat → va_E} (hP : zP D Rs ad g H) (hD : zD A Rs ad) (hS : va_S A s.heap H locs) {r : Nat} (hr : r ∈ Rs) {fs : List Value} {v : Int64} (he : g r = .inr (3, fs)) (hl : 12 < fs.length) (hdg : decode cc pc = .ok (.putfield 101, 3)) (kk : ∀ (H1 : Heap) (locs1 : List Loc), zP D Rs ad (va_up g r (.inr (3, fs.set 12 (.long v)))) H1 → va_S A s.heap H1 locs1 → W p l e R s m args below meth c H1 locs1 cells slots Q (F0 m (pc + 3) ls rest)) : W p l e R s m args below meth c H locs cells slots Q (F0 m pc ls (.long v :: .ref (ad r) :: rest)) :=
  z_put hx hb hT hown hK ly_X3 tyX3 tyX3_ok nmX3 (T := TX3) (N := 14) rfl 12 (by decide) fl_X3_101 (fun _ h => h) rfl (ty := .long) (by decide +kernel) rfl rfl hP hD hS hr he hl hdg kk
theorem gf_X3_105 (hx : p.tables.exec = Jvm.exec) (hb : c.code = cc) (hT : ∀ w ∈ WS, w.before args s = true) (hown : s.vm.findClass RX3 = some m.cls) (hK : zK D ks s) {fs : List Value} {v : Value} (hat : va_at D vwCl (a, .inr (3, fs)) H) (hv : fs[13]? = some v) (hdg : decode cc pc = .ok (.getfield 105, 3)) (kk : W p l e R s m args below meth c H locs cells slots Q (F0 m (pc + 3) ls (v :: rest))) : W p l e R s m args below meth c H locs cells slots Q (F0 m pc ls (.ref a :: rest)) :=
  z_get hx hb hT hown hK ly_X3 (T := TX3) (N := 14) rfl 13 (by decide) fl_X3_105 (fun _ h => h) hat hv hdg kk
theorem pg_X3_105 (hx : p.tables.exec = Jvm.exec) (hb : c.code = cc) (hT : ∀ w ∈ WS, w.before args s = true) (hown : s.vm.findClass RX3 = some m.cls) (hK : zK D ks s) {g : Nat → va_E} (hP : zP D Rs ad g H) (hD : zD A Rs ad) (hS : va_S A s.heap H locs) {r : Nat} (hr : r ∈ Rs) {fs : List Value} {v : Int64} (he : g r = .inr (3, fs)) (hl : 13 < fs.length) (hdg : decode cc pc = .ok (.putfield 105, 3)) (kk : ∀ (H1 : Heap) (locs1 : List Loc), zP D Rs ad (va_up g r (.inr (3, fs.set 13 (.long v)))) H1 → va_S A s.heap H1 locs1 → W p l e R s m args below meth c H1 locs1 cells slots Q (F0 m (pc + 3) ls rest)) : W p l e R s m args below meth c H locs cells slots Q (F0 m pc ls (.long v :: .ref (ad r) :: rest)) :=
  z_put hx hb hT hown hK ly_X3 tyX3 tyX3_ok nmX3 (T := TX3) (N := 14) rfl 13 (by decide) fl_X3_105 (fun _ h => h) rfl (ty := .long) (by decide +kernel) rfl rfl hP hD hS hr he hl hdg kk
theorem gf_X0_7 (hx : p.tables.exec = Jvm.exec) (hb : c.code = cc) (hT : ∀ w ∈ WS, w.before args s = true) (hown : s.vm.findClass RX0 = some m.cls) (hK : zK D ks s) {fs : List Value} {v : Value} (hat : va_at D vwCl (a, .inr (0, fs)) H) (hv : fs[0]? = some v) (hdg : decode cc pc = .ok (.getfield 7, 3)) (kk : W p l e R s m args below meth c H locs cells slots Q (F0 m (pc + 3) ls (v :: rest))) : W p l e R s m args below meth c H locs cells slots Q (F0 m pc ls (.ref a :: rest)) :=
  z_get hx hb hT hown hK ly_X0 (T := TX0) (N := 1) rfl 0 (by decide) fl_X0_7 (fun _ h => h) hat hv hdg kk
theorem pg_X0_7 (hx : p.tables.exec = Jvm.exec) (hb : c.code = cc) (hT : ∀ w ∈ WS, w.before args s = true) (hown : s.vm.findClass RX0 = some m.cls) (hK : zK D ks s) {g : Nat → va_E} (hP : zP D Rs ad g H) (hD : zD A Rs ad) (hS : va_S A s.heap H locs) {r : Nat} (hr : r ∈ Rs) {fs : List Value} {v : Int64} (he : g r = .inr (0, fs)) (hl : 0 < fs.length) (hdg : decode cc pc = .ok (.putfield 7, 3)) (kk : ∀ (H1 : Heap) (locs1 : List Loc), zP D Rs ad (va_up g r (.inr (0, fs.set 0 (.long v)))) H1 → va_S A s.heap H1 locs1 → W p l e R s m args below meth c H1 locs1 cells slots Q (F0 m (pc + 3) ls rest)) : W p l e R s m args below meth c H locs cells slots Q (F0 m pc ls (.long v :: .ref (ad r) :: rest)) :=
  z_put hx hb hT hown hK ly_X0 tyX0 tyX0_ok nmX0 (T := TX0) (N := 1) rfl 0 (by decide) fl_X0_7 (fun _ h => h) rfl (ty := .long) (by decide +kernel) rfl rfl hP hD hS hr he hl hdg kk
theorem gf_X1_7 (hx : p.tables.exec = Jvm.exec) (hb : c.code = cc) (hT : ∀ w ∈ WS, w.before args s = true) (hown : s.vm.findClass RX1 = some m.cls) (hK : zK D ks s) {fs : List Value} {v : Value} (hat : va_at D vwCl (a, .inr (1, fs)) H) (hv : fs[0]? = some v) (hdg : decode cc pc = .ok (.getfield 7, 3)) (kk : W p l e R s m args below meth c H locs cells slots Q (F0 m (pc + 3) ls (v :: rest))) : W p l e R s m args below meth c H locs cells slots Q (F0 m pc ls (.ref a :: rest)) :=
  z_get hx hb hT hown hK ly_X1 (T := TX1) (N := 4) rfl 0 (by decide) fl_X1_7 (fun _ h => h) hat hv hdg kk
theorem pg_X1_7 (hx : p.tables.exec = Jvm.exec) (hb : c.code = cc) (hT : ∀ w ∈ WS, w.before args s = true) (hown : s.vm.findClass RX1 = some m.cls) (hK : zK D ks s) (hin : meth.name = "<init>") {g : Nat → va_E} (hP : zP D Rs ad g H) (hD : zD A Rs ad) (hS : va_S A s.heap H locs) {r : Nat} (hr : r ∈ Rs) {fs : List Value} {v : Int32} (he : g r = .inr (1, fs)) (hl : 0 < fs.length) (hdg : decode cc pc = .ok (.putfield 7, 3)) (kk : ∀ (H1 : Heap) (locs1 : List Loc), zP D Rs ad (va_up g r (.inr (1, fs.set 0 (.int v)))) H1 → va_S A s.heap H1 locs1 → W p l e R s m args below meth c H1 locs1 cells slots Q (F0 m (pc + 3) ls rest)) : W p l e R s m args below meth c H locs cells slots Q (F0 m pc ls (.int v :: .ref (ad r) :: rest)) :=
  z_putF hx hb hT hown hK ly_X1 tyX1 tyX1_ok nmX1 (T := TX1) (N := 4) rfl 0 (by decide) fl_X1_7 (fun _ h => h) rfl hin rfl (ty := .int) (by decide +kernel) rfl rfl hP hD hS hr he hl hdg kk
theorem gf_X1_13 (hx : p.tables.exec = Jvm.exec) (hb : c.code = cc) (hT : ∀ w ∈ WS, w.before args s = true) (hown : s.vm.findClass RX1 = some m.cls) (hK : zK D ks s) {fs : List Value} {v : Value} (hat : va_at D vwCl (a, .inr (1, fs)) H) (hv : fs[1]? = some v) (hdg : decode cc pc = .ok (.getfield 13, 3)) (kk : W p l e R s m args below meth c H locs cells slots Q (F0 m (pc + 3) ls (v :: rest))) : W p l e R s m args below meth c H locs cells slots Q (F0 m pc ls (.ref a :: rest)) :=
  z_get hx hb hT hown hK ly_X1 (T := TX1) (N := 4) rfl 1 (by decide) fl_X1_13 (fun _ h => h) hat hv hdg kk
theorem pg_X1_13 (hx : p.tables.exec = Jvm.exec) (hb : c.code = cc) (hT : ∀ w ∈ WS, w.before args s = true) (hown : s.vm.findClass RX1 = some m.cls) (hK : zK D ks s) (hin : meth.name = "<init>") {g : Nat → va_E} (hP : zP D Rs ad g H) (hD : zD A Rs ad) (hS : va_S A s.heap H locs) {r : Nat} (hr : r ∈ Rs) {fs : List Value} {v : Int32} (he : g r = .inr (1, fs)) (hl : 1 < fs.length) (hdg : decode cc pc = .ok (.putfield 13, 3)) (kk : ∀ (H1 : Heap) (locs1 : List Loc), zP D Rs ad (va_up g r (.inr (1, fs.set 1 (.int v)))) H1 → va_S A s.heap H1 locs1 → W p l e R s m args below meth c H1 locs1 cells slots Q (F0 m (pc + 3) ls rest)) : W p l e R s m args below meth c H locs cells slots Q (F0 m pc ls (.int v :: .ref (ad r) :: rest)) :=
  z_putF hx hb hT hown hK ly_X1 tyX1 tyX1_ok nmX1 (T := TX1) (N := 4) rfl 1 (by decide) fl_X1_13 (fun _ h => h) rfl hin rfl (ty := .int) (by decide +kernel) rfl rfl hP hD hS hr he hl hdg kk
theorem gf_X1_19 (hx : p.tables.exec = Jvm.exec) (hb : c.code = cc) (hT : ∀ w ∈ WS, w.before args s = true) (hown : s.vm.findClass RX1 = some m.cls) (hK : zK D ks s) {fs : List Value} {v : Value} (hat : va_at D vwCl (a, .inr (1, fs)) H) (hv : fs[2]? = some v) (hdg : decode cc pc = .ok (.getfield 19, 3)) (kk : W p l e R s m args below meth c H locs cells slots Q (F0 m (pc + 3) ls (v :: rest))) : W p l e R s m args below meth c H locs cells slots Q (F0 m pc ls (.ref a :: rest)) :=
  z_get hx hb hT hown hK ly_X1 (T := TX1) (N := 4) rfl 2 (by decide) fl_X1_19 (fun _ h => h) hat hv hdg kk
theorem pg_X1_19 (hx : p.tables.exec = Jvm.exec) (hb : c.code = cc) (hT : ∀ w ∈ WS, w.before args s = true) (hown : s.vm.findClass RX1 = some m.cls) (hK : zK D ks s) (hin : meth.name = "<init>") {g : Nat → va_E} (hP : zP D Rs ad g H) (hD : zD A Rs ad) (hS : va_S A s.heap H locs) {r : Nat} (hr : r ∈ Rs) {fs : List Value} {v : Nat} (he : g r = .inr (1, fs)) (hl : 2 < fs.length) (hdg : decode cc pc = .ok (.putfield 19, 3)) (kk : ∀ (H1 : Heap) (locs1 : List Loc), zP D Rs ad (va_up g r (.inr (1, fs.set 2 (.ref v)))) H1 → va_S A s.heap H1 locs1 → W p l e R s m args below meth c H1 locs1 cells slots Q (F0 m (pc + 3) ls rest)) : W p l e R s m args below meth c H locs cells slots Q (F0 m pc ls (.ref v :: .ref (ad r) :: rest)) :=
  z_putF hx hb hT hown hK ly_X1 tyX1 tyX1_ok nmX1 (T := TX1) (N := 4) rfl 2 (by decide) fl_X1_19 (fun _ h => h) rfl hin rfl (ty := tyX1 2) (by decide +kernel) rfl rfl hP hD hS hr he hl hdg kk
theorem gf_X1_27 (hx : p.tables.exec = Jvm.exec) (hb : c.code = cc) (hT : ∀ w ∈ WS, w.before args s = true) (hown : s.vm.findClass RX1 = some m.cls) (hK : zK D ks s) {fs : List Value} {v : Value} (hat : va_at D vwCl (a, .inr (1, fs)) H) (hv : fs[3]? = some v) (hdg : decode cc pc = .ok (.getfield 27, 3)) (kk : W p l e R s m args below meth c H locs cells slots Q (F0 m (pc + 3) ls (v :: rest))) : W p l e R s m args below meth c H locs cells slots Q (F0 m pc ls (.ref a :: rest)) :=
  z_get hx hb hT hown hK ly_X1 (T := TX1) (N := 4) rfl 3 (by decide) fl_X1_27 (fun _ h => h) hat hv hdg kk
theorem pg_X1_27 (hx : p.tables.exec = Jvm.exec) (hb : c.code = cc) (hT : ∀ w ∈ WS, w.before args s = true) (hown : s.vm.findClass RX1 = some m.cls) (hK : zK D ks s) {g : Nat → va_E} (hP : zP D Rs ad g H) (hD : zD A Rs ad) (hS : va_S A s.heap H locs) {r : Nat} (hr : r ∈ Rs) {fs : List Value} {v : Int64} (he : g r = .inr (1, fs)) (hl : 3 < fs.length) (hdg : decode cc pc = .ok (.putfield 27, 3)) (kk : ∀ (H1 : Heap) (locs1 : List Loc), zP D Rs ad (va_up g r (.inr (1, fs.set 3 (.long v)))) H1 → va_S A s.heap H1 locs1 → W p l e R s m args below meth c H1 locs1 cells slots Q (F0 m (pc + 3) ls rest)) : W p l e R s m args below meth c H locs cells slots Q (F0 m pc ls (.long v :: .ref (ad r) :: rest)) :=
  z_put hx hb hT hown hK ly_X1 tyX1 tyX1_ok nmX1 (T := TX1) (N := 4) rfl 3 (by decide) fl_X1_27 (fun _ h => h) rfl (ty := .long) (by decide +kernel) rfl rfl hP hD hS hr he hl hdg kk
theorem gf_X2_9 (hx : p.tables.exec = Jvm.exec) (hb : c.code = cc) (hT : ∀ w ∈ WS, w.before args s = true) (hown : s.vm.findClass RX2 = some m.cls) (hK : zK D ks s) {fs : List Value} {v : Value} (hat : va_at D vwCl (a, .inr (2, fs)) H) (hv : fs[0]? = some v) (hdg : decode cc pc = .ok (.getfield 9, 3)) (kk : W p l e R s m args below meth c H locs cells slots Q (F0 m (pc + 3) ls (v :: rest))) : W p l e R s m args below meth c H locs cells slots Q (F0 m pc ls (.ref a :: rest)) :=
  z_get hx hb hT hown hK ly_X2 (T := TX2) (N := 7) rfl 0 (by decide) fl_X2_9 (fun _ h => h) hat hv hdg kk
theorem pg_X2_9 (hx : p.tables.exec = Jvm.exec) (hb : c.code = cc) (hT : ∀ w ∈ WS, w.before args s = true) (hown : s.vm.findClass RX2 = some m.cls) (hK : zK D ks s) (hin : meth.name = "<init>") {g : Nat → va_E} (hP : zP D Rs ad g H) (hD : zD A Rs ad) (hS : va_S A s.heap H locs) {r : Nat} (hr : r ∈ Rs) {fs : List Value} {v : Nat} (he : g r = .inr (2, fs)) (hl : 0 < fs.length) (hdg : decode cc pc = .ok (.putfield 9, 3)) (kk : ∀ (H1 : Heap) (locs1 : List Loc), zP D Rs ad (va_up g r (.inr (2, fs.set 0 (.ref v)))) H1 → va_S A s.heap H1 locs1 → W p l e R s m args below meth c H1 locs1 cells slots Q (F0 m (pc + 3) ls rest)) : W p l e R s m args below meth c H locs cells slots Q (F0 m pc ls (.ref v :: .ref (ad r) :: rest)) :=
  z_putF hx hb hT hown hK ly_X2 tyX2 tyX2_ok nmX2 (T := TX2) (N := 7) rfl 0 (by decide) fl_X2_9 (fun _ h => h) rfl hin rfl (ty := tyX2 0) (by decide +kernel) rfl rfl hP hD hS hr he hl hdg kk
theorem gf_X2_15 (hx : p.tables.exec = Jvm.exec) (hb : c.code = cc) (hT : ∀ w ∈ WS, w.before args s = true) (hown : s.vm.findClass RX2 = some m.cls) (hK : zK D ks s) {fs : List Value} {v : Value} (hat : va_at D vwCl (a, .inr (2, fs)) H) (hv : fs[1]? = some v) (hdg : decode cc pc = .ok (.getfield 15, 3)) (kk : W p l e R s m args below meth c H locs cells slots Q (F0 m (pc + 3) ls (v :: rest))) : W p l e R s m args below meth c H locs cells slots Q (F0 m pc ls (.ref a :: rest)) :=
  z_get hx hb hT hown hK ly_X2 (T := TX2) (N := 7) rfl 1 (by decide) fl_X2_15 (fun _ h => h) hat hv hdg kk
theorem pg_X2_15 (hx : p.tables.exec = Jvm.exec) (hb : c.code = cc) (hT : ∀ w ∈ WS, w.before args s = true) (hown : s.vm.findClass RX2 = some m.cls) (hK : zK D ks s) (hin : meth.name = "<init>") {g : Nat → va_E} (hP : zP D Rs ad g H) (hD : zD A Rs ad) (hS : va_S A s.heap H locs) {r : Nat} (hr : r ∈ Rs) {fs : List Value} {v : Int32} (he : g r = .inr (2, fs)) (hl : 1 < fs.length) (hdg : decode cc pc = .ok (.putfield 15, 3)) (kk : ∀ (H1 : Heap) (locs1 : List Loc), zP D Rs ad (va_up g r (.inr (2, fs.set 1 (.int v)))) H1 → va_S A s.heap H1 locs1 → W p l e R s m args below meth c H1 locs1 cells slots Q (F0 m (pc + 3) ls rest)) : W p l e R s m args below meth c H locs cells slots Q (F0 m pc ls (.int v :: .ref (ad r) :: rest)) :=
  z_putF hx hb hT hown hK ly_X2 tyX2 tyX2_ok nmX2 (T := TX2) (N := 7) rfl 1 (by decide) fl_X2_15 (fun _ h => h) rfl hin rfl (ty := .int) (by decide +kernel) rfl rfl hP hD hS hr he hl hdg kk
theorem gf_X2_19 (hx : p.tables.exec = Jvm.exec) (hb : c.code = cc) (hT : ∀ w ∈ WS, w.before args s = true) (hown : s.vm.findClass RX2 = some m.cls) (hK : zK D ks s) {fs : List Value} {v : Value} (hat : va_at D vwCl (a, .inr (2, fs)) H) (hv : fs[2]? = some v) (hdg : decode cc pc = .ok (.getfield 19, 3)) (kk : W p l e R s m args below meth c H locs cells slots Q (F0 m (pc + 3) ls (v :: rest))) : W p l e R s m args below meth c H locs cells slots Q (F0 m pc ls (.ref a :: rest)) :=
  z_get hx hb hT hown hK ly_X2 (T := TX2) (N := 7) rfl 2 (by decide) fl_X2_19 (fun _ h => h) hat hv hdg kk
theorem pg_X2_19 (hx : p.tables.exec = Jvm.exec) (hb : c.code = cc) (hT : ∀ w ∈ WS, w.before args s = true) (hown : s.vm.findClass RX2 = some m.cls) (hK : zK D ks s) (hin : meth.name = "<init>") {g : Nat → va_E} (hP : zP D Rs ad g H) (hD : zD A Rs ad) (hS : va_S A s.heap H locs) {r : Nat} (hr : r ∈ Rs) {fs : List Value} {v : Int32} (he : g r = .inr (2, fs)) (hl : 2 < fs.length) (hdg : decode cc pc = .ok (.putfield 19, 3)) (kk : ∀ (H1 : Heap) (locs1 : List Loc), zP D Rs ad (va_up g r (.inr (2, fs.set 2 (.int v)))) H1 → va_S A s.heap H1 locs1 → W p l e R s m args below meth c H1 locs1 cells slots Q (F0 m (pc + 3) ls rest)) : W p l e R s m args below meth c H locs cells slots Q (F0 m pc ls (.int v :: .ref (ad r) :: rest)) :=
  z_putF hx hb hT hown hK ly_X2 tyX2 tyX2_ok nmX2 (T := TX2) (N := 7) rfl 2 (by decide) fl_X2_19 (fun _ h => h) rfl hin rfl (ty := .int) (by decide +kernel) rfl rfl hP hD hS hr he hl hdg kk
theorem gf_X2_25 (hx : p.tables.exec = Jvm.exec) (hb : c.code = cc) (hT : ∀ w ∈ WS, w.before args s = true) (hown : s.vm.findClass RX2 = some m.cls) (hK : zK D ks s) {fs : List Value} {v : Value} (hat : va_at D vwCl (a, .inr (2, fs)) H) (hv : fs[3]? = some v) (hdg : decode cc pc = .ok (.getfield 25, 3)) (kk : W p l e R s m args below meth c H locs cells slots Q (F0 m (pc + 3) ls (v :: rest))) : W p l e R s m args below meth c H locs cells slots Q (F0 m pc ls (.ref a :: rest)) :=
  z_get hx hb hT hown hK ly_X2 (T := TX2) (N := 7) rfl 3 (by decide) fl_X2_25 (fun _ h => h) hat hv hdg kk
theorem pg_X2_25 (hx : p.tables.exec = Jvm.exec) (hb : c.code = cc) (hT : ∀ w ∈ WS, w.before args s = true) (hown : s.vm.findClass RX2 = some m.cls) (hK : zK D ks s) (hin : meth.name = "<init>") {g : Nat → va_E} (hP : zP D Rs ad g H) (hD : zD A Rs ad) (hS : va_S A s.heap H locs) {r : Nat} (hr : r ∈ Rs) {fs : List Value} {v : Nat} (he : g r = .inr (2, fs)) (hl : 3 < fs.length) (hdg : decode cc pc = .ok (.putfield 25, 3)) (kk : ∀ (H1 : Heap) (locs1 : List Loc), zP D Rs ad (va_up g r (.inr (2, fs.set 3 (.ref v)))) H1 → va_S A s.heap H1 locs1 → W p l e R s m args below meth c H1 locs1 cells slots Q (F0 m (pc + 3) ls rest)) : W p l e R s m args below meth c H locs cells slots Q (F0 m pc ls (.ref v :: .ref (ad r) :: rest)) :=
  z_putF hx hb hT hown hK ly_X2 tyX2 tyX2_ok nmX2 (T := TX2) (N := 7) rfl 3 (by decide) fl_X2_25 (fun _ h => h) rfl hin rfl (ty := tyX2 3) (by decide +kernel) rfl rfl hP hD hS hr he hl hdg kk
theorem gf_X2_38 (hx : p.tables.exec = Jvm.exec) (hb : c.code = cc) (hT : ∀ w ∈ WS, w.before args s = true) (hown : s.vm.findClass RX2 = some m.cls) (hK : zK D ks s) {fs : List Value} {v : Value} (hat : va_at D vwCl (a, .inr (2, fs)) H) (hv : fs[4]? = some v) (hdg : decode cc pc = .ok (.getfield 38, 3)) (kk : W p l e R s m args below meth c H locs cells slots Q (F0 m (pc + 3) ls (v :: rest))) : W p l e R s m args below meth c H locs cells slots Q (F0 m pc ls (.ref a :: rest)) :=
  z_get hx hb hT hown hK ly_X2 (T := TX2) (N := 7) rfl 4 (by decide) fl_X2_38 (fun _ h => h) hat hv hdg kk
theorem pg_X2_38 (hx : p.tables.exec = Jvm.exec) (hb : c.code = cc) (hT : ∀ w ∈ WS, w.before args s = true) (hown : s.vm.findClass RX2 = some m.cls) (hK : zK D ks s) {g : Nat → va_E} (hP : zP D Rs ad g H) (hD : zD A Rs ad) (hS : va_S A s.heap H locs) {r : Nat} (hr : r ∈ Rs) {fs : List Value} {v : Int64} (he : g r = .inr (2, fs)) (hl : 4 < fs.length) (hdg : decode cc pc = .ok (.putfield 38, 3)) (kk : ∀ (H1 : Heap) (locs1 : List Loc), zP D Rs ad (va_up g r (.inr (2, fs.set 4 (.long v)))) H1 → va_S A s.heap H1 locs1 → W p l e R s m args below meth c H1 locs1 cells slots Q (F0 m (pc + 3) ls rest)) : W p l e R s m args below meth c H locs cells slots Q (F0 m pc ls (.long v :: .ref (ad r) :: rest)) :=
  z_put hx hb hT hown hK ly_X2 tyX2 tyX2_ok nmX2 (T := TX2) (N := 7) rfl 4 (by decide) fl_X2_38 (fun _ h => h) rfl (ty := .long) (by decide +kernel) rfl rfl hP hD hS hr he hl hdg kk
theorem gf_X2_29 (hx : p.tables.exec = Jvm.exec) (hb : c.code = cc) (hT : ∀ w ∈ WS, w.before args s = true) (hown : s.vm.findClass RX2 = some m.cls) (hK : zK D ks s) {fs : List Value} {v : Value} (hat : va_at D vwCl (a, .inr (2, fs)) H) (hv : fs[5]? = some v) (hdg : decode cc pc = .ok (.getfield 29, 3)) (kk : W p l e R s m args below meth c H locs cells slots Q (F0 m (pc + 3) ls (v :: rest))) : W p l e R s m args below meth c H locs cells slots Q (F0 m pc ls (.ref a :: rest)) :=
  z_get hx hb hT hown hK ly_X2 (T := TX2) (N := 7) rfl 5 (by decide) fl_X2_29 (fun _ h => h) hat hv hdg kk
theorem pg_X2_29 (hx : p.tables.exec = Jvm.exec) (hb : c.code = cc) (hT : ∀ w ∈ WS, w.before args s = true) (hown : s.vm.findClass RX2 = some m.cls) (hK : zK D ks s) {g : Nat → va_E} (hP : zP D Rs ad g H) (hD : zD A Rs ad) (hS : va_S A s.heap H locs) {r : Nat} (hr : r ∈ Rs) {fs : List Value} {v : Int32} (he : g r = .inr (2, fs)) (hl : 5 < fs.length) (hdg : decode cc pc = .ok (.putfield 29, 3)) (kk : ∀ (H1 : Heap) (locs1 : List Loc), zP D Rs ad (va_up g r (.inr (2, fs.set 5 (.int v)))) H1 → va_S A s.heap H1 locs1 → W p l e R s m args below meth c H1 locs1 cells slots Q (F0 m (pc + 3) ls rest)) : W p l e R s m args below meth c H locs cells slots Q (F0 m pc ls (.int v :: .ref (ad r) :: rest)) :=
  z_put hx hb hT hown hK ly_X2 tyX2 tyX2_ok nmX2 (T := TX2) (N := 7) rfl 5 (by decide) fl_X2_29 (fun _ h => h) rfl (ty := .int) (by decide +kernel) rfl rfl hP hD hS hr he hl hdg kk
theorem gf_X2_34 (hx : p.tables.exec = Jvm.exec) (hb : c.code = cc) (hT : ∀ w ∈ WS, w.before args s = true) (hown : s.vm.findClass RX2 = some m.cls) (hK : zK D ks s) {fs : List Value} {v : Value} (hat : va_at D vwCl (a, .inr (2, fs)) H) (hv : fs[6]? = some v) (hdg : decode cc pc = .ok (.getfield 34, 3)) (kk : W p l e R s m args below meth c H locs cells slots Q (F0 m (pc + 3) ls (v :: rest))) : W p l e R s m args below meth c H locs cells slots Q (F0 m pc ls (.ref a :: rest)) :=
  z_get hx hb hT hown hK ly_X2 (T := TX2) (N := 7) rfl 6 (by decide) fl_X2_34 (fun _ h => h) hat hv hdg kk
theorem pg_X2_34 (hx : p.tables.exec = Jvm.exec) (hb : c.code = cc) (hT : ∀ w ∈ WS, w.before args s = true) (hown : s.vm.findClass RX2 = some m.cls) (hK : zK D ks s) {g : Nat → va_E} (hP : zP D Rs ad g H) (hD : zD A Rs ad) (hS : va_S A s.heap H locs) {r : Nat} (hr : r ∈ Rs) {fs : List Value} {v : Int64} (he : g r = .inr (2, fs)) (hl : 6 < fs.length) (hdg : decode cc pc = .ok (.putfield 34, 3)) (kk : ∀ (H1 : Heap) (locs1 : List Loc), zP D Rs ad (va_up g r (.inr (2, fs.set 6 (.long v)))) H1 → va_S A s.heap H1 locs1 → W p l e R s m args below meth c H1 locs1 cells slots Q (F0 m (pc + 3) ls rest)) : W p l e R s m args below meth c H locs cells slots Q (F0 m pc ls (.long v :: .ref (ad r) :: rest)) :=
  z_put hx hb hT hown hK ly_X2 tyX2 tyX2_ok nmX2 (T := TX2) (N := 7) rfl 6 (by decide) fl_X2_34 (fun _ h => h) rfl (ty := .long) (by decide +kernel) rfl rfl hP hD hS hr he hl hdg kk
theorem gf_X1_23 (hx : p.tables.exec = Jvm.exec) (hb : c.code = cc) (hT : ∀ w ∈ WS, w.before args s = true) (hown : s.vm.findClass RX1 = some m.cls) (hK : zK D ks s) {fs : List Value} {v : Value} (hat : va_at D vwCl (a, .inr (0, fs)) H) (hv : fs[0]? = some v) (hdg : decode cc pc = .ok (.getfield 23, 3)) (kk : W p l e R s m args below meth c H locs cells slots Q (F0 m (pc + 3) ls (v :: rest))) : W p l e R s m args below meth c H locs cells slots Q (F0 m pc ls (.ref a :: rest)) :=
  z_getN hx hb hT hown hK ly_X0 (T := TX0) (N := 1) rfl 0 (by decide) nf_X1_23 (fun _ h => h) hat hv hdg kk
theorem pg_X1_23 (hx : p.tables.exec = Jvm.exec) (hb : c.code = cc) (hT : ∀ w ∈ WS, w.before args s = true) (hown : s.vm.findClass RX1 = some m.cls) (hK : zK D ks s) {g : Nat → va_E} (hP : zP D Rs ad g H) (hD : zD A Rs ad) (hS : va_S A s.heap H locs) {r : Nat} (hr : r ∈ Rs) {fs : List Value} {v : Int64} (he : g r = .inr (0, fs)) (hl : 0 < fs.length) (hdg : decode cc pc = .ok (.putfield 23, 3)) (kk : ∀ (H1 : Heap) (locs1 : List Loc), zP D Rs ad (va_up g r (.inr (0, fs.set 0 (.long v)))) H1 → va_S A s.heap H1 locs1 → W p l e R s m args below meth c H1 locs1 cells slots Q (F0 m (pc + 3) ls rest)) : W p l e R s m args below meth c H locs cells slots Q (F0 m pc ls (.long v :: .ref (ad r) :: rest)) :=
  z_putN hx hb hT hown hK ly_X0 tyX0 tyX0_ok nmX0 (T := TX0) (N := 1) rfl 0 (by decide) nf_X1_23 (fun _ h => h) rfl (ty := .long) (by decide +kernel) rfl rfl hP hD hS hr he hl hdg kk
theorem gf_X3_151 (hx : p.tables.exec = Jvm.exec) (hb : c.code = cc) (hT : ∀ w ∈ WS, w.before args s = true) (hown : s.vm.findClass RX3 = some m.cls) (hK : zK D ks s) {fs : List Value} {v : Value} (hat : va_at D vwCl (a, .inr (0, fs)) H) (hv : fs[0]? = some v) (hdg : decode cc pc = .ok (.getfield 151, 3)) (kk : W p l e R s m args below meth c H locs cells slots Q (F0 m (pc + 3) ls (v :: rest))) : W p l e R s m args below meth c H locs cells slots Q (F0 m pc ls (.ref a :: rest)) :=
  z_getN hx hb hT hown hK ly_X0 (T := TX0) (N := 1) rfl 0 (by decide) nf_X3_151 (fun _ h => h) hat hv hdg kk
theorem pg_X3_151 (hx : p.tables.exec = Jvm.exec) (hb : c.code = cc) (hT : ∀ w ∈ WS, w.before args s = true) (hown : s.vm.findClass RX3 = some m.cls) (hK : zK D ks s) {g : Nat → va_E} (hP : zP D Rs ad g H) (hD : zD A Rs ad) (hS : va_S A s.heap H locs) {r : Nat} (hr : r ∈ Rs) {fs : List Value} {v : Int64} (he : g r = .inr (0, fs)) (hl : 0 < fs.length) (hdg : decode cc pc = .ok (.putfield 151, 3)) (kk : ∀ (H1 : Heap) (locs1 : List Loc), zP D Rs ad (va_up g r (.inr (0, fs.set 0 (.long v)))) H1 → va_S A s.heap H1 locs1 → W p l e R s m args below meth c H1 locs1 cells slots Q (F0 m (pc + 3) ls rest)) : W p l e R s m args below meth c H locs cells slots Q (F0 m pc ls (.long v :: .ref (ad r) :: rest)) :=
  z_putN hx hb hT hown hK ly_X0 tyX0 tyX0_ok nmX0 (T := TX0) (N := 1) rfl 0 (by decide) nf_X3_151 (fun _ h => h) rfl (ty := .long) (by decide +kernel) rfl rfl hP hD hS hr he hl hdg kk
theorem gf_X3_196 (hx : p.tables.exec = Jvm.exec) (hb : c.code = cc) (hT : ∀ w ∈ WS, w.before args s = true) (hown : s.vm.findClass RX3 = some m.cls) (hK : zK D ks s) {fs : List Value} {v : Value} (hat : va_at D vwCl (a, .inr (1, fs)) H) (hv : fs[0]? = some v) (hdg : decode cc pc = .ok (.getfield 196, 3)) (kk : W p l e R s m args below meth c H locs cells slots Q (F0 m (pc + 3) ls (v :: rest))) : W p l e R s m args below meth c H locs cells slots Q (F0 m pc ls (.ref a :: rest)) :=
  z_getN hx hb hT hown hK ly_X1 (T := TX1) (N := 4) rfl 0 (by decide) nf_X3_196 (fun _ h => h) hat hv hdg kk
theorem gf_X3_199 (hx : p.tables.exec = Jvm.exec) (hb : c.code = cc) (hT : ∀ w ∈ WS, w.before args s = true) (hown : s.vm.findClass RX3 = some m.cls) (hK : zK D ks s) {fs : List Value} {v : Value} (hat : va_at D vwCl (a, .inr (1, fs)) H) (hv : fs[1]? = some v) (hdg : decode cc pc = .ok (.getfield 199, 3)) (kk : W p l e R s m args below meth c H locs cells slots Q (F0 m (pc + 3) ls (v :: rest))) : W p l e R s m args below meth c H locs cells slots Q (F0 m pc ls (.ref a :: rest)) :=
  z_getN hx hb hT hown hK ly_X1 (T := TX1) (N := 4) rfl 1 (by decide) nf_X3_199 (fun _ h => h) hat hv hdg kk
theorem gf_X3_161 (hx : p.tables.exec = Jvm.exec) (hb : c.code = cc) (hT : ∀ w ∈ WS, w.before args s = true) (hown : s.vm.findClass RX3 = some m.cls) (hK : zK D ks s) {fs : List Value} {v : Value} (hat : va_at D vwCl (a, .inr (1, fs)) H) (hv : fs[2]? = some v) (hdg : decode cc pc = .ok (.getfield 161, 3)) (kk : W p l e R s m args below meth c H locs cells slots Q (F0 m (pc + 3) ls (v :: rest))) : W p l e R s m args below meth c H locs cells slots Q (F0 m pc ls (.ref a :: rest)) :=
  z_getN hx hb hT hown hK ly_X1 (T := TX1) (N := 4) rfl 2 (by decide) nf_X3_161 (fun _ h => h) hat hv hdg kk
theorem gf_X3_208 (hx : p.tables.exec = Jvm.exec) (hb : c.code = cc) (hT : ∀ w ∈ WS, w.before args s = true) (hown : s.vm.findClass RX3 = some m.cls) (hK : zK D ks s) {fs : List Value} {v : Value} (hat : va_at D vwCl (a, .inr (1, fs)) H) (hv : fs[3]? = some v) (hdg : decode cc pc = .ok (.getfield 208, 3)) (kk : W p l e R s m args below meth c H locs cells slots Q (F0 m (pc + 3) ls (v :: rest))) : W p l e R s m args below meth c H locs cells slots Q (F0 m pc ls (.ref a :: rest)) :=
  z_getN hx hb hT hown hK ly_X1 (T := TX1) (N := 4) rfl 3 (by decide) nf_X3_208 (fun _ h => h) hat hv hdg kk
theorem pg_X3_208 (hx : p.tables.exec = Jvm.exec) (hb : c.code = cc) (hT : ∀ w ∈ WS, w.before args s = true) (hown : s.vm.findClass RX3 = some m.cls) (hK : zK D ks s) {g : Nat → va_E} (hP : zP D Rs ad g H) (hD : zD A Rs ad) (hS : va_S A s.heap H locs) {r : Nat} (hr : r ∈ Rs) {fs : List Value} {v : Int64} (he : g r = .inr (1, fs)) (hl : 3 < fs.length) (hdg : decode cc pc = .ok (.putfield 208, 3)) (kk : ∀ (H1 : Heap) (locs1 : List Loc), zP D Rs ad (va_up g r (.inr (1, fs.set 3 (.long v)))) H1 → va_S A s.heap H1 locs1 → W p l e R s m args below meth c H1 locs1 cells slots Q (F0 m (pc + 3) ls rest)) : W p l e R s m args below meth c H locs cells slots Q (F0 m pc ls (.long v :: .ref (ad r) :: rest)) :=
  z_putN hx hb hT hown hK ly_X1 tyX1 tyX1_ok nmX1 (T := TX1) (N := 4) rfl 3 (by decide) nf_X3_208 (fun _ h => h) rfl (ty := .long) (by decide +kernel) rfl rfl hP hD hS hr he hl hdg kk
theorem gf_X3_192 (hx : p.tables.exec = Jvm.exec) (hb : c.code = cc) (hT : ∀ w ∈ WS, w.before args s = true) (hown : s.vm.findClass RX3 = some m.cls) (hK : zK D ks s) {fs : List Value} {v : Value} (hat : va_at D vwCl (a, .inr (2, fs)) H) (hv : fs[0]? = some v) (hdg : decode cc pc = .ok (.getfield 192, 3)) (kk : W p l e R s m args below meth c H locs cells slots Q (F0 m (pc + 3) ls (v :: rest))) : W p l e R s m args below meth c H locs cells slots Q (F0 m pc ls (.ref a :: rest)) :=
  z_getN hx hb hT hown hK ly_X2 (T := TX2) (N := 7) rfl 0 (by decide) nf_X3_192 (fun _ h => h) hat hv hdg kk
theorem gf_X3_218 (hx : p.tables.exec = Jvm.exec) (hb : c.code = cc) (hT : ∀ w ∈ WS, w.before args s = true) (hown : s.vm.findClass RX3 = some m.cls) (hK : zK D ks s) {fs : List Value} {v : Value} (hat : va_at D vwCl (a, .inr (2, fs)) H) (hv : fs[1]? = some v) (hdg : decode cc pc = .ok (.getfield 218, 3)) (kk : W p l e R s m args below meth c H locs cells slots Q (F0 m (pc + 3) ls (v :: rest))) : W p l e R s m args below meth c H locs cells slots Q (F0 m pc ls (.ref a :: rest)) :=
  z_getN hx hb hT hown hK ly_X2 (T := TX2) (N := 7) rfl 1 (by decide) nf_X3_218 (fun _ h => h) hat hv hdg kk
theorem gf_X3_147 (hx : p.tables.exec = Jvm.exec) (hb : c.code = cc) (hT : ∀ w ∈ WS, w.before args s = true) (hown : s.vm.findClass RX3 = some m.cls) (hK : zK D ks s) {fs : List Value} {v : Value} (hat : va_at D vwCl (a, .inr (2, fs)) H) (hv : fs[3]? = some v) (hdg : decode cc pc = .ok (.getfield 147, 3)) (kk : W p l e R s m args below meth c H locs cells slots Q (F0 m (pc + 3) ls (v :: rest))) : W p l e R s m args below meth c H locs cells slots Q (F0 m pc ls (.ref a :: rest)) :=
  z_getN hx hb hT hown hK ly_X2 (T := TX2) (N := 7) rfl 3 (by decide) nf_X3_147 (fun _ h => h) hat hv hdg kk
theorem gf_X3_136 (hx : p.tables.exec = Jvm.exec) (hb : c.code = cc) (hT : ∀ w ∈ WS, w.before args s = true) (hown : s.vm.findClass RX3 = some m.cls) (hK : zK D ks s) {fs : List Value} {v : Value} (hat : va_at D vwCl (a, .inr (2, fs)) H) (hv : fs[4]? = some v) (hdg : decode cc pc = .ok (.getfield 136, 3)) (kk : W p l e R s m args below meth c H locs cells slots Q (F0 m (pc + 3) ls (v :: rest))) : W p l e R s m args below meth c H locs cells slots Q (F0 m pc ls (.ref a :: rest)) :=
  z_getN hx hb hT hown hK ly_X2 (T := TX2) (N := 7) rfl 4 (by decide) nf_X3_136 (fun _ h => h) hat hv hdg kk
theorem pg_X3_136 (hx : p.tables.exec = Jvm.exec) (hb : c.code = cc) (hT : ∀ w ∈ WS, w.before args s = true) (hown : s.vm.findClass RX3 = some m.cls) (hK : zK D ks s) {g : Nat → va_E} (hP : zP D Rs ad g H) (hD : zD A Rs ad) (hS : va_S A s.heap H locs) {r : Nat} (hr : r ∈ Rs) {fs : List Value} {v : Int64} (he : g r = .inr (2, fs)) (hl : 4 < fs.length) (hdg : decode cc pc = .ok (.putfield 136, 3)) (kk : ∀ (H1 : Heap) (locs1 : List Loc), zP D Rs ad (va_up g r (.inr (2, fs.set 4 (.long v)))) H1 → va_S A s.heap H1 locs1 → W p l e R s m args below meth c H1 locs1 cells slots Q (F0 m (pc + 3) ls rest)) : W p l e R s m args below meth c H locs cells slots Q (F0 m pc ls (.long v :: .ref (ad r) :: rest)) :=
  z_putN hx hb hT hown hK ly_X2 tyX2 tyX2_ok nmX2 (T := TX2) (N := 7) rfl 4 (by decide) nf_X3_136 (fun _ h => h) rfl (ty := .long) (by decide +kernel) rfl rfl hP hD hS hr he hl hdg kk
theorem gf_X3_133 (hx : p.tables.exec = Jvm.exec) (hb : c.code = cc) (hT : ∀ w ∈ WS, w.before args s = true) (hown : s.vm.findClass RX3 = some m.cls) (hK : zK D ks s) {fs : List Value} {v : Value} (hat : va_at D vwCl (a, .inr (2, fs)) H) (hv : fs[5]? = some v) (hdg : decode cc pc = .ok (.getfield 133, 3)) (kk : W p l e R s m args below meth c H locs cells slots Q (F0 m (pc + 3) ls (v :: rest))) : W p l e R s m args below meth c H locs cells slots Q (F0 m pc ls (.ref a :: rest)) :=
  z_getN hx hb hT hown hK ly_X2 (T := TX2) (N := 7) rfl 5 (by decide) nf_X3_133 (fun _ h => h) hat hv hdg kk
theorem pg_X3_133 (hx : p.tables.exec = Jvm.exec) (hb : c.code = cc) (hT : ∀ w ∈ WS, w.before args s = true) (hown : s.vm.findClass RX3 = some m.cls) (hK : zK D ks s) {g : Nat → va_E} (hP : zP D Rs ad g H) (hD : zD A Rs ad) (hS : va_S A s.heap H locs) {r : Nat} (hr : r ∈ Rs) {fs : List Value} {v : Int32} (he : g r = .inr (2, fs)) (hl : 5 < fs.length) (hdg : decode cc pc = .ok (.putfield 133, 3)) (kk : ∀ (H1 : Heap) (locs1 : List Loc), zP D Rs ad (va_up g r (.inr (2, fs.set 5 (.int v)))) H1 → va_S A s.heap H1 locs1 → W p l e R s m args below meth c H1 locs1 cells slots Q (F0 m (pc + 3) ls rest)) : W p l e R s m args below meth c H locs cells slots Q (F0 m pc ls (.int v :: .ref (ad r) :: rest)) :=
  z_putN hx hb hT hown hK ly_X2 tyX2 tyX2_ok nmX2 (T := TX2) (N := 7) rfl 5 (by decide) nf_X3_133 (fun _ h => h) rfl (ty := .int) (by decide +kernel) rfl rfl hP hD hS hr he hl hdg kk
theorem gf_X3_164 (hx : p.tables.exec = Jvm.exec) (hb : c.code = cc) (hT : ∀ w ∈ WS, w.before args s = true) (hown : s.vm.findClass RX3 = some m.cls) (hK : zK D ks s) {fs : List Value} {v : Value} (hat : va_at D vwCl (a, .inr (2, fs)) H) (hv : fs[6]? = some v) (hdg : decode cc pc = .ok (.getfield 164, 3)) (kk : W p l e R s m args below meth c H locs cells slots Q (F0 m (pc + 3) ls (v :: rest))) : W p l e R s m args below meth c H locs cells slots Q (F0 m pc ls (.ref a :: rest)) :=
  z_getN hx hb hT hown hK ly_X2 (T := TX2) (N := 7) rfl 6 (by decide) nf_X3_164 (fun _ h => h) hat hv hdg kk
theorem pg_X3_164 (hx : p.tables.exec = Jvm.exec) (hb : c.code = cc) (hT : ∀ w ∈ WS, w.before args s = true) (hown : s.vm.findClass RX3 = some m.cls) (hK : zK D ks s) {g : Nat → va_E} (hP : zP D Rs ad g H) (hD : zD A Rs ad) (hS : va_S A s.heap H locs) {r : Nat} (hr : r ∈ Rs) {fs : List Value} {v : Int64} (he : g r = .inr (2, fs)) (hl : 6 < fs.length) (hdg : decode cc pc = .ok (.putfield 164, 3)) (kk : ∀ (H1 : Heap) (locs1 : List Loc), zP D Rs ad (va_up g r (.inr (2, fs.set 6 (.long v)))) H1 → va_S A s.heap H1 locs1 → W p l e R s m args below meth c H1 locs1 cells slots Q (F0 m (pc + 3) ls rest)) : W p l e R s m args below meth c H locs cells slots Q (F0 m pc ls (.long v :: .ref (ad r) :: rest)) :=
  z_putN hx hb hT hown hK ly_X2 tyX2 tyX2_ok nmX2 (T := TX2) (N := 7) rfl 6 (by decide) nf_X3_164 (fun _ h => h) rfl (ty := .long) (by decide +kernel) rfl rfl hP hD hS hr he hl hdg kk
theorem pf_X3_62 (hx : p.tables.exec = Jvm.exec) (hb : c.code = cc) (hT : ∀ w ∈ WS, w.before args s = true) (hown : s.vm.findClass RX3 = some m.cls) (hK : zK D ks s) (hP : zP D Rs ad (gS ks ad np ng G MI MJ XI XJ) H) (hD : zD A Rs ad) (hS : va_S A s.heap H locs) (hr : 13 ∈ Rs) {v : Int32} (hdg : decode cc pc = .ok (.putfield 62, 3)) (kk : ∀ (H1 : Heap) (locs1 : List Loc), zP D Rs ad (gS ks ad np ng G MI MJ (u2 XI 10 0 v) XJ) H1 → va_S A s.heap H1 locs1 → W p l e R s m args below meth c H1 locs1 cells slots Q (F0 m (pc + 3) ls rest)) : W p l e R s m args below meth c H locs cells slots Q (F0 m pc ls (.int v :: .ref (ad (13)) :: rest)) :=
  pg_X3_62 hx hb hT hown hK hP hD hS hr (r := 13) (he := rfl) (Nat.le_of_ble_eq_true rfl) hdg (fun H1 locs1 hP1 hS1 => kk H1 locs1 (by rw [← gu_o4]; exact hP1) hS1)
theorem pf_X3_205 (hx : p.tables.exec = Jvm.exec) (hb : c.code = cc) (hT : ∀ w ∈ WS, w.before args s = true) (hown : s.vm.findClass RX3 = some m.cls) (hK : zK D ks s) (hP : zP D Rs ad (gS ks ad np ng G MI MJ XI XJ) H) (hD : zD A Rs ad) (hS : va_S A s.heap H locs) (hr : 13 ∈ Rs) {v : Int32} (hdg : decode cc pc = .ok (.putfield 205, 3)) (kk : ∀ (H1 : Heap) (locs1 : List Loc), zP D Rs ad (gS ks ad np ng G MI MJ (u2 XI 10 1 v) XJ) H1 → va_S A s.heap H1 locs1 → W p l e R s m args below meth c H1 locs1 cells slots Q (F0 m (pc + 3) ls rest)) : W p l e R s m args below meth c H locs cells slots Q (F0 m pc ls (.int v :: .ref (ad (13)) :: rest)) :=
  pg_X3_205 hx hb hT hown hK hP hD hS hr (r := 13) (he := rfl) (Nat.le_of_ble_eq_true rfl) hdg (fun H1 locs1 hP1 hS1 => kk H1 locs1 (by rw [← gu_o5]; exact hP1) hS1)
theorem pf_X3_110 (hx : p.tables.exec = Jvm.exec) (hb : c.code = cc) (hT : ∀ w ∈ WS, w.before args s = true) (hown : s.vm.findClass RX3 = some m.cls) (hK : zK D ks s) (hP : zP D Rs ad (gS ks ad np ng G MI MJ XI XJ) H) (hD : zD A Rs ad) (hS : va_S A s.heap H locs) (hr : 13 ∈ Rs) {v : Int32} (hdg : decode cc pc = .ok (.putfield 110, 3)) (kk : ∀ (H1 : Heap) (locs1 : List Loc), zP D Rs ad (gS ks ad np ng G MI MJ (u2 XI 10 2 v) XJ) H1 → va_S A s.heap H1 locs1 → W p l e R s m args below meth c H1 locs1 cells slots Q (F0 m (pc + 3) ls rest)) : W p l e R s m args below meth c H locs cells slots Q (F0 m pc ls (.int v :: .ref (ad (13)) :: rest)) :=
  pg_X3_110 hx hb hT hown hK hP hD hS hr (r := 13) (he := rfl) (Nat.le_of_ble_eq_true rfl) hdg (fun H1 locs1 hP1 hS1 => kk H1 locs1 (by rw [← gu_o6]; exact hP1) hS1)
theorem pf_X3_30 (hx : p.tables.exec = Jvm.exec) (hb : c.code = cc) (hT : ∀ w ∈ WS, w.before args s = true) (hown : s.vm.findClass RX3 = some m.cls) (hK : zK D ks s) (hP : zP D Rs ad (gS ks ad np ng G MI MJ XI XJ) H) (hD : zD A Rs ad) (hS : va_S A s.heap H locs) (hr : 13 ∈ Rs) {v : Int32} (hdg : decode cc pc = .ok (.putfield 30, 3)) (kk : ∀ (H1 : Heap) (locs1 : List Loc), zP D Rs ad (gS ks ad np ng G MI MJ (u2 XI 10 3 v) XJ) H1 → va_S A s.heap H1 locs1 → W p l e R s m args below meth c H1 locs1 cells slots Q (F0 m (pc + 3) ls rest)) : W p l e R s m args below meth c H locs cells slots Q (F0 m pc ls (.int v :: .ref (ad (13)) :: rest)) :=
  pg_X3_30 hx hb hT hown hK hP hD hS hr (r := 13) (he := rfl) (Nat.le_of_ble_eq_true rfl) hdg (fun H1 locs1 hP1 hS1 => kk H1 locs1 (by rw [← gu_o7]; exact hP1) hS1)
theorem pf_X3_34 (hx : p.tables.exec = Jvm.exec) (hb : c.code = cc) (hT : ∀ w ∈ WS, w.before args s = true) (hown : s.vm.findClass RX3 = some m.cls) (hK : zK D ks s) (hP : zP D Rs ad (gS ks ad np ng G MI MJ XI XJ) H) (hD : zD A Rs ad) (hS : va_S A s.heap H locs) (hr : 13 ∈ Rs) {v : Int32} (hdg : decode cc pc = .ok (.putfield 34, 3)) (kk : ∀ (H1 : Heap) (locs1 : List Loc), zP D Rs ad (gS ks ad np ng G MI MJ (u2 XI 10 4 v) XJ) H1 → va_S A s.heap H1 locs1 → W p l e R s m args below meth c H1 locs1 cells slots Q (F0 m (pc + 3) ls rest)) : W p l e R s m args below meth c H locs cells slots Q (F0 m pc ls (.int v :: .ref (ad (13)) :: rest)) :=
  pg_X3_34 hx hb hT hown hK hP hD hS hr (r := 13) (he := rfl) (Nat.le_of_ble_eq_true rfl) hdg (fun H1 locs1 hP1 hS1 => kk H1 locs1 (by rw [← gu_o8]; exact hP1) hS1)
theorem pf_X3_37 (hx : p.tables.exec = Jvm.exec) (hb : c.code = cc) (hT : ∀ w ∈ WS, w.before args s = true) (hown : s.vm.findClass RX3 = some m.cls) (hK : zK D ks s) (hP : zP D Rs ad (gS ks ad np ng G MI MJ XI XJ) H) (hD : zD A Rs ad) (hS : va_S A s.heap H locs) (hr : 13 ∈ Rs) {v : Int32} (hdg : decode cc pc = .ok (.putfield 37, 3)) (kk : ∀ (H1 : Heap) (locs1 : List Loc), zP D Rs ad (gS ks ad np ng G MI MJ (u2 XI 10 5 v) XJ) H1 → va_S A s.heap H1 locs1 → W p l e R s m args below meth c H1 locs1 cells slots Q (F0 m (pc + 3) ls rest)) : W p l e R s m args below meth c H locs cells slots Q (F0 m pc ls (.int v :: .ref (ad (13)) :: rest)) :=
  pg_X3_37 hx hb hT hown hK hP hD hS hr (r := 13) (he := rfl) (Nat.le_of_ble_eq_true rfl) hdg (fun H1 locs1 hP1 hS1 => kk H1 locs1 (by rw [← gu_o9]; exact hP1) hS1)
theorem pf_X3_40 (hx : p.tables.exec = Jvm.exec) (hb : c.code = cc) (hT : ∀ w ∈ WS, w.before args s = true) (hown : s.vm.findClass RX3 = some m.cls) (hK : zK D ks s) (hP : zP D Rs ad (gS ks ad np ng G MI MJ XI XJ) H) (hD : zD A Rs ad) (hS : va_S A s.heap H locs) (hr : 13 ∈ Rs) {v : Int32} (hdg : decode cc pc = .ok (.putfield 40, 3)) (kk : ∀ (H1 : Heap) (locs1 : List Loc), zP D Rs ad (gS ks ad np ng G MI MJ (u2 XI 10 6 v) XJ) H1 → va_S A s.heap H1 locs1 → W p l e R s m args below meth c H1 locs1 cells slots Q (F0 m (pc + 3) ls rest)) : W p l e R s m args below meth c H locs cells slots Q (F0 m pc ls (.int v :: .ref (ad (13)) :: rest)) :=
  pg_X3_40 hx hb hT hown hK hP hD hS hr (r := 13) (he := rfl) (Nat.le_of_ble_eq_true rfl) hdg (fun H1 locs1 hP1 hS1 => kk H1 locs1 (by rw [← gu_o10]; exact hP1) hS1)
theorem pf_X3_43 (hx : p.tables.exec = Jvm.exec) (hb : c.code = cc) (hT : ∀ w ∈ WS, w.before args s = true) (hown : s.vm.findClass RX3 = some m.cls) (hK : zK D ks s) (hP : zP D Rs ad (gS ks ad np ng G MI MJ XI XJ) H) (hD : zD A Rs ad) (hS : va_S A s.heap H locs) (hr : 13 ∈ Rs) {v : Int32} (hdg : decode cc pc = .ok (.putfield 43, 3)) (kk : ∀ (H1 : Heap) (locs1 : List Loc), zP D Rs ad (gS ks ad np ng G MI MJ (u2 XI 10 7 v) XJ) H1 → va_S A s.heap H1 locs1 → W p l e R s m args below meth c H1 locs1 cells slots Q (F0 m (pc + 3) ls rest)) : W p l e R s m args below meth c H locs cells slots Q (F0 m pc ls (.int v :: .ref (ad (13)) :: rest)) :=
  pg_X3_43 hx hb hT hown hK hP hD hS hr (r := 13) (he := rfl) (Nat.le_of_ble_eq_true rfl) hdg (fun H1 locs1 hP1 hS1 => kk H1 locs1 (by rw [← gu_o11]; exact hP1) hS1)
theorem pf_X3_101 (hx : p.tables.exec = Jvm.exec) (hb : c.code = cc) (hT : ∀ w ∈ WS, w.before args s = true) (hown : s.vm.findClass RX3 = some m.cls) (hK : zK D ks s) (hP : zP D Rs ad (gS ks ad np ng G MI MJ XI XJ) H) (hD : zD A Rs ad) (hS : va_S A s.heap H locs) (hr : 13 ∈ Rs) {v : Int64} (hdg : decode cc pc = .ok (.putfield 101, 3)) (kk : ∀ (H1 : Heap) (locs1 : List Loc), zP D Rs ad (gS ks ad np ng G MI MJ XI (u2 XJ 4 0 v)) H1 → va_S A s.heap H1 locs1 → W p l e R s m args below meth c H1 locs1 cells slots Q (F0 m (pc + 3) ls rest)) : W p l e R s m args below meth c H locs cells slots Q (F0 m pc ls (.long v :: .ref (ad (13)) :: rest)) :=
  pg_X3_101 hx hb hT hown hK hP hD hS hr (r := 13) (he := rfl) (Nat.le_of_ble_eq_true rfl) hdg (fun H1 locs1 hP1 hS1 => kk H1 locs1 (by rw [← gu_o12]; exact hP1) hS1)
theorem pf_X3_105 (hx : p.tables.exec = Jvm.exec) (hb : c.code = cc) (hT : ∀ w ∈ WS, w.before args s = true) (hown : s.vm.findClass RX3 = some m.cls) (hK : zK D ks s) (hP : zP D Rs ad (gS ks ad np ng G MI MJ XI XJ) H) (hD : zD A Rs ad) (hS : va_S A s.heap H locs) (hr : 13 ∈ Rs) {v : Int64} (hdg : decode cc pc = .ok (.putfield 105, 3)) (kk : ∀ (H1 : Heap) (locs1 : List Loc), zP D Rs ad (gS ks ad np ng G MI MJ XI (u2 XJ 4 1 v)) H1 → va_S A s.heap H1 locs1 → W p l e R s m args below meth c H1 locs1 cells slots Q (F0 m (pc + 3) ls rest)) : W p l e R s m args below meth c H locs cells slots Q (F0 m pc ls (.long v :: .ref (ad (13)) :: rest)) :=
  pg_X3_105 hx hb hT hown hK hP hD hS hr (r := 13) (he := rfl) (Nat.le_of_ble_eq_true rfl) hdg (fun H1 locs1 hP1 hS1 => kk H1 locs1 (by rw [← gu_o13]; exact hP1) hS1)
theorem pf_X1_27 (hx : p.tables.exec = Jvm.exec) (hb : c.code = cc) (hT : ∀ w ∈ WS, w.before args s = true) (hown : s.vm.findClass RX1 = some m.cls) (hK : zK D ks s) (hP : zP D Rs ad (gS ks ad np ng G MI MJ XI XJ) H) (hD : zD A Rs ad) (hS : va_S A s.heap H locs) {i : Nat} (hr : 20 + 4 * i ∈ Rs) {v : Int64} (hdg : decode cc pc = .ok (.putfield 27, 3)) (kk : ∀ (H1 : Heap) (locs1 : List Loc), zP D Rs ad (gS ks ad np ng G MI MJ XI (u2 XJ 7 i v)) H1 → va_S A s.heap H1 locs1 → W p l e R s m args below meth c H1 locs1 cells slots Q (F0 m (pc + 3) ls rest)) : W p l e R s m args below meth c H locs cells slots Q (F0 m pc ls (.long v :: .ref (ad (20 + 4 * i)) :: rest)) :=
  pg_X1_27 hx hb hT hown hK hP hD hS hr (r := 20 + 4 * i) (he := gS_0) (Nat.le_of_ble_eq_true rfl) hdg (fun H1 locs1 hP1 hS1 => kk H1 locs1 (by rw [← gu_gprem]; exact hP1) hS1)
theorem pf_X2_38 (hx : p.tables.exec = Jvm.exec) (hb : c.code = cc) (hT : ∀ w ∈ WS, w.before args s = true) (hown : s.vm.findClass RX2 = some m.cls) (hK : zK D ks s) (hP : zP D Rs ad (gS ks ad np ng G MI MJ XI XJ) H) (hD : zD A Rs ad) (hS : va_S A s.heap H locs) {i : Nat} (hr : 22 + 4 * i ∈ Rs) {v : Int64} (hdg : decode cc pc = .ok (.putfield 38, 3)) (kk : ∀ (H1 : Heap) (locs1 : List Loc), zP D Rs ad (gS ks ad np ng G MI MJ XI (u2 XJ 10 i v)) H1 → va_S A s.heap H1 locs1 → W p l e R s m args below meth c H1 locs1 cells slots Q (F0 m (pc + 3) ls rest)) : W p l e R s m args below meth c H locs cells slots Q (F0 m pc ls (.long v :: .ref (ad (22 + 4 * i)) :: rest)) :=
  pg_X2_38 hx hb hT hown hK hP hD hS hr (r := 22 + 4 * i) (he := gS_2) (Nat.le_of_ble_eq_true rfl) hdg (fun H1 locs1 hP1 hS1 => kk H1 locs1 (by rw [← gu_pbon]; exact hP1) hS1)
theorem pf_X2_29 (hx : p.tables.exec = Jvm.exec) (hb : c.code = cc) (hT : ∀ w ∈ WS, w.before args s = true) (hown : s.vm.findClass RX2 = some m.cls) (hK : zK D ks s) (hP : zP D Rs ad (gS ks ad np ng G MI MJ XI XJ) H) (hD : zD A Rs ad) (hS : va_S A s.heap H locs) {i : Nat} (hr : 22 + 4 * i ∈ Rs) {v : Int32} (hdg : decode cc pc = .ok (.putfield 29, 3)) (kk : ∀ (H1 : Heap) (locs1 : List Loc), zP D Rs ad (gS ks ad np ng G MI MJ (u2 XI 15 i v) XJ) H1 → va_S A s.heap H1 locs1 → W p l e R s m args below meth c H1 locs1 cells slots Q (F0 m (pc + 3) ls rest)) : W p l e R s m args below meth c H locs cells slots Q (F0 m pc ls (.int v :: .ref (ad (22 + 4 * i)) :: rest)) :=
  pg_X2_29 hx hb hT hown hK hP hD hS hr (r := 22 + 4 * i) (he := gS_2) (Nat.le_of_ble_eq_true rfl) hdg (fun H1 locs1 hP1 hS1 => kk H1 locs1 (by rw [← gu_pst]; exact hP1) hS1)
theorem pf_X2_34 (hx : p.tables.exec = Jvm.exec) (hb : c.code = cc) (hT : ∀ w ∈ WS, w.before args s = true) (hown : s.vm.findClass RX2 = some m.cls) (hK : zK D ks s) (hP : zP D Rs ad (gS ks ad np ng G MI MJ XI XJ) H) (hD : zD A Rs ad) (hS : va_S A s.heap H locs) {i : Nat} (hr : 22 + 4 * i ∈ Rs) {v : Int64} (hdg : decode cc pc = .ok (.putfield 34, 3)) (kk : ∀ (H1 : Heap) (locs1 : List Loc), zP D Rs ad (gS ks ad np ng G MI MJ XI (u2 XJ 11 i v)) H1 → va_S A s.heap H1 locs1 → W p l e R s m args below meth c H1 locs1 cells slots Q (F0 m (pc + 3) ls rest)) : W p l e R s m args below meth c H locs cells slots Q (F0 m pc ls (.long v :: .ref (ad (22 + 4 * i)) :: rest)) :=
  pg_X2_34 hx hb hT hown hK hP hD hS hr (r := 22 + 4 * i) (he := gS_2) (Nat.le_of_ble_eq_true rfl) hdg (fun H1 locs1 hP1 hS1 => kk H1 locs1 (by rw [← gu_ppaid]; exact hP1) hS1)
theorem pf_X1_23 (hx : p.tables.exec = Jvm.exec) (hb : c.code = cc) (hT : ∀ w ∈ WS, w.before args s = true) (hown : s.vm.findClass RX1 = some m.cls) (hK : zK D ks s) (hP : zP D Rs ad (gS ks ad np ng G MI MJ XI XJ) H) (hD : zD A Rs ad) (hS : va_S A s.heap H locs) {i : Nat} (hr : 21 + 4 * i ∈ Rs) {v : Int64} (hdg : decode cc pc = .ok (.putfield 23, 3)) (kk : ∀ (H1 : Heap) (locs1 : List Loc), zP D Rs ad (gS ks ad np ng G MI MJ XI (u2 XJ 8 i v)) H1 → va_S A s.heap H1 locs1 → W p l e R s m args below meth c H1 locs1 cells slots Q (F0 m (pc + 3) ls rest)) : W p l e R s m args below meth c H locs cells slots Q (F0 m pc ls (.long v :: .ref (ad (21 + 4 * i)) :: rest)) :=
  pg_X1_23 hx hb hT hown hK hP hD hS hr (r := 21 + 4 * i) (he := gS_1) (Nat.le_of_ble_eq_true rfl) hdg (fun H1 locs1 hP1 hS1 => kk H1 locs1 (by rw [← gu_gamt]; exact hP1) hS1)
theorem pp_X1_23 (hx : p.tables.exec = Jvm.exec) (hb : c.code = cc) (hT : ∀ w ∈ WS, w.before args s = true) (hown : s.vm.findClass RX1 = some m.cls) (hK : zK D ks s) (hP : zP D Rs ad (gS ks ad np ng G MI MJ XI XJ) H) (hD : zD A Rs ad) (hS : va_S A s.heap H locs) {i : Nat} (hr : 23 + 4 * i ∈ Rs) {v : Int64} (hdg : decode cc pc = .ok (.putfield 23, 3)) (kk : ∀ (H1 : Heap) (locs1 : List Loc), zP D Rs ad (gS ks ad np ng G MI MJ XI (u2 XJ 9 i v)) H1 → va_S A s.heap H1 locs1 → W p l e R s m args below meth c H1 locs1 cells slots Q (F0 m (pc + 3) ls rest)) : W p l e R s m args below meth c H locs cells slots Q (F0 m pc ls (.long v :: .ref (ad (23 + 4 * i)) :: rest)) :=
  pg_X1_23 hx hb hT hown hK hP hD hS hr (r := 23 + 4 * i) (he := gS_3) (Nat.le_of_ble_eq_true rfl) hdg (fun H1 locs1 hP1 hS1 => kk H1 locs1 (by rw [← gu_pamt]; exact hP1) hS1)
theorem pf_X3_151 (hx : p.tables.exec = Jvm.exec) (hb : c.code = cc) (hT : ∀ w ∈ WS, w.before args s = true) (hown : s.vm.findClass RX3 = some m.cls) (hK : zK D ks s) (hP : zP D Rs ad (gS ks ad np ng G MI MJ XI XJ) H) (hD : zD A Rs ad) (hS : va_S A s.heap H locs) {i : Nat} (hr : 21 + 4 * i ∈ Rs) {v : Int64} (hdg : decode cc pc = .ok (.putfield 151, 3)) (kk : ∀ (H1 : Heap) (locs1 : List Loc), zP D Rs ad (gS ks ad np ng G MI MJ XI (u2 XJ 8 i v)) H1 → va_S A s.heap H1 locs1 → W p l e R s m args below meth c H1 locs1 cells slots Q (F0 m (pc + 3) ls rest)) : W p l e R s m args below meth c H locs cells slots Q (F0 m pc ls (.long v :: .ref (ad (21 + 4 * i)) :: rest)) :=
  pg_X3_151 hx hb hT hown hK hP hD hS hr (r := 21 + 4 * i) (he := gS_1) (Nat.le_of_ble_eq_true rfl) hdg (fun H1 locs1 hP1 hS1 => kk H1 locs1 (by rw [← gu_gamt]; exact hP1) hS1)
theorem pp_X3_151 (hx : p.tables.exec = Jvm.exec) (hb : c.code = cc) (hT : ∀ w ∈ WS, w.before args s = true) (hown : s.vm.findClass RX3 = some m.cls) (hK : zK D ks s) (hP : zP D Rs ad (gS ks ad np ng G MI MJ XI XJ) H) (hD : zD A Rs ad) (hS : va_S A s.heap H locs) {i : Nat} (hr : 23 + 4 * i ∈ Rs) {v : Int64} (hdg : decode cc pc = .ok (.putfield 151, 3)) (kk : ∀ (H1 : Heap) (locs1 : List Loc), zP D Rs ad (gS ks ad np ng G MI MJ XI (u2 XJ 9 i v)) H1 → va_S A s.heap H1 locs1 → W p l e R s m args below meth c H1 locs1 cells slots Q (F0 m (pc + 3) ls rest)) : W p l e R s m args below meth c H locs cells slots Q (F0 m pc ls (.long v :: .ref (ad (23 + 4 * i)) :: rest)) :=
  pg_X3_151 hx hb hT hown hK hP hD hS hr (r := 23 + 4 * i) (he := gS_3) (Nat.le_of_ble_eq_true rfl) hdg (fun H1 locs1 hP1 hS1 => kk H1 locs1 (by rw [← gu_pamt]; exact hP1) hS1)
theorem pf_X3_208 (hx : p.tables.exec = Jvm.exec) (hb : c.code = cc) (hT : ∀ w ∈ WS, w.before args s = true) (hown : s.vm.findClass RX3 = some m.cls) (hK : zK D ks s) (hP : zP D Rs ad (gS ks ad np ng G MI MJ XI XJ) H) (hD : zD A Rs ad) (hS : va_S A s.heap H locs) {i : Nat} (hr : 20 + 4 * i ∈ Rs) {v : Int64} (hdg : decode cc pc = .ok (.putfield 208, 3)) (kk : ∀ (H1 : Heap) (locs1 : List Loc), zP D Rs ad (gS ks ad np ng G MI MJ XI (u2 XJ 7 i v)) H1 → va_S A s.heap H1 locs1 → W p l e R s m args below meth c H1 locs1 cells slots Q (F0 m (pc + 3) ls rest)) : W p l e R s m args below meth c H locs cells slots Q (F0 m pc ls (.long v :: .ref (ad (20 + 4 * i)) :: rest)) :=
  pg_X3_208 hx hb hT hown hK hP hD hS hr (r := 20 + 4 * i) (he := gS_0) (Nat.le_of_ble_eq_true rfl) hdg (fun H1 locs1 hP1 hS1 => kk H1 locs1 (by rw [← gu_gprem]; exact hP1) hS1)
theorem pf_X3_136 (hx : p.tables.exec = Jvm.exec) (hb : c.code = cc) (hT : ∀ w ∈ WS, w.before args s = true) (hown : s.vm.findClass RX3 = some m.cls) (hK : zK D ks s) (hP : zP D Rs ad (gS ks ad np ng G MI MJ XI XJ) H) (hD : zD A Rs ad) (hS : va_S A s.heap H locs) {i : Nat} (hr : 22 + 4 * i ∈ Rs) {v : Int64} (hdg : decode cc pc = .ok (.putfield 136, 3)) (kk : ∀ (H1 : Heap) (locs1 : List Loc), zP D Rs ad (gS ks ad np ng G MI MJ XI (u2 XJ 10 i v)) H1 → va_S A s.heap H1 locs1 → W p l e R s m args below meth c H1 locs1 cells slots Q (F0 m (pc + 3) ls rest)) : W p l e R s m args below meth c H locs cells slots Q (F0 m pc ls (.long v :: .ref (ad (22 + 4 * i)) :: rest)) :=
  pg_X3_136 hx hb hT hown hK hP hD hS hr (r := 22 + 4 * i) (he := gS_2) (Nat.le_of_ble_eq_true rfl) hdg (fun H1 locs1 hP1 hS1 => kk H1 locs1 (by rw [← gu_pbon]; exact hP1) hS1)
theorem pf_X3_133 (hx : p.tables.exec = Jvm.exec) (hb : c.code = cc) (hT : ∀ w ∈ WS, w.before args s = true) (hown : s.vm.findClass RX3 = some m.cls) (hK : zK D ks s) (hP : zP D Rs ad (gS ks ad np ng G MI MJ XI XJ) H) (hD : zD A Rs ad) (hS : va_S A s.heap H locs) {i : Nat} (hr : 22 + 4 * i ∈ Rs) {v : Int32} (hdg : decode cc pc = .ok (.putfield 133, 3)) (kk : ∀ (H1 : Heap) (locs1 : List Loc), zP D Rs ad (gS ks ad np ng G MI MJ (u2 XI 15 i v) XJ) H1 → va_S A s.heap H1 locs1 → W p l e R s m args below meth c H1 locs1 cells slots Q (F0 m (pc + 3) ls rest)) : W p l e R s m args below meth c H locs cells slots Q (F0 m pc ls (.int v :: .ref (ad (22 + 4 * i)) :: rest)) :=
  pg_X3_133 hx hb hT hown hK hP hD hS hr (r := 22 + 4 * i) (he := gS_2) (Nat.le_of_ble_eq_true rfl) hdg (fun H1 locs1 hP1 hS1 => kk H1 locs1 (by rw [← gu_pst]; exact hP1) hS1)
theorem pf_X3_164 (hx : p.tables.exec = Jvm.exec) (hb : c.code = cc) (hT : ∀ w ∈ WS, w.before args s = true) (hown : s.vm.findClass RX3 = some m.cls) (hK : zK D ks s) (hP : zP D Rs ad (gS ks ad np ng G MI MJ XI XJ) H) (hD : zD A Rs ad) (hS : va_S A s.heap H locs) {i : Nat} (hr : 22 + 4 * i ∈ Rs) {v : Int64} (hdg : decode cc pc = .ok (.putfield 164, 3)) (kk : ∀ (H1 : Heap) (locs1 : List Loc), zP D Rs ad (gS ks ad np ng G MI MJ XI (u2 XJ 11 i v)) H1 → va_S A s.heap H1 locs1 → W p l e R s m args below meth c H1 locs1 cells slots Q (F0 m (pc + 3) ls rest)) : W p l e R s m args below meth c H locs cells slots Q (F0 m pc ls (.long v :: .ref (ad (22 + 4 * i)) :: rest)) :=
  pg_X3_164 hx hb hT hown hK hP hD hS hr (r := 22 + 4 * i) (he := gS_2) (Nat.le_of_ble_eq_true rfl) hdg (fun H1 locs1 hP1 hS1 => kk H1 locs1 (by rw [← gu_ppaid]; exact hP1) hS1)
theorem as_8 (hx : p.tables.exec = Jvm.exec) (hb : c.code = cc) (hK : zK D ks s) (hP : zP D Rs ad (gS ks ad np ng G MI MJ XI XJ) H) (hD : zD A Rs ad) (hS : va_S A s.heap H locs) (hr : 8 ∈ Rs) {i : Int32} {v : Int64} (hin : vp_in i 30) (hdg : decode cc pc = .ok (.lastore, 1)) (kk : ∀ (H1 : Heap) (locs1 : List Loc), zP D Rs ad (gS ks ad np ng G MI (u2 MJ 1 i.toNatClampNeg v) XI XJ) H1 → va_S A s.heap H1 locs1 → W p l e R s m args below meth c H1 locs1 cells slots Q (F0 m (pc + 1) ls rest)) : W p l e R s m args below meth c H locs cells slots Q (F0 m pc ls (.long v :: .int i :: .ref (ad 8) :: rest)) :=
  z_last hx hb hK hP hD hS hr (r := 8) (he := rfl) hin hdg (fun H1 locs1 hP1 hS1 => kk H1 locs1 (by rw [← gu_a8]; exact hP1) hS1)
theorem as_9 (hx : p.tables.exec = Jvm.exec) (hb : c.code = cc) (hK : zK D ks s) (hP : zP D Rs ad (gS ks ad np ng G MI MJ XI XJ) H) (hD : zD A Rs ad) (hS : va_S A s.heap H locs) (hr : 9 ∈ Rs) {i : Int32} {v : Int64} (hin : vp_in i 30) (hdg : decode cc pc = .ok (.lastore, 1)) (kk : ∀ (H1 : Heap) (locs1 : List Loc), zP D Rs ad (gS ks ad np ng G MI (u2 MJ 2 i.toNatClampNeg v) XI XJ) H1 → va_S A s.heap H1 locs1 → W p l e R s m args below meth c H1 locs1 cells slots Q (F0 m (pc + 1) ls rest)) : W p l e R s m args below meth c H locs cells slots Q (F0 m pc ls (.long v :: .int i :: .ref (ad 9) :: rest)) :=
  z_last hx hb hK hP hD hS hr (r := 9) (he := rfl) hin hdg (fun H1 locs1 hP1 hS1 => kk H1 locs1 (by rw [← gu_a9]; exact hP1) hS1)
theorem as_12 (hx : p.tables.exec = Jvm.exec) (hb : c.code = cc) (hK : zK D ks s) (hP : zP D Rs ad (gS ks ad np ng G MI MJ XI XJ) H) (hD : zD A Rs ad) (hS : va_S A s.heap H locs) (hr : 12 ∈ Rs) {i : Int32} {v : Int64} (hin : vp_in i 1) (hdg : decode cc pc = .ok (.lastore, 1)) (kk : ∀ (H1 : Heap) (locs1 : List Loc), zP D Rs ad (gS ks ad np ng G MI (u2 MJ 3 i.toNatClampNeg v) XI XJ) H1 → va_S A s.heap H1 locs1 → W p l e R s m args below meth c H1 locs1 cells slots Q (F0 m (pc + 1) ls rest)) : W p l e R s m args below meth c H locs cells slots Q (F0 m pc ls (.long v :: .int i :: .ref (ad 12) :: rest)) :=
  z_last hx hb hK hP hD hS hr (r := 12) (he := rfl) hin hdg (fun H1 locs1 hP1 hS1 => kk H1 locs1 (by rw [← gu_a12]; exact hP1) hS1)
theorem as_16 (hx : p.tables.exec = Jvm.exec) (hb : c.code = cc) (hK : zK D ks s) (hP : zP D Rs ad (gS ks ad np ng G MI MJ XI XJ) H) (hD : zD A Rs ad) (hS : va_S A s.heap H locs) (hr : 16 ∈ Rs) {i : Int32} {v : Int64} (hin : vp_in i 21) (hdg : decode cc pc = .ok (.lastore, 1)) (kk : ∀ (H1 : Heap) (locs1 : List Loc), zP D Rs ad (gS ks ad np ng G MI MJ XI (u2 XJ 5 i.toNatClampNeg v)) H1 → va_S A s.heap H1 locs1 → W p l e R s m args below meth c H1 locs1 cells slots Q (F0 m (pc + 1) ls rest)) : W p l e R s m args below meth c H locs cells slots Q (F0 m pc ls (.long v :: .int i :: .ref (ad 16) :: rest)) :=
  z_last hx hb hK hP hD hS hr (r := 16) (he := rfl) hin hdg (fun H1 locs1 hP1 hS1 => kk H1 locs1 (by rw [← gu_a16]; exact hP1) hS1)
theorem as_17 (hx : p.tables.exec = Jvm.exec) (hb : c.code = cc) (hK : zK D ks s) (hP : zP D Rs ad (gS ks ad np ng G MI MJ XI XJ) H) (hD : zD A Rs ad) (hS : va_S A s.heap H locs) (hr : 17 ∈ Rs) {i : Int32} {v : Int64} (hin : vp_in i 21) (hdg : decode cc pc = .ok (.lastore, 1)) (kk : ∀ (H1 : Heap) (locs1 : List Loc), zP D Rs ad (gS ks ad np ng G MI MJ XI (u2 XJ 6 i.toNatClampNeg v)) H1 → va_S A s.heap H1 locs1 → W p l e R s m args below meth c H1 locs1 cells slots Q (F0 m (pc + 1) ls rest)) : W p l e R s m args below meth c H locs cells slots Q (F0 m pc ls (.long v :: .int i :: .ref (ad 17) :: rest)) :=
  z_last hx hb hK hP hD hS hr (r := 17) (he := rfl) hin hdg (fun H1 locs1 hP1 hS1 => kk H1 locs1 (by rw [← gu_a17]; exact hP1) hS1)
end ZF
theorem k_L_63 : zcI RL 63 yX3_init cX3_init 2 0 := ⟨ml_L_63, im_yX3_init, in_X3, co_yX3_init, ⟨by decide, by decide, by decide +kernel⟩, rfl⟩
theorem k_L_95 : zcV RL 95 yX3_setRates cX3_setRates 4 ((some .int)) 2 := ⟨ml_L_95, im_yX3_setRates, se_yX3_setRates, in_X3, co_yX3_setRates, ⟨by decide, by decide, by decide +kernel⟩⟩
theorem k_X3_50 : zcS RX3 50 yX3_isWithin cX3_isWithin 3 ((some .boolean)) 3 := ⟨ml_X3_50, sm_yX3_isWithin, in_X3, co_yX3_isWithin, ⟨by decide, by decide, by decide +kernel⟩⟩
theorem k_L_98 : zcV RL 98 yX3_setScale cX3_setScale 5 ((some .int)) 3 := ⟨ml_L_98, im_yX3_setScale, se_yX3_setScale, in_X3, co_yX3_setScale, ⟨by decide, by decide, by decide +kernel⟩⟩
theorem k_L_103 : zcV RL 103 yX3_endow cX3_endow 2 ((some .long)) 1 := ⟨ml_L_103, im_yX3_endow, se_yX3_endow, in_X3, co_yX3_endow, ⟨by decide, by decide, by decide +kernel⟩⟩
theorem k_L_73 : zcV RL 73 yX3_year cX3_year 1 ((some .int)) 0 := ⟨ml_L_73, im_yX3_year, se_yX3_year, in_X3, co_yX3_year, ⟨by decide, by decide, by decide +kernel⟩⟩
theorem k_L_38 : zcV RL 38 yX3_policies cX3_policies 1 ((some .int)) 0 := ⟨ml_L_38, im_yX3_policies, se_yX3_policies, in_X3, co_yX3_policies, ⟨by decide, by decide, by decide +kernel⟩⟩
theorem k_L_41 : zcV RL 41 yX3_stateOf cX3_stateOf 2 ((some .int)) 1 := ⟨ml_L_41, im_yX3_stateOf, se_yX3_stateOf, in_X3, co_yX3_stateOf, ⟨by decide, by decide, by decide +kernel⟩⟩
theorem k_X3_77 : zcV RX3 77 yX3_knownPolicy cX3_knownPolicy 3 ((some (.object "ProfitsOffice$Policy"))) 1 := ⟨ml_X3_77, im_yX3_knownPolicy, se_yX3_knownPolicy, in_X3, co_yX3_knownPolicy, ⟨by decide, by decide, by decide +kernel⟩⟩
theorem k_L_44 : zcV RL 44 yX3_shareOf cX3_shareOf 2 ((some .int)) 1 := ⟨ml_L_44, im_yX3_shareOf, se_yX3_shareOf, in_X3, co_yX3_shareOf, ⟨by decide, by decide, by decide +kernel⟩⟩
theorem k_X2_41 : zcV RX2 41 yX2_isInForce cX2_isInForce 1 ((some .boolean)) 0 := ⟨ml_X2_41, im_yX2_isInForce, se_yX2_isInForce, in_X2, co_yX2_isInForce, ⟨by decide, by decide, by decide +kernel⟩⟩
theorem k_L_50 : zcV RL 50 yX3_paid cX3_paid 2 ((some .int)) 1 := ⟨ml_L_50, im_yX3_paid, se_yX3_paid, in_X3, co_yX3_paid, ⟨by decide, by decide, by decide +kernel⟩⟩
theorem k_L_76 : zcV RL 76 yX3_lastRatio cX3_lastRatio 2 ((some .int)) 1 := ⟨ml_L_76, im_yX3_lastRatio, se_yX3_lastRatio, in_X3, co_yX3_lastRatio, ⟨by decide, by decide, by decide +kernel⟩⟩
theorem k_X3_46 : zcS RX3 46 yX3_isTerm cX3_isTerm 1 ((some .boolean)) 1 := ⟨ml_X3_46, sm_yX3_isTerm, in_X3, co_yX3_isTerm, ⟨by decide, by decide, by decide +kernel⟩⟩
theorem k_X3_169 : zcS RX3 169 yX3_ratioIn cX3_ratioIn 2 ((some .long)) 2 := ⟨ml_X3_169, sm_yX3_ratioIn, in_X3, co_yX3_ratioIn, ⟨by decide, by decide, by decide +kernel⟩⟩
theorem k_L_56 : zcV RL 56 yX3_estate cX3_estate 1 ((some .long)) 0 := ⟨ml_L_56, im_yX3_estate, se_yX3_estate, in_X3, co_yX3_estate, ⟨by decide, by decide, by decide +kernel⟩⟩
theorem k_L_27 : zcV RL 27 yX3_assets cX3_assets 1 ((some .long)) 0 := ⟨ml_L_27, im_yX3_assets, se_yX3_assets, in_X3, co_yX3_assets, ⟨by decide, by decide, by decide +kernel⟩⟩
theorem k_L_83 : zcS RL 83 yL_low cL_low 2 ((some .int)) 2 := ⟨ml_L_83, sm_yL_low, in_L, co_yL_low, ⟨by decide, by decide, by decide +kernel⟩⟩
theorem k_L_79 : zcS RL 79 yL_cell cL_cell 2 ((some .int)) 2 := ⟨ml_L_79, sm_yL_cell, in_L, co_yL_cell, ⟨by decide, by decide, by decide +kernel⟩⟩
theorem k_L_9 : zcV RL 9 yX3_begin cX3_begin 5 ((some .int)) 3 := ⟨ml_L_9, im_yX3_begin, se_yX3_begin, in_X3, co_yX3_begin, ⟨by decide, by decide, by decide +kernel⟩⟩
theorem k_X3_70 : zcV RX3 70 yX3_joinGeneration cX3_joinGeneration 4 ((some (.object "ProfitsOffice$Generation"))) 2 := ⟨ml_X3_70, im_yX3_joinGeneration, se_yX3_joinGeneration, in_X3, co_yX3_joinGeneration, ⟨by decide, by decide, by decide +kernel⟩⟩
theorem k_X3_158 : zcV RX3 158 yX3_findGeneration cX3_findGeneration 5 ((some (.object "ProfitsOffice$Generation"))) 2 := ⟨ml_X3_158, im_yX3_findGeneration, se_yX3_findGeneration, in_X3, co_yX3_findGeneration, ⟨by decide, by decide, by decide +kernel⟩⟩
theorem k_L_17 : zcV RL 17 yX3_surrender cX3_surrender 5 ((some .int)) 1 := ⟨ml_L_17, im_yX3_surrender, se_yX3_surrender, in_X3, co_yX3_surrender, ⟨by decide, by decide, by decide +kernel⟩⟩
theorem k_X3_81 : zcV RX3 81 yX3_checkSurrenderable cX3_checkSurrenderable 2 ((none : Option FieldType)) 1 := ⟨ml_X3_81, im_yX3_checkSurrenderable, se_yX3_checkSurrenderable, in_X3, co_yX3_checkSurrenderable, ⟨by decide, by decide, by decide +kernel⟩⟩
theorem k_X3_186 : zcV RX3 186 yX3_yearsRun cX3_yearsRun 2 ((some .int)) 1 := ⟨ml_X3_186, im_yX3_yearsRun, se_yX3_yearsRun, in_X3, co_yX3_yearsRun, ⟨by decide, by decide, by decide +kernel⟩⟩
theorem k_X3_85 : zcV RX3 85 yX3_surrenderWorth cX3_surrenderWorth 9 ((some .long)) 1 := ⟨ml_X3_85, im_yX3_surrenderWorth, se_yX3_surrenderWorth, in_X3, co_yX3_surrenderWorth, ⟨by decide, by decide, by decide +kernel⟩⟩
theorem k_X3_226 : zcS RX3 226 yX3_parted cX3_parted 4 ((some .long)) 2 := ⟨ml_X3_226, sm_yX3_parted, in_X3, co_yX3_parted, ⟨by decide, by decide, by decide +kernel⟩⟩
theorem k_X3_115 : zcS RX3 115 yX3_thousandths cX3_thousandths 4 ((some .long)) 2 := ⟨ml_X3_115, sm_yX3_thousandths, in_X3, co_yX3_thousandths, ⟨by decide, by decide, by decide +kernel⟩⟩
theorem k_X3_242 : zcS RX3 242 yJ9_floorDiv_f86c9 cJ9_floorDiv_f86c9 6 ((some .long)) 2 := ⟨ml_X3_242, sm_yJ9_floorDiv_f86c9, in_J9, co_yJ9_floorDiv_f86c9, ⟨by decide, by decide, by decide +kernel⟩⟩
theorem k_X3_176 : zcS RX3 176 yJ9_max_f86c9 cJ9_max_f86c9 4 ((some .long)) 2 := ⟨ml_X3_176, sm_yJ9_max_f86c9, in_J9, co_yJ9_max_f86c9, ⟨by decide, by decide, by decide +kernel⟩⟩
theorem k_X3_89 : zcV RX3 89 yX3_close cX3_close 5 ((none : Option FieldType)) 3 := ⟨ml_X3_89, im_yX3_close, se_yX3_close, in_X3, co_yX3_close, ⟨by decide, by decide, by decide +kernel⟩⟩
theorem k_X1_36 : zcV RX1 36 yX1_shareFor cX1_shareFor 2 ((some .long)) 1 := ⟨ml_X1_36, im_yX1_shareFor, se_yX1_shareFor, in_X1, co_yX1_shareFor, ⟨by decide, by decide, by decide +kernel⟩⟩
theorem k_L_21 : zcV RL 21 yX3_worth cX3_worth 3 ((some .int)) 1 := ⟨ml_L_21, im_yX3_worth, se_yX3_worth, in_X3, co_yX3_worth, ⟨by decide, by decide, by decide +kernel⟩⟩
theorem k_L_24 : zcV RL 24 yX3_run cX3_run 5 ((some .int)) 1 := ⟨ml_L_24, im_yX3_run, se_yX3_run, in_X3, co_yX3_run, ⟨by decide, by decide, by decide +kernel⟩⟩
theorem k_X3_119 : zcV RX3 119 yX3_growGenerations cX3_growGenerations 4 ((none : Option FieldType)) 1 := ⟨ml_X3_119, im_yX3_growGenerations, se_yX3_growGenerations, in_X3, co_yX3_growGenerations, ⟨by decide, by decide, by decide +kernel⟩⟩
theorem k_X3_123 : zcV RX3 123 yX3_growPoliciesAlone cX3_growPoliciesAlone 4 ((none : Option FieldType)) 1 := ⟨ml_X3_123, im_yX3_growPoliciesAlone, se_yX3_growPoliciesAlone, in_X3, co_yX3_growPoliciesAlone, ⟨by decide, by decide, by decide +kernel⟩⟩
theorem k_X3_126 : zcV RX3 126 yX3_giveBonuses cX3_giveBonuses 3 ((none : Option FieldType)) 0 := ⟨ml_X3_126, im_yX3_giveBonuses, se_yX3_giveBonuses, in_X3, co_yX3_giveBonuses, ⟨by decide, by decide, by decide +kernel⟩⟩
theorem k_X3_129 : zcV RX3 129 yX3_maturePolicies cX3_maturePolicies 4 ((some .int)) 0 := ⟨ml_X3_129, im_yX3_maturePolicies, se_yX3_maturePolicies, in_X3, co_yX3_maturePolicies, ⟨by decide, by decide, by decide +kernel⟩⟩
theorem k_X3_221 : zcV RX3 221 yX3_mature cX3_mature 11 ((none : Option FieldType)) 1 := ⟨ml_X3_221, im_yX3_mature, se_yX3_mature, in_X3, co_yX3_mature, ⟨by decide, by decide, by decide +kernel⟩⟩
theorem k_X3_229 : zcV RX3 229 yX3_smooth cX3_smooth 7 ((some .long)) 2 := ⟨ml_X3_229, im_yX3_smooth, se_yX3_smooth, in_X3, co_yX3_smooth, ⟨by decide, by decide, by decide +kernel⟩⟩
theorem k_X3_232 : zcS RX3 232 yJ9_min_f86c9 cJ9_min_f86c9 4 ((some .long)) 2 := ⟨ml_X3_232, sm_yJ9_min_f86c9, in_J9, co_yJ9_min_f86c9, ⟨by decide, by decide, by decide +kernel⟩⟩
theorem k_L_64 : zcS RL 64 yL_holds cL_holds 6 ((some .boolean)) 1 := ⟨ml_L_64, sm_yL_holds, in_L, co_yL_holds, ⟨by decide, by decide, by decide +kernel⟩⟩
theorem k_L_31 : zcV RL 31 yX3_sharesAndEstate cX3_sharesAndEstate 5 ((some .long)) 0 := ⟨ml_L_31, im_yX3_sharesAndEstate, se_yX3_sharesAndEstate, in_X3, co_yX3_sharesAndEstate, ⟨by decide, by decide, by decide +kernel⟩⟩
theorem k_L_34 : zcV RL 34 yX3_shortfall cX3_shortfall 5 ((some .int)) 0 := ⟨ml_L_34, im_yX3_shortfall, se_yX3_shortfall, in_X3, co_yX3_shortfall, ⟨by decide, by decide, by decide +kernel⟩⟩
theorem k_L_47 : zcV RL 47 yX3_shareAlone cX3_shareAlone 3 ((some .int)) 1 := ⟨ml_L_47, im_yX3_shareAlone, se_yX3_shareAlone, in_X3, co_yX3_shareAlone, ⟨by decide, by decide, by decide +kernel⟩⟩
theorem k_L_53 : zcV RL 53 yX3_bonuses cX3_bonuses 2 ((some .int)) 1 := ⟨ml_L_53, im_yX3_bonuses, se_yX3_bonuses, in_X3, co_yX3_bonuses, ⟨by decide, by decide, by decide +kernel⟩⟩
theorem k_L_70 : zcS RL 70 yL_generations cL_generations 5 ((some .boolean)) 1 := ⟨ml_L_70, sm_yL_generations, in_L, co_yL_generations, ⟨by decide, by decide, by decide +kernel⟩⟩
theorem k_L_59 : zcV RL 59 yX3_generation cX3_generation 4 ((some .int)) 2 := ⟨ml_L_59, im_yX3_generation, se_yX3_generation, in_X3, co_yX3_generation, ⟨by decide, by decide, by decide +kernel⟩⟩
theorem k_X3_139 : zcVN RX3 139 yX2_assetShare cX2_assetShare 1 ((some .long)) 0 := ⟨nm_X3_139, im_yX2_assetShare, se_yX2_assetShare, in_X2, co_yX2_assetShare, ⟨by decide, by decide, by decide +kernel⟩⟩
theorem k_X2_45 : zcVN RX2 45 yX1_shareFor cX1_shareFor 2 ((some .long)) 1 := ⟨nm_X2_45, im_yX1_shareFor, se_yX1_shareFor, in_X1, co_yX1_shareFor, ⟨by decide, by decide, by decide +kernel⟩⟩
theorem k_X1_30 : zcSN RX1 30 yX3_parted cX3_parted 4 ((some .long)) 2 := ⟨nm_X1_30, sm_yX3_parted, in_X3, co_yX3_parted, ⟨by decide, by decide, by decide +kernel⟩⟩
theorem k_X3_202 : zcIN RX3 202 yX1_init cX1_init 3 2 := ⟨nm_X3_202, im_yX1_init, in_X1, co_yX1_init, ⟨by decide, by decide, by decide +kernel⟩, rfl⟩
theorem k_X1_18 : zcIN RX1 18 yX0_init cX0_init 1 0 := ⟨nm_X1_18, im_yX0_init, in_X0, co_yX0_init, ⟨by decide, by decide, by decide +kernel⟩, rfl⟩
theorem k_X3_74 : zcIN RX3 74 yX2_init cX2_init 4 3 := ⟨nm_X3_74, im_yX2_init, in_X2, co_yX2_init, ⟨by decide, by decide, by decide +kernel⟩, rfl⟩
theorem k_X2_24 : zcIN RX2 24 yX0_init cX0_init 1 0 := ⟨nm_X2_24, im_yX0_init, in_X0, co_yX0_init, ⟨by decide, by decide, by decide +kernel⟩, rfl⟩
theorem k_X3_143 : zcVN RX3 143 yX2_isInForce cX2_isInForce 1 ((some .boolean)) 0 := ⟨nm_X3_143, im_yX2_isInForce, se_yX2_isInForce, in_X2, co_yX2_isInForce, ⟨by decide, by decide, by decide +kernel⟩⟩
theorem k_X3_239 : zcVN RX3 239 yX1_release cX1_release 4 ((some .long)) 1 := ⟨nm_X3_239, im_yX1_release, se_yX1_release, in_X1, co_yX1_release, ⟨by decide, by decide, by decide +kernel⟩⟩
theorem k_X3_211 : zcVN RX3 211 yX0_earn cX0_earn 4 ((some .long)) 1 := ⟨nm_X3_211, im_yX0_earn, se_yX0_earn, in_X0, co_yX0_earn, ⟨by decide, by decide, by decide +kernel⟩⟩
theorem k_X0_13 : zcSN RX0 13 yX3_thousandths cX3_thousandths 4 ((some .long)) 2 := ⟨nm_X0_13, sm_yX3_thousandths, in_X3, co_yX3_thousandths, ⟨by decide, by decide, by decide +kernel⟩⟩
theorem k_X3_215 : zcVN RX3 215 yX0_takeCharge cX0_takeCharge 4 ((some .long)) 1 := ⟨nm_X3_215, im_yX0_takeCharge, se_yX0_takeCharge, in_X0, co_yX0_takeCharge, ⟨by decide, by decide, by decide +kernel⟩⟩
theorem k_X3_173 : zcVN RX3 173 yX2_guaranteed cX2_guaranteed 1 ((some .long)) 0 := ⟨nm_X3_173, im_yX2_guaranteed, se_yX2_guaranteed, in_X2, co_yX2_guaranteed, ⟨by decide, by decide, by decide +kernel⟩⟩
end
section
/-! rows at a counted index -/
section ZN
variable {p : Program} {l : Launch} {e : Env} {R : Room} {s : State} {m : MethodId} {args : Array Value} {below : List Frame} {meth : Method} {c : Code} {H : Heap} {locs : List Loc} {cells slots : Nat} {Q : State → Prop}
variable {cc : ByteArray} {pc : Nat} {ls : Array Slot} {rest : List Value} {D : va_G} {A : Nat → Prop} {a : Nat} {Rs : List Nat}
variable {ks : Nat → ClassId} {ad : Nat → Nat} {np ng : Nat} {G : Nat → Nat} {MI : Nat → Nat → Int32} {MJ : Nat → Nat → Int64} {XI : Nat → Nat → Int32} {XJ : Nat → Nat → Int64}
theorem z_laldN (hx : p.tables.exec = Jvm.exec) (hb : c.code = cc) (hK : zK D ks s) {n : Nat} {f : Nat → Int64} (hat : va_at D vwCl (a, .inl (ks 1, n, .inr (.inl f))) H) {j : Nat} (hj : j < n) (hn : n < 2 ^ 31) {v : Int64} (hv : f j = v) (hdg : decode cc pc = .ok (.laload, 1)) (kk : W p l e R s m args below meth c H locs cells slots Q (F0 m (pc + 1) ls (.long v :: rest))) : W p l e R s m args below meth c H locs cells slots Q (F0 m pc ls (.int (nI j) :: .ref a :: rest)) :=
  z_lald hx hb hK hat (vp_in_nI hj hn) hdg (by rw [nI_clamp (Nat.lt_trans hj hn), hv]; exact kk)
theorem z_galdN (hx : p.tables.exec = Jvm.exec) (hb : c.code = cc) (hK : zK D ks s) {n : Nat} {f : Nat → Option Nat} (hat : va_at D vwCl (a, .inl (ks 2, n, .inr (.inr (.inr (.inr f))))) H) {j : Nat} (hj : j < n) (hn : n < 2 ^ 31) {v : Option Nat} (hv : f j = v) (hdg : decode cc pc = .ok (.aaload, 1)) (kk : W p l e R s m args below meth c H locs cells slots Q (F0 m (pc + 1) ls (va_rf v :: rest))) : W p l e R s m args below meth c H locs cells slots Q (F0 m pc ls (.int (nI j) :: .ref a :: rest)) :=
  z_gald hx hb hK hat (vp_in_nI hj hn) hdg (by rw [nI_clamp (Nat.lt_trans hj hn), hv]; exact kk)
theorem z_paldN (hx : p.tables.exec = Jvm.exec) (hb : c.code = cc) (hK : zK D ks s) {n : Nat} {f : Nat → Option Nat} (hat : va_at D vwCl (a, .inl (ks 3, n, .inr (.inr (.inr (.inr f))))) H) {j : Nat} (hj : j < n) (hn : n < 2 ^ 31) {v : Option Nat} (hv : f j = v) (hdg : decode cc pc = .ok (.aaload, 1)) (kk : W p l e R s m args below meth c H locs cells slots Q (F0 m (pc + 1) ls (va_rf v :: rest))) : W p l e R s m args below meth c H locs cells slots Q (F0 m pc ls (.int (nI j) :: .ref a :: rest)) :=
  z_pald hx hb hK hat (vp_in_nI hj hn) hdg (by rw [nI_clamp (Nat.lt_trans hj hn), hv]; exact kk)
theorem as_8N (hx : p.tables.exec = Jvm.exec) (hb : c.code = cc) (hK : zK D ks s) (hP : zP D Rs ad (gS ks ad np ng G MI MJ XI XJ) H) (hD : zD A Rs ad) (hS : va_S A s.heap H locs) (hr : 8 ∈ Rs) {j : Nat} {v : Int64} (hj : j < 30) (hdg : decode cc pc = .ok (.lastore, 1)) (kk : ∀ (H1 : Heap) (locs1 : List Loc), zP D Rs ad (gS ks ad np ng G MI (u2 MJ 1 j v) XI XJ) H1 → va_S A s.heap H1 locs1 → W p l e R s m args below meth c H1 locs1 cells slots Q (F0 m (pc + 1) ls rest)) : W p l e R s m args below meth c H locs cells slots Q (F0 m pc ls (.long v :: .int (nI j) :: .ref (ad 8) :: rest)) :=
  as_8 hx hb hK hP hD hS hr (vp_in_nI hj (by decide)) hdg (by rw [nI_clamp (Nat.lt_trans hj (by decide))]; exact kk)
theorem as_9N (hx : p.tables.exec = Jvm.exec) (hb : c.code = cc) (hK : zK D ks s) (hP : zP D Rs ad (gS ks ad np ng G MI MJ XI XJ) H) (hD : zD A Rs ad) (hS : va_S A s.heap H locs) (hr : 9 ∈ Rs) {j : Nat} {v : Int64} (hj : j < 30) (hdg : decode cc pc = .ok (.lastore, 1)) (kk : ∀ (H1 : Heap) (locs1 : List Loc), zP D Rs ad (gS ks ad np ng G MI (u2 MJ 2 j v) XI XJ) H1 → va_S A s.heap H1 locs1 → W p l e R s m args below meth c H1 locs1 cells slots Q (F0 m (pc + 1) ls rest)) : W p l e R s m args below meth c H locs cells slots Q (F0 m pc ls (.long v :: .int (nI j) :: .ref (ad 9) :: rest)) :=
  as_9 hx hb hK hP hD hS hr (vp_in_nI hj (by decide)) hdg (by rw [nI_clamp (Nat.lt_trans hj (by decide))]; exact kk)
theorem as_12N (hx : p.tables.exec = Jvm.exec) (hb : c.code = cc) (hK : zK D ks s) (hP : zP D Rs ad (gS ks ad np ng G MI MJ XI XJ) H) (hD : zD A Rs ad) (hS : va_S A s.heap H locs) (hr : 12 ∈ Rs) {j : Nat} {v : Int64} (hj : j < 1) (hdg : decode cc pc = .ok (.lastore, 1)) (kk : ∀ (H1 : Heap) (locs1 : List Loc), zP D Rs ad (gS ks ad np ng G MI (u2 MJ 3 j v) XI XJ) H1 → va_S A s.heap H1 locs1 → W p l e R s m args below meth c H1 locs1 cells slots Q (F0 m (pc + 1) ls rest)) : W p l e R s m args below meth c H locs cells slots Q (F0 m pc ls (.long v :: .int (nI j) :: .ref (ad 12) :: rest)) :=
  as_12 hx hb hK hP hD hS hr (vp_in_nI hj (by decide)) hdg (by rw [nI_clamp (Nat.lt_trans hj (by decide))]; exact kk)
theorem as_16N (hx : p.tables.exec = Jvm.exec) (hb : c.code = cc) (hK : zK D ks s) (hP : zP D Rs ad (gS ks ad np ng G MI MJ XI XJ) H) (hD : zD A Rs ad) (hS : va_S A s.heap H locs) (hr : 16 ∈ Rs) {j : Nat} {v : Int64} (hj : j < 21) (hdg : decode cc pc = .ok (.lastore, 1)) (kk : ∀ (H1 : Heap) (locs1 : List Loc), zP D Rs ad (gS ks ad np ng G MI MJ XI (u2 XJ 5 j v)) H1 → va_S A s.heap H1 locs1 → W p l e R s m args below meth c H1 locs1 cells slots Q (F0 m (pc + 1) ls rest)) : W p l e R s m args below meth c H locs cells slots Q (F0 m pc ls (.long v :: .int (nI j) :: .ref (ad 16) :: rest)) :=
  as_16 hx hb hK hP hD hS hr (vp_in_nI hj (by decide)) hdg (by rw [nI_clamp (Nat.lt_trans hj (by decide))]; exact kk)
theorem as_17N (hx : p.tables.exec = Jvm.exec) (hb : c.code = cc) (hK : zK D ks s) (hP : zP D Rs ad (gS ks ad np ng G MI MJ XI XJ) H) (hD : zD A Rs ad) (hS : va_S A s.heap H locs) (hr : 17 ∈ Rs) {j : Nat} {v : Int64} (hj : j < 21) (hdg : decode cc pc = .ok (.lastore, 1)) (kk : ∀ (H1 : Heap) (locs1 : List Loc), zP D Rs ad (gS ks ad np ng G MI MJ XI (u2 XJ 6 j v)) H1 → va_S A s.heap H1 locs1 → W p l e R s m args below meth c H1 locs1 cells slots Q (F0 m (pc + 1) ls rest)) : W p l e R s m args below meth c H locs cells slots Q (F0 m pc ls (.long v :: .int (nI j) :: .ref (ad 17) :: rest)) :=
  as_17 hx hb hK hP hD hS hr (vp_in_nI hj (by decide)) hdg (by rw [nI_clamp (Nat.lt_trans hj (by decide))]; exact kk)
theorem zi_m1 (x : Int32) : x + Int32.ofInt (-1) = x - 1 := by rw [Int32.sub_eq_add_neg]; rfl
theorem z_vpin {t N : Int32} {n : Nat} (h0 : ¬ t < 0) (h1 : ¬ N ≤ t) (hN : N.toInt = n) : vp_in t n := by
  rw [vp_in_iff]
  have a1 := Int32.le_iff_toInt_le.mp (Int32.not_lt.mp h0)
  have a2 := Int32.lt_iff_toInt_lt.mp (Int32.not_le.mp h1)
  have a3 : (0 : Int32).toInt = 0 := rfl
  omega
theorem z_lcmp_gt (hx : p.tables.exec = Jvm.exec) (hb : c.code = cc) {x y : Int64} {off : Int} {tgt : Nat} (h1 : decode cc pc = .ok (.lcmp, 1)) (h2 : decode cc (pc + 1) = .ok (.ifCond .gt off, 3)) (ht : ((pc + 1 : Nat) : Int) + off = (tgt : Int))
    (kt : y < x → W p l e R s m args below meth c H locs cells slots Q (F0 m tgt ls rest)) (kf : ¬ y < x → W p l e R s m args below meth c H locs cells slots Q (F0 m (pc + 4) ls rest)) : W p l e R s m args below meth c H locs cells slots Q (F0 m pc ls (.long y :: .long x :: rest)) := by
  refine W.lcmp hx hb h1 (lv_if_gt hx hb h2 ht (fun q => kt ?_) (fun q => kf fun q2 => ?_))
  · by_cases z : y < x
    · exact z
    · exact absurd q (by by_cases z2 : x = y <;> simp [lg_cmp, z, z2])
  · exact q (by simp [lg_cmp, q2])
theorem z_lcmp_lt (hx : p.tables.exec = Jvm.exec) (hb : c.code = cc) {x y : Int64} {off : Int} {tgt : Nat} (h1 : decode cc pc = .ok (.lcmp, 1)) (h2 : decode cc (pc + 1) = .ok (.ifCond .lt off, 3)) (ht : ((pc + 1 : Nat) : Int) + off = (tgt : Int))
    (kt : x < y → W p l e R s m args below meth c H locs cells slots Q (F0 m tgt ls rest)) (kf : ¬ x < y → W p l e R s m args below meth c H locs cells slots Q (F0 m (pc + 4) ls rest)) : W p l e R s m args below meth c H locs cells slots Q (F0 m pc ls (.long y :: .long x :: rest)) := by
  refine W.lcmp hx hb h1 (lv_if_lt hx hb h2 ht (fun q => kt ?_) (fun q => kf fun q2 => ?_))
  · by_cases z : y < x
    · exact absurd q (by simp [lg_cmp, z])
    · by_cases z2 : x = y
      · exact absurd q (by simp [lg_cmp, z2])
      · rcases Int64.lt_or_eq_of_le (Int64.not_lt.mp z) with h | h
        · exact h
        · exact absurd h z2
  · have a1 : ¬ y < x := fun h => Int64.lt_irrefl (Int64.lt_trans h q2)
    have a2 : ¬ x = y := fun h => by subst h; exact Int64.lt_irrefl q2
    exact q (by simp [lg_cmp, a1, a2])
end ZN
end
section
/-! the static functions -/
section ZS
def fFloor (x y : Int64) : Int64 := if (x ^^^ y) < 0 then (if x / y * y = x then x / y else x / y - 1) else x / y
def fThou (a b : Int64) : Int64 := fFloor (a * b) 1000
def fParted (a d : Int64) : Int64 := if 0 < d then a / d else 0
def fIn (v lo hi : Int32) : Int32 := if lo ≤ v ∧ v ≤ hi then 1 else 0
theorem fIn_nar {v lo hi : Int32} : narrow .boolean (.int (fIn v lo hi)) = .int (fIn v lo hi) := by unfold fIn; split <;> rfl
abbrev fMax (x y : Int64) : Int64 := if y < x then x else y
abbrev fMin (x y : Int64) : Int64 := if y < x then y else x
def fPart (a b : Int64) : Int64 := if a * b < 0 then (if a * b / 1000 * 1000 = a * b then a * b / 1000 else a * b / 1000 - 1) else a * b / 1000
set_option maxHeartbeats 4000000 in
set_option maxRecDepth 100000 in
theorem c_J9_floorDiv_f86c9 (l : Launch) (D : va_G) (ks : Nat → ClassId) (x : Int64) (y : Int64) (hy : ¬ y = 0) : zMR l yJ9_floorDiv_f86c9 cJ9_floorDiv_f86c9 6 ((some .long)) 0 0 D ks [.long x, .long y] (fun _ => True) (some (.long (fFloor x y))) := by
  refine zMR.ofF (by decide +kernel) (Nat.le_of_ble_eq_true rfl) ?_
  intro p e s m below meth c ls hx hb hr hml hown hlk hT _ hK hl
  have hl : lv_has ls 6 [(0, .long x), (2, .long y)] := hl
  refine lv_lload_n hx hb dJ9_floorDiv_f86c9_0 rfl (lv_at hl 0 rfl) ?_
  refine lv_lload_n hx hb dJ9_floorDiv_f86c9_1 rfl (lv_at hl 1 rfl) ?_
  refine lv_ldiv hx hb dJ9_floorDiv_f86c9_2 (hy) ?_
  refine lv_lstore (lv' := [(4, .long (x / y)), (0, .long x), (2, .long y)]) hx hb dJ9_floorDiv_f86c9_3 hl (by decide) rfl (fun ls hl => ?_)
  refine lv_lload_n hx hb dJ9_floorDiv_f86c9_5 rfl (lv_at hl 1 rfl) ?_
  refine lv_lload_n hx hb dJ9_floorDiv_f86c9_6 rfl (lv_at hl 2 rfl) ?_
  refine lv_lxor hx hb dJ9_floorDiv_f86c9_7 ?_
  refine lv_lconst (v := 0) hx hb dJ9_floorDiv_f86c9_8 (by decide) ?_
  refine z_lcmp_ge (tgt := 27) hx hb dJ9_floorDiv_f86c9_9 dJ9_floorDiv_f86c9_10 (by decide) (fun c_1 => ?_) (fun c_1 => ?_)
  · refine lv_lload hx hb dJ9_floorDiv_f86c9_27 (lv_at hl 0 rfl) ?_
    exact zR_l hx hb hr hlk dJ9_floorDiv_f86c9_29 (by unfold fFloor; first | rfl | (simp only [c_1, if_true, if_false, and_true, true_and, and_false, false_and, not_true_eq_false, not_false_eq_true]; done) | (rw [if_pos (by assumption)]; done) | (split <;> first | rfl | (exfalso; simp_all; done) | simp_all))
  · refine lv_lload hx hb dJ9_floorDiv_f86c9_13 (lv_at hl 0 rfl) ?_
    refine lv_lload_n hx hb dJ9_floorDiv_f86c9_15 rfl (lv_at hl 2 rfl) ?_
    refine lv_lmul hx hb dJ9_floorDiv_f86c9_16 ?_
    refine lv_lload_n hx hb dJ9_floorDiv_f86c9_17 rfl (lv_at hl 1 rfl) ?_
    refine z_lcmp_eq (tgt := 27) hx hb dJ9_floorDiv_f86c9_18 dJ9_floorDiv_f86c9_19 (by decide) (fun c_2 => ?_) (fun c_2 => ?_)
    · refine lv_lload hx hb dJ9_floorDiv_f86c9_27 (lv_at hl 0 rfl) ?_
      exact zR_l hx hb hr hlk dJ9_floorDiv_f86c9_29 (by unfold fFloor; first | rfl | (simp only [c_1, c_2, if_true, if_false, and_true, true_and, and_false, false_and, not_true_eq_false, not_false_eq_true]; done) | (rw [if_pos (by assumption)]; done) | (split <;> first | rfl | (exfalso; simp_all; done) | simp_all))
    · refine lv_lload hx hb dJ9_floorDiv_f86c9_22 (lv_at hl 0 rfl) ?_
      refine lv_lconst (v := 1) hx hb dJ9_floorDiv_f86c9_24 (by decide) ?_
      refine lv_lsub hx hb dJ9_floorDiv_f86c9_25 ?_
      exact zR_l hx hb hr hlk dJ9_floorDiv_f86c9_26 (by unfold fFloor; first | rfl | (simp only [c_1, c_2, if_true, if_false, and_true, true_and, and_false, false_and, not_true_eq_false, not_false_eq_true]; done) | (rw [if_pos (by assumption)]; done) | (split <;> first | rfl | (exfalso; simp_all; done) | simp_all))
set_option maxHeartbeats 4000000 in
set_option maxRecDepth 100000 in
theorem c_X3_thousandths (l : Launch) (D : va_G) (ks : Nat → ClassId) (a : Int64) (b : Int64) : zMR l yX3_thousandths cX3_thousandths 4 ((some .long)) 1 25 D ks [.long a, .long b] (fun _ => True) (some (.long (fThou a b))) := by
  refine zMR.of (by decide +kernel) (Nat.le_of_ble_eq_true rfl) ?_
  intro p e s m below meth c ls hx hb hr hml hown hlk hT _ hK hl
  have hl : lv_has ls 4 [(0, .long a), (2, .long b)] := hl
  refine lv_lload_n hx hb dX3_thousandths_0 rfl (lv_at hl 0 rfl) ?_
  refine lv_lload_n hx hb dX3_thousandths_1 rfl (lv_at hl 1 rfl) ?_
  refine lv_lmul hx hb dX3_thousandths_2 ?_
  refine lv_ldc2 (v := 1000) hx hb hown (hT _ kl_X3_224) dX3_thousandths_3 ?_
  refine z_backR1 (z_runS ⟨hx, hb, hml, hown, hT⟩ (rest := []) (As := [.long (a * b), .long 1000]) (c_J9_floorDiv_f86c9 l D ks (a * b) 1000 (by decide)) k_X3_242 (z_preR hK trivial) rfl ⟨Nat.le_of_ble_eq_true rfl, Nat.le_of_ble_eq_true rfl⟩ hl.1 rfl (Nat.le_of_ble_eq_true rfl) dX3_thousandths_6 ⟨Nat.le_of_ble_eq_true rfl, Nat.le_of_ble_eq_true rfl⟩) ?_
  exact zR_l hx hb hr hlk dX3_thousandths_9 (rfl)
set_option maxHeartbeats 4000000 in
set_option maxRecDepth 100000 in
theorem c_X3_parted (l : Launch) (D : va_G) (ks : Nat → ClassId) (a : Int64) (d : Int64) : zMR l yX3_parted cX3_parted 4 ((some .long)) 0 0 D ks [.long a, .long d] (fun _ => True) (some (.long (fParted a d))) := by
  refine zMR.of (by decide +kernel) (Nat.le_of_ble_eq_true rfl) ?_
  intro p e s m below meth c ls hx hb hr hml hown hlk hT _ hK hl
  have hl : lv_has ls 4 [(0, .long a), (2, .long d)] := hl
  refine lv_lload_n hx hb dX3_parted_0 rfl (lv_at hl 1 rfl) ?_
  refine lv_lconst (v := 0) hx hb dX3_parted_1 (by decide) ?_
  refine z_lcmp_le (tgt := 12) hx hb dX3_parted_2 dX3_parted_3 (by decide) (fun c_1 => ?_) (fun c_1 => ?_)
  · refine lv_lconst (v := 0) hx hb dX3_parted_12 (by decide) ?_
    exact zR_l hx hb hr hlk dX3_parted_13 (by unfold fParted; first | rfl | (simp only [c_1, if_true, if_false, and_true, true_and, and_false, false_and, not_true_eq_false, not_false_eq_true]; done) | (rw [if_pos (by assumption)]; done) | (split <;> first | rfl | (exfalso; simp_all; done) | simp_all))
  · refine lv_lload_n hx hb dX3_parted_6 rfl (lv_at hl 0 rfl) ?_
    refine lv_lload_n hx hb dX3_parted_7 rfl (lv_at hl 1 rfl) ?_
    refine lv_ldiv hx hb dX3_parted_8 (fun h => by subst h; exact absurd c_1 (by decide)) ?_
    refine lv_goto (tgt := 13) hx hb dX3_parted_9 (by decide) ?_
    exact zR_l hx hb hr hlk dX3_parted_13 (by unfold fParted; first | rfl | (simp only [c_1, if_true, if_false, and_true, true_and, and_false, false_and, not_true_eq_false, not_false_eq_true]; done) | (rw [if_pos (by assumption)]; done) | (split <;> first | rfl | (exfalso; simp_all; done) | simp_all))
set_option maxHeartbeats 4000000 in
set_option maxRecDepth 100000 in
theorem c_X3_isWithin (l : Launch) (D : va_G) (ks : Nat → ClassId) (v : Int32) (lo : Int32) (hi : Int32) : zMR l yX3_isWithin cX3_isWithin 3 ((some .boolean)) 0 0 D ks [.int v, .int lo, .int hi] (fun _ => True) (some (.int (fIn v lo hi))) := by
  refine zMR.of (by decide +kernel) (Nat.le_of_ble_eq_true rfl) ?_
  intro p e s m below meth c ls hx hb hr hml hown hlk hT _ hK hl
  have hl : lv_has ls 3 [(0, .int v), (1, .int lo), (2, .int hi)] := hl
  refine lv_iload_n hx hb dX3_isWithin_0 rfl (lv_at hl 0 rfl) ?_
  refine lv_iload_n hx hb dX3_isWithin_1 rfl (lv_at hl 1 rfl) ?_
  refine lv_icmp_lt (tgt := 14) hx hb dX3_isWithin_2 (by decide) (fun c_1 => ?_) (fun c_1 => ?_)
  · refine lv_iconst (v := 0) hx hb dX3_isWithin_14 (by decide) ?_
    exact zR_z hx hb hr hlk dX3_isWithin_15 (rfl) ((if_neg (fun h => absurd h.1 (Int32.not_le.mpr c_1))).symm)
  · refine lv_iload_n hx hb dX3_isWithin_5 rfl (lv_at hl 0 rfl) ?_
    refine lv_iload_n hx hb dX3_isWithin_6 rfl (lv_at hl 2 rfl) ?_
    refine lv_icmp_gt (tgt := 14) hx hb dX3_isWithin_7 (by decide) (fun c_2 => ?_) (fun c_2 => ?_)
    · refine lv_iconst (v := 0) hx hb dX3_isWithin_14 (by decide) ?_
      exact zR_z hx hb hr hlk dX3_isWithin_15 (rfl) ((if_neg (fun h => absurd h.2 (Int32.not_le.mpr c_2))).symm)
    · refine lv_iconst (v := 1) hx hb dX3_isWithin_10 (by decide) ?_
      refine lv_goto (tgt := 15) hx hb dX3_isWithin_11 (by decide) ?_
      exact zR_z hx hb hr hlk dX3_isWithin_15 (rfl) ((if_pos ⟨Int32.not_lt.mp c_1, Int32.not_lt.mp c_2⟩).symm)
set_option maxHeartbeats 4000000 in
set_option maxRecDepth 100000 in
theorem c_X3_isTerm (l : Launch) (D : va_G) (ks : Nat → ClassId) (t : Int32) : zMR l yX3_isTerm cX3_isTerm 1 ((some .boolean)) 1 22 D ks [.int t] (fun _ => True) (some (.int (fIn t 2 20))) := by
  refine zMR.of (by decide +kernel) (Nat.le_of_ble_eq_true rfl) ?_
  intro p e s m below meth c ls hx hb hr hml hown hlk hT _ hK hl
  have hl : lv_has ls 1 [(0, .int t)] := hl
  refine lv_iload_n hx hb dX3_isTerm_0 rfl (lv_at hl 0 rfl) ?_
  refine lv_iconst (v := 2) hx hb dX3_isTerm_1 (by decide) ?_
  refine lv_bipush (v := 20) hx hb dX3_isTerm_2 (by decide) ?_
  refine z_backR1 (z_runS ⟨hx, hb, hml, hown, hT⟩ (rest := []) (As := [.int t, .int 2, .int 20]) (c_X3_isWithin l D ks t 2 20 ) k_X3_50 (z_preR hK trivial) rfl ⟨Nat.le_of_ble_eq_true rfl, Nat.le_of_ble_eq_true rfl⟩ hl.1 rfl (Nat.le_of_ble_eq_true rfl) dX3_isTerm_4 ⟨Nat.le_of_ble_eq_true rfl, Nat.le_of_ble_eq_true rfl⟩) ?_
  exact zR_z hx hb hr hlk dX3_isTerm_7 (fIn_nar) (rfl)
end ZS
end
section
/-! the office: what is read -/
section ZX1
variable {D : va_G} {ks : Nat → ClassId} {ad : Nat → Nat} {np ng : Nat} {G : Nat → Nat} {MI : Nat → Nat → Int32} {MJ : Nat → Nat → Int64} {XI : Nat → Nat → Int32} {XJ : Nat → Nat → Int64} {Rs : List Nat}
def fShare (a : Int64) (p : Int32) (P : Int64) : Int64 := fParted (a * Int32.toInt64 p) P
def fAsset (st : Int32) (a : Int64) (p : Int32) (P : Int64) : Int64 := if st = 0 then fShare a p P else 0
def fForce (st : Int32) : Int32 := if st = 0 then 1 else 0
theorem fForce_nar {st : Int32} : narrow .boolean (.int (fForce st)) = .int (fForce st) := by unfold fForce; split <;> rfl
def fSmooth (r la : Int64) (st : Int32) : Int64 := if la = -1 then r else fMin (fMax r (la - fThou la (Int32.toInt64 st))) (la + fThou la (Int32.toInt64 st))
def fWorth (years term : Int32) (sh : Int64) (pr fl : Int32) : Int64 := fMax 0 (fMax (fThou sh (600 + fParted (400 * Int32.toInt64 years) (Int32.toInt64 term))) (fThou (Int32.toInt64 years * Int32.toInt64 pr) (Int32.toInt64 fl)))
def fRat (f : Nat → Int64) (t : Int32) : Int64 := if 0 ≤ t ∧ t < 21 then f t.toNatClampNeg else -1
set_option maxHeartbeats 4000000 in
set_option maxRecDepth 100000 in
theorem c_X1_shareFor (l : Launch) (hI : zIn Rs np ng) (i : Nat) (p0 : Int32) (hi : i < ng) : zMR l yX1_shareFor cX1_shareFor 2 ((some .long)) 1 (23) D ks [.ref (ad (20 + 4 * i)), .int p0] (zP D Rs ad (gS ks ad np ng G MI MJ XI XJ)) (some (.long (fShare (XJ 8 i) p0 (XJ 7 i)))) := by
  refine zMR.of (by decide +kernel) (Nat.le_of_ble_eq_true rfl) ?_
  intro p e s m below meth c ls hx hb hr hml hown hlk hT hP hK hl
  have hl : lv_has ls 2 [(0, .ref (ad (20 + 4 * i))), (1, .int p0)] := hl
  refine lv_aload_n hx hb dX1_shareFor_0 rfl (lv_at hl 0 rfl) ?_
  refine gf_X1_19 hx hb hT hown hK (hP.at (hI.2.1 i hi).1 gS_0) rfl dX1_shareFor_1 ?_
  refine gf_X1_23 hx hb hT hown hK (hP.at (hI.2.1 i hi).2 gS_1) rfl dX1_shareFor_4 ?_
  refine lv_iload_n hx hb dX1_shareFor_7 rfl (lv_at hl 1 rfl) ?_
  refine lv_i2l hx hb dX1_shareFor_8 rfl ?_
  refine lv_lmul hx hb dX1_shareFor_9 ?_
  refine lv_aload_n hx hb dX1_shareFor_10 rfl (lv_at hl 0 rfl) ?_
  refine gf_X1_27 hx hb hT hown hK (hP.at (hI.2.1 i hi).1 gS_0) rfl dX1_shareFor_11 ?_
  refine z_backR1 (z_runSN ⟨hx, hb, hml, hown, hT⟩ hK (rest := []) (As := [.long ((XJ 8 i) * (Int32.toInt64 p0)), .long (XJ 7 i)]) (c_X3_parted l D ks ((XJ 8 i) * (Int32.toInt64 p0)) (XJ 7 i) ) k_X1_30 (z_preR hK trivial) rfl ⟨Nat.le_of_ble_eq_true rfl, Nat.le_of_ble_eq_true rfl⟩ hl.1 rfl (Nat.le_of_ble_eq_true rfl) dX1_shareFor_14 ⟨Nat.le_of_ble_eq_true rfl, Nat.le_of_ble_eq_true rfl⟩) ?_
  exact zR_l hx hb hr hlk dX1_shareFor_17 (rfl)
set_option maxHeartbeats 4000000 in
set_option maxRecDepth 100000 in
theorem c_X2_isInForce (l : Launch) (hI : zIn Rs np ng) (j : Nat) (hj : j < np) : zMR l yX2_isInForce cX2_isInForce 1 ((some .boolean)) 0 (0) D ks [.ref (ad (22 + 4 * j))] (zP D Rs ad (gS ks ad np ng G MI MJ XI XJ)) (some (.int (fForce (XI 15 j)))) := by
  refine zMR.of (by decide +kernel) (Nat.le_of_ble_eq_true rfl) ?_
  intro p e s m below meth c ls hx hb hr hml hown hlk hT hP hK hl
  have hl : lv_has ls 1 [(0, .ref (ad (22 + 4 * j)))] := hl
  refine lv_aload_n hx hb dX2_isInForce_0 rfl (lv_at hl 0 rfl) ?_
  refine gf_X2_29 hx hb hT hown hK (hP.at (hI.2.2 j hj).1 gS_2) rfl dX2_isInForce_1 ?_
  refine lv_if_ne (tgt := 11) hx hb dX2_isInForce_4 (by decide) (fun c_1 => ?_) (fun c_1 => ?_)
  · refine lv_iconst (v := 0) hx hb dX2_isInForce_11 (by decide) ?_
    exact zR_z hx hb hr hlk dX2_isInForce_12 (rfl) ((if_neg c_1).symm)
  · refine lv_iconst (v := 1) hx hb dX2_isInForce_7 (by decide) ?_
    refine lv_goto (tgt := 12) hx hb dX2_isInForce_8 (by decide) ?_
    exact zR_z hx hb hr hlk dX2_isInForce_12 (rfl) ((if_pos c_1).symm)
set_option maxHeartbeats 4000000 in
set_option maxRecDepth 100000 in
theorem c_X2_guaranteed (l : Launch) (hI : zIn Rs np ng) (j : Nat) (hj : j < np) : zMR l yX2_guaranteed cX2_guaranteed 1 ((some .long)) 0 (0) D ks [.ref (ad (22 + 4 * j))] (zP D Rs ad (gS ks ad np ng G MI MJ XI XJ)) (some (.long (Int32.toInt64 (XI 14 j) + XJ 10 j))) := by
  refine zMR.of (by decide +kernel) (Nat.le_of_ble_eq_true rfl) ?_
  intro p e s m below meth c ls hx hb hr hml hown hlk hT hP hK hl
  have hl : lv_has ls 1 [(0, .ref (ad (22 + 4 * j)))] := hl
  refine lv_aload_n hx hb dX2_guaranteed_0 rfl (lv_at hl 0 rfl) ?_
  refine gf_X2_19 hx hb hT hown hK (hP.at (hI.2.2 j hj).1 gS_2) rfl dX2_guaranteed_1 ?_
  refine lv_i2l hx hb dX2_guaranteed_4 rfl ?_
  refine lv_aload_n hx hb dX2_guaranteed_5 rfl (lv_at hl 0 rfl) ?_
  refine gf_X2_38 hx hb hT hown hK (hP.at (hI.2.2 j hj).1 gS_2) rfl dX2_guaranteed_6 ?_
  refine lv_ladd hx hb dX2_guaranteed_9 ?_
  exact zR_l hx hb hr hlk dX2_guaranteed_10 (rfl)
set_option maxHeartbeats 4000000 in
set_option maxRecDepth 100000 in
theorem c_X2_assetShare (l : Launch) (hI : zIn Rs np ng) (j : Nat) (hj : j < np) (hG : G j < ng) : zMR l yX2_assetShare cX2_assetShare 1 ((some .long)) 2 (44) D ks [.ref (ad (22 + 4 * j))] (zP D Rs ad (gS ks ad np ng G MI MJ XI XJ)) (some (.long (fAsset (XI 15 j) (XJ 8 (G j)) (XI 13 j) (XJ 7 (G j))))) := by
  refine zMR.of (by decide +kernel) (Nat.le_of_ble_eq_true rfl) ?_
  intro p e s m below meth c ls hx hb hr hml hown hlk hT hP hK hl
  have hl : lv_has ls 1 [(0, .ref (ad (22 + 4 * j)))] := hl
  refine lv_aload_n hx hb dX2_assetShare_0 rfl (lv_at hl 0 rfl) ?_
  refine z_backR1 (z_runV ⟨hx, hb, hml, hown, hT⟩ (rest := []) (As := []) (c_X2_isInForce (MI := MI) (MJ := MJ) (XI := XI) (XJ := XJ) l hI j (hj)) k_X2_41 (z_preRV hK hP (hP.at (hI.2.2 j hj).1 gS_2) rfl) rfl ⟨Nat.le_of_ble_eq_true rfl, Nat.le_of_ble_eq_true rfl⟩ hl.1 rfl (Nat.le_of_ble_eq_true rfl) dX2_assetShare_1 ⟨Nat.le_of_ble_eq_true rfl, Nat.le_of_ble_eq_true rfl⟩) ?_
  refine lv_if_eq (tgt := 21) hx hb dX2_assetShare_4 (by decide) (fun c_1 => ?_) (fun c_1 => ?_)
  · refine lv_lconst (v := 0) hx hb dX2_assetShare_21 (by decide) ?_
    exact zR_l hx hb hr hlk dX2_assetShare_22 ((if_neg (fun h => absurd ((if_pos h).symm.trans c_1 : (1 : Int32) = 0) (by decide))).symm)
  · refine lv_aload_n hx hb dX2_assetShare_7 rfl (lv_at hl 0 rfl) ?_
    refine gf_X2_9 hx hb hT hown hK (hP.at (hI.2.2 j hj).1 gS_2) rfl dX2_assetShare_8 ?_
    refine lv_aload_n hx hb dX2_assetShare_11 rfl (lv_at hl 0 rfl) ?_
    refine gf_X2_15 hx hb hT hown hK (hP.at (hI.2.2 j hj).1 gS_2) rfl dX2_assetShare_12 ?_
    refine z_backR1 (z_runVN ⟨hx, hb, hml, hown, hT⟩ hK (rest := []) (As := [.int (XI 13 j)]) (c_X1_shareFor (MI := MI) (MJ := MJ) (XI := XI) (XJ := XJ) l hI (G j) (XI 13 j) (hG)) k_X2_45 (z_preRV hK hP (hP.at (hI.2.1 (G j) hG).1 gS_0) rfl) rfl ⟨Nat.le_of_ble_eq_true rfl, Nat.le_of_ble_eq_true rfl⟩ hl.1 rfl (Nat.le_of_ble_eq_true rfl) dX2_assetShare_15 ⟨Nat.le_of_ble_eq_true rfl, Nat.le_of_ble_eq_true rfl⟩) ?_
    refine lv_goto (tgt := 22) hx hb dX2_assetShare_18 (by decide) ?_
    exact zR_l hx hb hr hlk dX2_assetShare_22 ((if_pos (Decidable.byContradiction fun h => c_1 (if_neg h))).symm)
set_option maxHeartbeats 4000000 in
set_option maxRecDepth 100000 in
theorem c_X3_yearsRun (l : Launch) (hI : zIn Rs np ng) (j : Nat) (hj : j < np) (hG : G j < ng) : zMR l yX3_yearsRun cX3_yearsRun 2 ((some .int)) 0 (0) D ks [.ref (ad 13), .ref (ad (22 + 4 * j))] (zP D Rs ad (gS ks ad np ng G MI MJ XI XJ)) (some (.int (XI 10 2 - XI 11 (G j)))) := by
  refine zMR.of (by decide +kernel) (Nat.le_of_ble_eq_true rfl) ?_
  intro p e s m below meth c ls hx hb hr hml hown hlk hT hP hK hl
  have hl : lv_has ls 2 [(0, .ref (ad 13)), (1, .ref (ad (22 + 4 * j)))] := hl
  refine lv_aload_n hx hb dX3_yearsRun_0 rfl (lv_at hl 0 rfl) ?_
  refine gf_X3_110 hx hb hT hown hK (hP.at (hI.1 13 (by decide)) rfl) rfl dX3_yearsRun_1 ?_
  refine lv_aload_n hx hb dX3_yearsRun_4 rfl (lv_at hl 1 rfl) ?_
  refine gf_X3_192 hx hb hT hown hK (hP.at (hI.2.2 j hj).1 gS_2) rfl dX3_yearsRun_5 ?_
  refine gf_X3_196 hx hb hT hown hK (hP.at (hI.2.1 (G j) hG).1 gS_0) rfl dX3_yearsRun_8 ?_
  refine lv_isub hx hb dX3_yearsRun_11 ?_
  exact zR_i hx hb hr hlk dX3_yearsRun_12 (rfl)
set_option maxHeartbeats 4000000 in
set_option maxRecDepth 100000 in
theorem c_X3_smooth (l : Launch) (hI : zIn Rs np ng) (r : Int64) (la : Int64) : zMR l yX3_smooth cX3_smooth 7 ((some .long)) 2 (48) D ks [.ref (ad 13), .long r, .long la] (zP D Rs ad (gS ks ad np ng G MI MJ XI XJ)) (some (.long (fSmooth r la (XI 10 6)))) := by
  refine zMR.of (by decide +kernel) (Nat.le_of_ble_eq_true rfl) ?_
  intro p e s m below meth c ls hx hb hr hml hown hlk hT hP hK hl
  have hl : lv_has ls 7 [(0, .ref (ad 13)), (1, .long r), (3, .long la)] := hl
  refine lv_lload_n hx hb dX3_smooth_0 rfl (lv_at hl 2 rfl) ?_
  refine lv_ldc2 (v := (-1)) hx hb hown (hT _ kl_X3_28) dX3_smooth_1 ?_
  refine z_lcmp_ne (tgt := 10) hx hb dX3_smooth_4 dX3_smooth_5 (by decide) (fun c_1 => ?_) (fun c_1 => ?_)
  · refine lv_lload_n hx hb dX3_smooth_10 rfl (lv_at hl 2 rfl) ?_
    refine lv_aload_n hx hb dX3_smooth_11 rfl (lv_at hl 0 rfl) ?_
    refine gf_X3_40 hx hb hT hown hK (hP.at (hI.1 13 (by decide)) rfl) rfl dX3_smooth_12 ?_
    refine lv_i2l hx hb dX3_smooth_15 rfl ?_
    refine z_backR1 (z_runS ⟨hx, hb, hml, hown, hT⟩ (rest := []) (As := [.long la, .long (Int32.toInt64 (XI 10 6))]) (c_X3_thousandths l D ks la (Int32.toInt64 (XI 10 6)) ) k_X3_115 (z_preR hK trivial) rfl ⟨Nat.le_of_ble_eq_true rfl, Nat.le_of_ble_eq_true rfl⟩ hl.1 rfl (Nat.le_of_ble_eq_true rfl) dX3_smooth_16 ⟨Nat.le_of_ble_eq_true rfl, Nat.le_of_ble_eq_true rfl⟩) ?_
    refine lv_lstore (lv' := [(5, .long (fThou la (Int32.toInt64 (XI 10 6)))), (0, .ref (ad 13)), (1, .long r), (3, .long la)]) hx hb dX3_smooth_19 hl (by decide) rfl (fun ls hl => ?_)
    refine lv_lload_n hx hb dX3_smooth_21 rfl (lv_at hl 2 rfl) ?_
    refine lv_lload_n hx hb dX3_smooth_22 rfl (lv_at hl 3 rfl) ?_
    refine lv_lload hx hb dX3_smooth_23 (lv_at hl 0 rfl) ?_
    refine lv_lsub hx hb dX3_smooth_25 ?_
    refine va_mmax_long hx hb (hml.trans hl.1.symm) hown (hT _ ml_X3_176) (hT _ sm_yJ9_max_f86c9) (hT _ in_J9) (hT _ co_yJ9_max_f86c9) (Nat.le_of_ble_eq_true rfl) (Nat.le_of_ble_eq_true rfl) (Nat.le_of_ble_eq_true rfl) (Nat.le_of_ble_eq_true rfl) dX3_smooth_26 ?_
    refine lv_lload_n hx hb dX3_smooth_29 rfl (lv_at hl 3 rfl) ?_
    refine lv_lload hx hb dX3_smooth_30 (lv_at hl 0 rfl) ?_
    refine lv_ladd hx hb dX3_smooth_32 ?_
    refine va_mmin_long hx hb (hml.trans hl.1.symm) hown (hT _ ml_X3_232) (hT _ sm_yJ9_min_f86c9) (hT _ in_J9) (hT _ co_yJ9_min_f86c9) (Nat.le_of_ble_eq_true rfl) (Nat.le_of_ble_eq_true rfl) (Nat.le_of_ble_eq_true rfl) (Nat.le_of_ble_eq_true rfl) dX3_smooth_33 ?_
    exact zR_l hx hb hr hlk dX3_smooth_36 ((if_neg c_1).symm)
  · refine lv_lload_n hx hb dX3_smooth_8 rfl (lv_at hl 1 rfl) ?_
    exact zR_l hx hb hr hlk dX3_smooth_9 ((if_pos c_1).symm)
set_option maxHeartbeats 4000000 in
set_option maxRecDepth 100000 in
theorem c_X3_surrenderWorth (l : Launch) (hI : zIn Rs np ng) (j : Nat) (hj : j < np) (hG : G j < ng) : zMR l yX3_surrenderWorth cX3_surrenderWorth 9 ((some .long)) 3 (64) D ks [.ref (ad 13), .ref (ad (22 + 4 * j))] (zP D Rs ad (gS ks ad np ng G MI MJ XI XJ)) (some (.long (fWorth (XI 10 2 - XI 11 (G j)) (XI 12 (G j)) (fAsset (XI 15 j) (XJ 8 (G j)) (XI 13 j) (XJ 7 (G j))) (XI 13 j) (XI 10 7)))) := by
  refine zMR.of (by decide +kernel) (Nat.le_of_ble_eq_true rfl) ?_
  intro p e s m below meth c ls hx hb hr hml hown hlk hT hP hK hl
  have hl : lv_has ls 9 [(0, .ref (ad 13)), (1, .ref (ad (22 + 4 * j)))] := hl
  refine lv_aload_n hx hb dX3_surrenderWorth_0 rfl (lv_at hl 0 rfl) ?_
  refine lv_aload_n hx hb dX3_surrenderWorth_1 rfl (lv_at hl 1 rfl) ?_
  refine z_backR1 (z_runV ⟨hx, hb, hml, hown, hT⟩ (rest := []) (As := [.ref (ad (22 + 4 * j))]) (c_X3_yearsRun (MI := MI) (MJ := MJ) (XI := XI) (XJ := XJ) l hI j (hj) (hG)) k_X3_186 (z_preRV hK hP (hP.at (hI.1 13 (by decide)) rfl) rfl) rfl ⟨Nat.le_of_ble_eq_true rfl, Nat.le_of_ble_eq_true rfl⟩ hl.1 rfl (Nat.le_of_ble_eq_true rfl) dX3_surrenderWorth_2 ⟨Nat.le_of_ble_eq_true rfl, Nat.le_of_ble_eq_true rfl⟩) ?_
  refine lv_istore_n (lv' := [(2, .int (XI 10 2 - XI 11 (G j))), (0, .ref (ad 13)), (1, .ref (ad (22 + 4 * j)))]) hx hb dX3_surrenderWorth_5 rfl hl (by decide) rfl (fun ls hl => ?_)
  refine lv_ldc2 (v := 600) hx hb hown (hT _ kl_X3_235) dX3_surrenderWorth_6 ?_
  refine lv_ldc2 (v := 400) hx hb hown (hT _ kl_X3_237) dX3_surrenderWorth_9 ?_
  refine lv_iload_n hx hb dX3_surrenderWorth_12 rfl (lv_at hl 0 rfl) ?_
  refine lv_i2l hx hb dX3_surrenderWorth_13 rfl ?_
  refine lv_lmul hx hb dX3_surrenderWorth_14 ?_
  refine lv_aload_n hx hb dX3_surrenderWorth_15 rfl (lv_at hl 2 rfl) ?_
  refine gf_X3_192 hx hb hT hown hK (hP.at (hI.2.2 j hj).1 gS_2) rfl dX3_surrenderWorth_16 ?_
  refine gf_X3_199 hx hb hT hown hK (hP.at (hI.2.1 (G j) hG).1 gS_0) rfl dX3_surrenderWorth_19 ?_
  refine lv_i2l hx hb dX3_surrenderWorth_22 rfl ?_
  refine z_backR1 (z_runS ⟨hx, hb, hml, hown, hT⟩ (rest := [.long 600]) (As := [.long (400 * (Int32.toInt64 (XI 10 2 - XI 11 (G j)))), .long (Int32.toInt64 (XI 12 (G j)))]) (c_X3_parted l D ks (400 * (Int32.toInt64 (XI 10 2 - XI 11 (G j)))) (Int32.toInt64 (XI 12 (G j))) ) k_X3_226 (z_preR hK trivial) rfl ⟨Nat.le_of_ble_eq_true rfl, Nat.le_of_ble_eq_true rfl⟩ hl.1 rfl (Nat.le_of_ble_eq_true rfl) dX3_surrenderWorth_23 ⟨Nat.le_of_ble_eq_true rfl, Nat.le_of_ble_eq_true rfl⟩) ?_
  refine lv_ladd hx hb dX3_surrenderWorth_26 ?_
  refine lv_topl (fun v1 ev1 => ?_)
  refine lv_lstore_n (lv' := [(3, .long v1), (2, .int (XI 10 2 - XI 11 (G j))), (0, .ref (ad 13)), (1, .ref (ad (22 + 4 * j)))]) hx hb dX3_surrenderWorth_27 rfl hl (by decide) rfl (fun ls hl => ?_)
  refine lv_aload_n hx hb dX3_surrenderWorth_28 rfl (lv_at hl 3 rfl) ?_
  refine z_backR1 (z_runVN ⟨hx, hb, hml, hown, hT⟩ hK (rest := []) (As := []) (c_X2_assetShare (MI := MI) (MJ := MJ) (XI := XI) (XJ := XJ) l hI j (hj) (hG)) k_X3_139 (z_preRV hK hP (hP.at (hI.2.2 j hj).1 gS_2) rfl) rfl ⟨Nat.le_of_ble_eq_true rfl, Nat.le_of_ble_eq_true rfl⟩ hl.1 rfl (Nat.le_of_ble_eq_true rfl) dX3_surrenderWorth_29 ⟨Nat.le_of_ble_eq_true rfl, Nat.le_of_ble_eq_true rfl⟩) ?_
  refine lv_lload_n hx hb dX3_surrenderWorth_32 rfl (lv_at hl 0 rfl) ?_
  refine z_backR1 (z_runS ⟨hx, hb, hml, hown, hT⟩ (rest := []) (As := [.long (fAsset (XI 15 j) (XJ 8 (G j)) (XI 13 j) (XJ 7 (G j))), .long v1]) (c_X3_thousandths l D ks (fAsset (XI 15 j) (XJ 8 (G j)) (XI 13 j) (XJ 7 (G j))) v1 ) k_X3_115 (z_preR hK trivial) rfl ⟨Nat.le_of_ble_eq_true rfl, Nat.le_of_ble_eq_true rfl⟩ hl.1 rfl (Nat.le_of_ble_eq_true rfl) dX3_surrenderWorth_33 ⟨Nat.le_of_ble_eq_true rfl, Nat.le_of_ble_eq_true rfl⟩) ?_
  refine lv_topl (fun v2 ev2 => ?_)
  refine lv_lstore (lv' := [(5, .long v2), (3, .long v1), (2, .int (XI 10 2 - XI 11 (G j))), (0, .ref (ad 13)), (1, .ref (ad (22 + 4 * j)))]) hx hb dX3_surrenderWorth_36 hl (by decide) rfl (fun ls hl => ?_)
  refine lv_iload_n hx hb dX3_surrenderWorth_38 rfl (lv_at hl 2 rfl) ?_
  refine lv_i2l hx hb dX3_surrenderWorth_39 rfl ?_
  refine lv_aload_n hx hb dX3_surrenderWorth_40 rfl (lv_at hl 4 rfl) ?_
  refine gf_X3_218 hx hb hT hown hK (hP.at (hI.2.2 j hj).1 gS_2) rfl dX3_surrenderWorth_41 ?_
  refine lv_i2l hx hb dX3_surrenderWorth_44 rfl ?_
  refine lv_lmul hx hb dX3_surrenderWorth_45 ?_
  refine lv_aload_n hx hb dX3_surrenderWorth_46 rfl (lv_at hl 3 rfl) ?_
  refine gf_X3_43 hx hb hT hown hK (hP.at (hI.1 13 (by decide)) rfl) rfl dX3_surrenderWorth_47 ?_
  refine lv_i2l hx hb dX3_surrenderWorth_50 rfl ?_
  refine z_backR1 (z_runS ⟨hx, hb, hml, hown, hT⟩ (rest := []) (As := [.long ((Int32.toInt64 (XI 10 2 - XI 11 (G j))) * (Int32.toInt64 (XI 13 j))), .long (Int32.toInt64 (XI 10 7))]) (c_X3_thousandths l D ks ((Int32.toInt64 (XI 10 2 - XI 11 (G j))) * (Int32.toInt64 (XI 13 j))) (Int32.toInt64 (XI 10 7)) ) k_X3_115 (z_preR hK trivial) rfl ⟨Nat.le_of_ble_eq_true rfl, Nat.le_of_ble_eq_true rfl⟩ hl.1 rfl (Nat.le_of_ble_eq_true rfl) dX3_surrenderWorth_51 ⟨Nat.le_of_ble_eq_true rfl, Nat.le_of_ble_eq_true rfl⟩) ?_
  refine lv_topl (fun v3 ev3 => ?_)
  refine lv_lstore (lv' := [(7, .long v3), (5, .long v2), (3, .long v1), (2, .int (XI 10 2 - XI 11 (G j))), (0, .ref (ad 13)), (1, .ref (ad (22 + 4 * j)))]) hx hb dX3_surrenderWorth_54 hl (by decide) rfl (fun ls hl => ?_)
  refine lv_lconst (v := 0) hx hb dX3_surrenderWorth_56 (by decide) ?_
  refine lv_lload hx hb dX3_surrenderWorth_57 (lv_at hl 1 rfl) ?_
  refine lv_lload hx hb dX3_surrenderWorth_59 (lv_at hl 0 rfl) ?_
  refine va_mmax_long hx hb (hml.trans hl.1.symm) hown (hT _ ml_X3_176) (hT _ sm_yJ9_max_f86c9) (hT _ in_J9) (hT _ co_yJ9_max_f86c9) (Nat.le_of_ble_eq_true rfl) (Nat.le_of_ble_eq_true rfl) (Nat.le_of_ble_eq_true rfl) (Nat.le_of_ble_eq_true rfl) dX3_surrenderWorth_61 ?_
  refine va_mmax_long hx hb (hml.trans hl.1.symm) hown (hT _ ml_X3_176) (hT _ sm_yJ9_max_f86c9) (hT _ in_J9) (hT _ co_yJ9_max_f86c9) (Nat.le_of_ble_eq_true rfl) (Nat.le_of_ble_eq_true rfl) (Nat.le_of_ble_eq_true rfl) (Nat.le_of_ble_eq_true rfl) dX3_surrenderWorth_64 ?_
  exact zR_l hx hb hr hlk dX3_surrenderWorth_67 (by rw [ev3, ev2, ev1]; rfl)
end ZX1
end
section
/-! the reference: what is read; the office: searching -/
section ZM1
variable {D : va_G} {ks : Nat → ClassId} {ad : Nat → Nat} {np ng : Nat} {G : Nat → Nat} {MI : Nat → Nat → Int32} {MJ : Nat → Nat → Int64} {XI : Nat → Nat → Int32} {XJ : Nat → Nat → Int64} {Rs : List Nat}
def mF (b t : Nat → Int32) (y te : Int32) : Nat → Int32 → Int32
  | 0, f => f
  | k + 1, f => mF b t y te k (if b k = y ∧ t k = te then nI k else f)
def hF (b t : Nat → Int32) (y te : Int32) : Nat → Nat → Nat
  | 0, f => f
  | k + 1, f => hF b t y te k (if b k = y ∧ t k = te then k else f)
def mP (b t st pr : Nat → Int32) (y te : Int32) : Nat → Int64
  | 0 => 0
  | k + 1 => mP b t st pr y te k + (if b k = y ∧ t k = te ∧ st k = 0 then Int32.toInt64 (pr k) else 0)
def hm (MI : Nat → Nat → Int32) (np j : Nat) : Nat := hF (MI 1) (MI 2) (MI 1 j) (MI 2 j) np 0
def mPr (MI : Nat → Nat → Int32) (np j : Nat) : Int64 := mP (MI 1) (MI 2) (MI 5) (MI 3) (MI 1 j) (MI 2 j) np
theorem mF_nI {b t : Nat → Int32} {y te : Int32} : ∀ (n d : Nat), mF b t y te n (nI d) = nI (hF b t y te n d) := by
  intro n
  induction n with
  | zero => intro d; rfl
  | succ n ih =>
    intro d
    simp only [mF, hF]
    split
    · exact ih n
    · exact ih d
theorem mF_hF {b t : Nat → Int32} {y te : Int32} : ∀ (n : Nat) (f : Int32) (d j : Nat), j < n → b j = y → t j = te → mF b t y te n f = nI (hF b t y te n d) ∧ hF b t y te n d ≤ j := by
  intro n
  induction n with
  | zero => intro f d j h; exact absurd h (Nat.not_lt_zero _)
  | succ n ih =>
    intro f d j h hb ht
    simp only [mF, hF]
    by_cases hj : j < n
    · split
      · exact ih (nI n) n j hj hb ht
      · exact ih f d j hj hb ht
    · have e : j = n := by omega
      subst e
      rw [if_pos ⟨hb, ht⟩, if_pos ⟨hb, ht⟩]
      refine ⟨mF_nI j j, ?_⟩
      have key : ∀ (m d : Nat), m ≤ d → hF b t y te m d ≤ d := by
        intro m
        induction m with
        | zero => intro d _; exact Nat.le_refl _
        | succ m ihm =>
          intro d hd
          simp only [hF]
          split
          · exact Nat.le_trans (ihm m (Nat.le_refl _)) (by omega)
          · exact ihm d (by omega)
      exact key j j (Nat.le_refl _)
theorem hm_eq {MI : Nat → Nat → Int32} {np j : Nat} (hj : j < np) (f : Int32) : mF (MI 1) (MI 2) (MI 1 j) (MI 2 j) np f = nI (hm MI np j) := (mF_hF np f 0 j hj rfl rfl).1
theorem hm_le {MI : Nat → Nat → Int32} {np j : Nat} (hj : j < np) : hm MI np j ≤ j := (mF_hF (b := MI 1) (t := MI 2) np 0 0 j hj rfl rfl).2
def mShare (MI : Nat → Nat → Int32) (MJ : Nat → Nat → Int64) (np j : Nat) : Int64 := if MI 5 j = 0 then MJ 2 (hm MI np j) * Int32.toInt64 (MI 3 j) / mPr MI np j else 0
def fMore (x y : Int64) : Int64 := if y < x then x else y
def mWorth (MI : Nat → Nat → Int32) (MJ : Nat → Nat → Int64) (np j : Nat) : Int64 := fMore (fPart (mShare MI MJ np j) (600 + 400 * Int32.toInt64 (MI 0 0 - MI 1 j) / Int32.toInt64 (MI 2 j))) (fPart (Int32.toInt64 (MI 0 0 - MI 1 j) * Int32.toInt64 (MI 3 j)) (Int32.toInt64 (MI 0 5)))
/-- the first of the generations from k on that is of the year and the term -/
def xF (b t : Nat → Int32) (y te : Int32) : Nat → Nat → Option Nat
  | 0, _ => none
  | n + 1, k => if b k = y ∧ t k = te then some k else xF b t y te n (k + 1)
set_option maxHeartbeats 4000000 in
set_option maxRecDepth 100000 in
theorem c_X3_findGeneration (l : Launch) (hI : zIn Rs np ng) (y : Int32) (te : Int32) (hG30 : ng ≤ 30) : zMR l yX3_findGeneration cX3_findGeneration 5 ((some (.object "ProfitsOffice$Generation"))) 0 (0) D ks [.ref (ad 13), .int y, .int te] (zP D Rs ad (gS ks ad np ng G MI MJ XI XJ)) (some (va_rf ((xF (XI 11) (XI 12) y te ng 0).map (fun i => ad (20 + 4 * i))))) := by
  refine zMR.of (by decide +kernel) (Nat.le_of_ble_eq_true rfl) ?_
  intro p e s m below meth c ls hx hb hr hml hown hlk hT hP hK hl
  have hl : lv_has ls 5 [(0, .ref (ad 13)), (1, .int y), (2, .int te)] := hl
  have L : ∀ (n k : Nat) (ls : Array Slot), k + n = 30 → (xF (XI 11) (XI 12) y te (ng - k) k).map (fun i => ad (20 + 4 * i)) = ((xF (XI 11) (XI 12) y te ng 0).map (fun i => ad (20 + 4 * i))) → lv_has ls 5 [(3, .int (nI k)), (0, .ref (ad 13)), (1, .int y), (2, .int te)] → W p l e (zRm 0 (0) 0 0) s m ([.ref (ad 13), .int y, .int te] : List Value).toArray below meth c s.heap [] 0 0 (MQ below (zQR (some (va_rf ((xF (XI 11) (XI 12) y te ng 0).map (fun i => ad (20 + 4 * i)))))) ([.ref (ad 13), .int y, .int te] : List Value).toArray s 0 0 (fun _ => False)) (F0 m 2 ls []) := by
    intro n
    induction n with
    | zero =>
      intro k ls hkn hv hl
      refine lv_iload_n hx hb dX3_findGeneration_2 rfl (lv_at hl 0 rfl) ?_
      refine lv_aload_n hx hb dX3_findGeneration_3 rfl (lv_at hl 1 rfl) ?_
      refine gf_X3_17 hx hb hT hown hK (hP.at (hI.1 13 (by decide)) rfl) rfl dX3_findGeneration_4 ?_
      refine z_glen hx hb hK (hP.at (hI.1 15 (by decide)) rfl) (v := 30) rfl dX3_findGeneration_7 ?_
      refine lv_icmp_ge (tgt := 51) hx hb dX3_findGeneration_8 (by decide) (fun c_1 => ?_) (fun c_1 => ?_)
      · refine lv_null hx hb dX3_findGeneration_51 ?_
        exact zR_a hx hb hr hlk dX3_findGeneration_52 (Or.inl rfl) (by rw [← hv, show ng - k = 0 by omega]; rfl)
      · exact absurd (nI_le (a := 30) (b := k) (by omega) (by omega)) c_1
    | succ n ih =>
      intro k ls hkn hv hl
      have hk : k < 30 := by omega
      refine lv_iload_n hx hb dX3_findGeneration_2 rfl (lv_at hl 0 rfl) ?_
      refine lv_aload_n hx hb dX3_findGeneration_3 rfl (lv_at hl 1 rfl) ?_
      refine gf_X3_17 hx hb hT hown hK (hP.at (hI.1 13 (by decide)) rfl) rfl dX3_findGeneration_4 ?_
      refine z_glen hx hb hK (hP.at (hI.1 15 (by decide)) rfl) (v := 30) rfl dX3_findGeneration_7 ?_
      refine lv_icmp_ge (tgt := 51) hx hb dX3_findGeneration_8 (by decide) (fun c_2 => ?_) (fun c_2 => ?_)
      · exact absurd c_2 (nI_ge (a := k) (b := 30) hk (by decide))
      · refine lv_aload_n hx hb dX3_findGeneration_11 rfl (lv_at hl 1 rfl) ?_
        refine gf_X3_17 hx hb hT hown hK (hP.at (hI.1 13 (by decide)) rfl) rfl dX3_findGeneration_12 ?_
        refine lv_iload_n hx hb dX3_findGeneration_15 rfl (lv_at hl 0 rfl) ?_
        refine z_galdN hx hb hK (hP.at (hI.1 15 (by decide)) rfl) (hk) (by decide) rfl dX3_findGeneration_16 ?_
        rcases Nat.lt_or_ge k ng with hg | hg
        · rw [show rGen ad ng k = some (ad (20 + 4 * k)) from if_pos hg]
          show W _ _ _ _ _ _ _ _ _ _ _ _ _ _ _ (F0 m 17 ls (.ref (ad (20 + 4 * k)) :: []))
          refine lv_astore (lv' := [(4, .ref (ad (20 + 4 * k))), (3, .int (nI k)), (0, .ref (ad 13)), (1, .int y), (2, .int te)]) hx hb dX3_findGeneration_17 hl (by decide) rfl (fun ls hl => ?_)
          refine lv_aload hx hb dX3_findGeneration_19 (lv_at hl 0 rfl) ?_
          refine lv_ifnull hx hb dX3_findGeneration_21 ?_
          refine lv_aload hx hb dX3_findGeneration_24 (lv_at hl 0 rfl) ?_
          refine gf_X3_196 hx hb hT hown hK (hP.at (hI.2.1 k hg).1 gS_0) rfl dX3_findGeneration_26 ?_
          refine lv_iload_n hx hb dX3_findGeneration_29 rfl (lv_at hl 3 rfl) ?_
          refine lv_icmp_ne (tgt := 45) hx hb dX3_findGeneration_30 (by decide) (fun c_3 => ?_) (fun c_3 => ?_)
          · refine lv_iinc (v := nI (k + 1)) (lv' := [(3, .int (nI (k + 1))), (4, .ref (ad (20 + 4 * k))), (0, .ref (ad 13)), (1, .int y), (2, .int te)]) hx hb dX3_findGeneration_45 hl (k := 1) rfl (nI_1 k) (by decide) rfl (fun ls hl => ?_)
            refine lv_goto (tgt := 2) hx hb dX3_findGeneration_48 (by decide) ?_
            exact ih (k + 1) _ (by omega) (by rw [← hv, show ng - k = ng - (k + 1) + 1 by omega]; simp only [xF]; rw [if_neg (fun h => c_3 h.1)]) (lv_sub hl [0, 2, 3, 4] rfl)
          · refine lv_aload hx hb dX3_findGeneration_33 (lv_at hl 0 rfl) ?_
            refine gf_X3_199 hx hb hT hown hK (hP.at (hI.2.1 k hg).1 gS_0) rfl dX3_findGeneration_35 ?_
            refine lv_iload_n hx hb dX3_findGeneration_38 rfl (lv_at hl 4 rfl) ?_
            refine lv_icmp_ne (tgt := 45) hx hb dX3_findGeneration_39 (by decide) (fun c_4 => ?_) (fun c_4 => ?_)
            · refine lv_iinc (v := nI (k + 1)) (lv' := [(3, .int (nI (k + 1))), (4, .ref (ad (20 + 4 * k))), (0, .ref (ad 13)), (1, .int y), (2, .int te)]) hx hb dX3_findGeneration_45 hl (k := 1) rfl (nI_1 k) (by decide) rfl (fun ls hl => ?_)
              refine lv_goto (tgt := 2) hx hb dX3_findGeneration_48 (by decide) ?_
              exact ih (k + 1) _ (by omega) (by rw [← hv, show ng - k = ng - (k + 1) + 1 by omega]; simp only [xF]; rw [if_neg (fun h => c_4 h.2)]) (lv_sub hl [0, 2, 3, 4] rfl)
            · refine lv_aload hx hb dX3_findGeneration_42 (lv_at hl 0 rfl) ?_
              exact zR_a hx hb hr hlk dX3_findGeneration_44 (Or.inr ⟨_, rfl⟩) (by rw [← hv, show ng - k = ng - (k + 1) + 1 by omega]; simp only [xF]; rw [if_pos ⟨c_3, c_4⟩]; rfl)
        · have hg : ¬ k < ng := Nat.not_lt.mpr hg
          rw [show rGen ad ng k = none from if_neg hg]
          show W _ _ _ _ _ _ _ _ _ _ _ _ _ _ _ (F0 m 17 ls (.null :: []))
          refine lv_astoreN (lv' := [(4, .null), (3, .int (nI k)), (0, .ref (ad 13)), (1, .int y), (2, .int te)]) hx hb dX3_findGeneration_17 hl (by decide) rfl (fun ls hl => ?_)
          refine lv_aloadN hx hb dX3_findGeneration_19 (lv_at hl 0 rfl) ?_
          refine lv_ifnullN (tgt := 45) hx hb dX3_findGeneration_21 (by decide) ?_
          refine lv_iinc (v := nI (k + 1)) (lv' := [(3, .int (nI (k + 1))), (4, .null), (0, .ref (ad 13)), (1, .int y), (2, .int te)]) hx hb dX3_findGeneration_45 hl (k := 1) rfl (nI_1 k) (by decide) rfl (fun ls hl => ?_)
          refine lv_goto (tgt := 2) hx hb dX3_findGeneration_48 (by decide) ?_
          exact ih (k + 1) _ (by omega) (by rw [← hv, show ng - k = 0 by omega, show ng - (k + 1) = 0 by omega]; rfl) (lv_sub hl [0, 2, 3, 4] rfl)
  refine lv_iconst (v := 0) hx hb dX3_findGeneration_0 (by decide) ?_
  refine lv_istore_n (lv' := [(3, .int 0), (0, .ref (ad 13)), (1, .int y), (2, .int te)]) hx hb dX3_findGeneration_1 rfl hl (by decide) rfl (fun ls hl => ?_)
  exact L 30 0 _ (by omega) rfl (lv_sub hl [0, 1, 2, 3] rfl)
set_option maxHeartbeats 4000000 in
set_option maxRecDepth 100000 in
theorem c_X3_ratioIn (l : Launch) (r : Nat) (hr1 : r ∈ Rs) (f : Nat → Int64) (he : gS ks ad np ng G MI MJ XI XJ r = .inl (ks 1, 21, .inr (.inl f))) (t : Int32) : zMR l yX3_ratioIn cX3_ratioIn 2 ((some .long)) 0 0 D ks [.ref (ad r), .int t] (zP D Rs ad (gS ks ad np ng G MI MJ XI XJ)) (some (.long (fRat f t))) := by
  refine zMR.of (by decide +kernel) (Nat.le_of_ble_eq_true rfl) ?_
  intro p e s m below meth c ls hx hb hr hml hown hlk hT hP hK hl
  have hl : lv_has ls 2 [(0, .ref (ad r)), (1, .int t)] := hl
  refine lv_iload_n hx hb dX3_ratioIn_0 rfl (lv_at hl 1 rfl) ?_
  refine lv_if_lt (tgt := 16) hx hb dX3_ratioIn_1 (by decide) (fun c_1 => ?_) (fun c_1 => ?_)
  · refine lv_ldc2 (v := (-1)) hx hb hown (hT _ kl_X3_28) dX3_ratioIn_16 ?_
    exact zR_l hx hb hr hlk dX3_ratioIn_19 ((if_neg (fun h => absurd h.1 (Int32.not_le.mpr c_1))).symm)
  · refine lv_iload_n hx hb dX3_ratioIn_4 rfl (lv_at hl 1 rfl) ?_
    refine lv_aload_n hx hb dX3_ratioIn_5 rfl (lv_at hl 0 rfl) ?_
    refine z_jlen hx hb hK (hP.at hr1 he) (v := 21) rfl dX3_ratioIn_6 ?_
    refine lv_icmp_ge (tgt := 16) hx hb dX3_ratioIn_7 (by decide) (fun c_2 => ?_) (fun c_2 => ?_)
    · refine lv_ldc2 (v := (-1)) hx hb hown (hT _ kl_X3_28) dX3_ratioIn_16 ?_
      exact zR_l hx hb hr hlk dX3_ratioIn_19 ((if_neg (fun h => absurd h.2 (Int32.not_lt.mpr c_2))).symm)
    · refine lv_aload_n hx hb dX3_ratioIn_10 rfl (lv_at hl 0 rfl) ?_
      refine lv_iload_n hx hb dX3_ratioIn_11 rfl (lv_at hl 1 rfl) ?_
      refine z_lald hx hb hK (hP.at hr1 he) (z_vpin c_1 c_2 rfl) dX3_ratioIn_12 ?_
      refine lv_goto (tgt := 19) hx hb dX3_ratioIn_13 (by decide) ?_
      exact zR_l hx hb hr hlk dX3_ratioIn_19 ((if_pos ⟨Int32.not_lt.mp c_1, Int32.not_le.mp c_2⟩).symm)
end ZM1
end
section
/-! what is written: funds, a policy that leaves; the reference likewise -/
section ZW1
variable {D : va_G} {ks : Nat → ClassId} {ad : Nat → Nat} {np ng : Nat} {G : Nat → Nat} {MI : Nat → Nat → Int32} {MJ : Nat → Nat → Int64} {XI : Nat → Nat → Int32} {XJ : Nat → Nat → Int64} {Rs : List Nat}
def fChg (a ch : Int64) : Int64 := if 0 < a then fThou a ch else 0
def fRel (a : Int64) (p : Int32) (P : Int64) : Int64 := if 0 < P - Int32.toInt64 p then fShare a p P else a
set_option maxHeartbeats 4000000 in
set_option maxRecDepth 100000 in
theorem c_X0_earn (l : Launch) (hD0 : zD (fun _ => True) Rs ad) {g : Nat → va_E} (r : Nat) (hr1 : r ∈ Rs) (a : Int64) (he : g r = .inr (0, [.long a])) (rt : Int32) (sz : Nat) : zMW l yX0_earn cX0_earn 4 ((some .long)) 2 (48) 0 0 D ks sz [.ref (ad r), .int rt] (zP D Rs ad g) (some (.long (fThou a (Int32.toInt64 rt)))) (zP D Rs ad (va_up g r (.inr (0, [.long (a + fThou a (Int32.toInt64 rt))])))) (zA Rs ad sz) := by
  refine zMW.of (by decide +kernel) (Nat.le_of_ble_eq_true rfl) ?_
  intro p e s m below meth c ls hx hb hr hml hown hlk hT hsz hP hK hl hin
  have hl : lv_has ls 4 [(0, .ref (ad r)), (1, .int rt)] := hl
  subst hsz
  have hD := hD0.self (sz := s.heap.size)
  have hA : ∀ q : Nat, s.heap.size ≤ q → zA Rs ad s.heap.size q := fun q h => Or.inr h
  have hS : va_S (zA Rs ad s.heap.size) s.heap s.heap [] := va_S.rf
  refine lv_aload_n hx hb dX0_earn_0 rfl (lv_at hl 0 rfl) ?_
  refine gf_X0_7 hx hb hT hown hK (hP.at hr1 he) rfl dX0_earn_1 ?_
  refine lv_iload_n hx hb dX0_earn_4 rfl (lv_at hl 1 rfl) ?_
  refine lv_i2l hx hb dX0_earn_5 rfl ?_
  refine z_backR1 (z_runSN ⟨hx, hb, hml, hown, hT⟩ hK (rest := []) (As := [.long a, .long (Int32.toInt64 rt)]) (c_X3_thousandths l D ks a (Int32.toInt64 rt) ) k_X0_13 (z_preR hK trivial) rfl ⟨Nat.le_of_ble_eq_true rfl, Nat.le_of_ble_eq_true rfl⟩ hl.1 rfl (Nat.le_of_ble_eq_true rfl) dX0_earn_6 ⟨Nat.le_of_ble_eq_true rfl, Nat.le_of_ble_eq_true rfl⟩) ?_
  refine lv_lstore_n (lv' := [(2, .long (fThou a (Int32.toInt64 rt))), (0, .ref (ad r)), (1, .int rt)]) hx hb dX0_earn_9 rfl hl (by decide) rfl (fun ls hl => ?_)
  refine lv_aload_n hx hb dX0_earn_10 rfl (lv_at hl 1 rfl) ?_
  refine lv_dup hx hb dX0_earn_11 rfl ?_
  refine gf_X0_7 hx hb hT hown hK (hP.at hr1 he) rfl dX0_earn_12 ?_
  refine lv_lload_n hx hb dX0_earn_15 rfl (lv_at hl 0 rfl) ?_
  refine lv_ladd hx hb dX0_earn_16 ?_
  refine pg_X0_7 hx hb hT hown hK hP hD hS hr1 (v := a + (fThou a (Int32.toInt64 rt))) he (Nat.le_of_ble_eq_true rfl) dX0_earn_17 (fun H locs hP hS => ?_)
  refine lv_lload_n hx hb dX0_earn_20 rfl (lv_at hl 0 rfl) ?_
  exact zW_l hx hb hr hlk hS (Nat.le_of_ble_eq_true rfl) (Nat.le_of_ble_eq_true rfl) dX0_earn_21 (rfl) (hP)
set_option maxHeartbeats 4000000 in
set_option maxRecDepth 100000 in
theorem c_X0_takeCharge (l : Launch) (hD0 : zD (fun _ => True) Rs ad) {g : Nat → va_E} (r : Nat) (hr1 : r ∈ Rs) (a : Int64) (he : g r = .inr (0, [.long a])) (ch : Int32) (sz : Nat) : zMW l yX0_takeCharge cX0_takeCharge 4 ((some .long)) 2 (48) 0 0 D ks sz [.ref (ad r), .int ch] (zP D Rs ad g) (some (.long (fChg a (Int32.toInt64 ch)))) (zP D Rs ad (va_up g r (.inr (0, [.long (a - fChg a (Int32.toInt64 ch))])))) (zA Rs ad sz) := by
  refine zMW.of (by decide +kernel) (Nat.le_of_ble_eq_true rfl) ?_
  intro p e s m below meth c ls hx hb hr hml hown hlk hT hsz hP hK hl hin
  have hl : lv_has ls 4 [(0, .ref (ad r)), (1, .int ch)] := hl
  subst hsz
  have hD := hD0.self (sz := s.heap.size)
  have hA : ∀ q : Nat, s.heap.size ≤ q → zA Rs ad s.heap.size q := fun q h => Or.inr h
  have hS : va_S (zA Rs ad s.heap.size) s.heap s.heap [] := va_S.rf
  refine lv_aload_n hx hb dX0_takeCharge_0 rfl (lv_at hl 0 rfl) ?_
  refine gf_X0_7 hx hb hT hown hK (hP.at hr1 he) rfl dX0_takeCharge_1 ?_
  refine lv_lconst (v := 0) hx hb dX0_takeCharge_4 (by decide) ?_
  refine z_lcmp_le (tgt := 21) hx hb dX0_takeCharge_5 dX0_takeCharge_6 (by decide) (fun c_1 => ?_) (fun c_1 => ?_)
  · refine lv_lconst (v := 0) hx hb dX0_takeCharge_21 (by decide) ?_
    refine lv_lstore_n (lv' := [(2, .long 0), (0, .ref (ad r)), (1, .int ch)]) hx hb dX0_takeCharge_22 rfl hl (by decide) rfl (fun ls hl => ?_)
    refine lv_aload_n hx hb dX0_takeCharge_23 rfl (lv_at hl 1 rfl) ?_
    refine lv_dup hx hb dX0_takeCharge_24 rfl ?_
    refine gf_X0_7 hx hb hT hown hK (hP.at hr1 he) rfl dX0_takeCharge_25 ?_
    refine lv_lload_n hx hb dX0_takeCharge_28 rfl (lv_at hl 0 rfl) ?_
    refine lv_lsub hx hb dX0_takeCharge_29 ?_
    refine pg_X0_7 hx hb hT hown hK hP hD hS hr1 (v := a - 0) he (Nat.le_of_ble_eq_true rfl) dX0_takeCharge_30 (fun H locs hP hS => ?_)
    refine lv_lload_n hx hb dX0_takeCharge_33 rfl (lv_at hl 0 rfl) ?_
    exact zW_l hx hb hr hlk hS (Nat.le_of_ble_eq_true rfl) (Nat.le_of_ble_eq_true rfl) dX0_takeCharge_34 ((if_neg c_1).symm) (by rw [show fChg a (Int32.toInt64 ch) = _ from if_neg c_1]; exact hP)
  · refine lv_aload_n hx hb dX0_takeCharge_9 rfl (lv_at hl 0 rfl) ?_
    refine gf_X0_7 hx hb hT hown hK (hP.at hr1 he) rfl dX0_takeCharge_10 ?_
    refine lv_iload_n hx hb dX0_takeCharge_13 rfl (lv_at hl 1 rfl) ?_
    refine lv_i2l hx hb dX0_takeCharge_14 rfl ?_
    refine z_backR1 (z_runSN ⟨hx, hb, hml, hown, hT⟩ hK (rest := []) (As := [.long a, .long (Int32.toInt64 ch)]) (c_X3_thousandths l D ks a (Int32.toInt64 ch) ) k_X0_13 (z_preR hK trivial) rfl ⟨Nat.le_of_ble_eq_true rfl, Nat.le_of_ble_eq_true rfl⟩ hl.1 rfl (Nat.le_of_ble_eq_true rfl) dX0_takeCharge_15 ⟨Nat.le_of_ble_eq_true rfl, Nat.le_of_ble_eq_true rfl⟩) ?_
    refine lv_goto (tgt := 22) hx hb dX0_takeCharge_18 (by decide) ?_
    refine lv_lstore_n (lv' := [(2, .long (fThou a (Int32.toInt64 ch))), (0, .ref (ad r)), (1, .int ch)]) hx hb dX0_takeCharge_22 rfl hl (by decide) rfl (fun ls hl => ?_)
    refine lv_aload_n hx hb dX0_takeCharge_23 rfl (lv_at hl 1 rfl) ?_
    refine lv_dup hx hb dX0_takeCharge_24 rfl ?_
    refine gf_X0_7 hx hb hT hown hK (hP.at hr1 he) rfl dX0_takeCharge_25 ?_
    refine lv_lload_n hx hb dX0_takeCharge_28 rfl (lv_at hl 0 rfl) ?_
    refine lv_lsub hx hb dX0_takeCharge_29 ?_
    refine pg_X0_7 hx hb hT hown hK hP hD hS hr1 (v := a - (fThou a (Int32.toInt64 ch))) he (Nat.le_of_ble_eq_true rfl) dX0_takeCharge_30 (fun H locs hP hS => ?_)
    refine lv_lload_n hx hb dX0_takeCharge_33 rfl (lv_at hl 0 rfl) ?_
    exact zW_l hx hb hr hlk hS (Nat.le_of_ble_eq_true rfl) (Nat.le_of_ble_eq_true rfl) dX0_takeCharge_34 ((if_pos c_1).symm) (by rw [show fChg a (Int32.toInt64 ch) = _ from if_pos c_1]; exact hP)
set_option maxHeartbeats 4000000 in
set_option maxRecDepth 100000 in
theorem c_X1_release (l : Launch) (hD0 : zD (fun _ => True) Rs ad) (hI : zIn Rs np ng) (i : Nat) (p0 : Int32) (hi : i < ng) (sz : Nat) : zMW l yX1_release cX1_release 4 ((some .long)) 2 (44) 0 0 D ks sz [.ref (ad (20 + 4 * i)), .int p0] (zP D Rs ad (gS ks ad np ng G MI MJ XI XJ)) (some (.long (fRel (XJ 8 i) p0 (XJ 7 i)))) (zP D Rs ad (gS ks ad np ng G MI MJ XI (u2 (u2 XJ 7 i ((XJ 7 i) - Int32.toInt64 p0)) 8 i ((XJ 8 i) - fRel (XJ 8 i) p0 (XJ 7 i))))) (zA Rs ad sz) := by
  refine zMW.of (by decide +kernel) (Nat.le_of_ble_eq_true rfl) ?_
  intro p e s m below meth c ls hx hb hr hml hown hlk hT hsz hP hK hl hin
  have hl : lv_has ls 4 [(0, .ref (ad (20 + 4 * i))), (1, .int p0)] := hl
  subst hsz
  have hD := hD0.self (sz := s.heap.size)
  have hA : ∀ q : Nat, s.heap.size ≤ q → zA Rs ad s.heap.size q := fun q h => Or.inr h
  have hS : va_S (zA Rs ad s.heap.size) s.heap s.heap [] := va_S.rf
  refine lv_aload_n hx hb dX1_release_0 rfl (lv_at hl 0 rfl) ?_
  refine lv_iload_n hx hb dX1_release_1 rfl (lv_at hl 1 rfl) ?_
  refine z_backR1 (z_runV ⟨hx, hb, hml, hown, hT⟩ (rest := []) (As := [.int p0]) (c_X1_shareFor (MI := MI) (MJ := MJ) (XI := XI) (XJ := XJ) l hI i p0 (hi)) k_X1_36 (z_preRV hK hP (hP.at (hI.2.1 i hi).1 gS_0) rfl) rfl ⟨Nat.le_of_ble_eq_true rfl, Nat.le_of_ble_eq_true rfl⟩ hl.1 rfl (Nat.le_of_ble_eq_true rfl) dX1_release_2 ⟨Nat.le_of_ble_eq_true rfl, Nat.le_of_ble_eq_true rfl⟩) ?_
  refine lv_lstore_n (lv' := [(2, .long (fShare (XJ 8 i) p0 (XJ 7 i))), (0, .ref (ad (20 + 4 * i))), (1, .int p0)]) hx hb dX1_release_5 rfl hl (by decide) rfl (fun ls hl => ?_)
  refine lv_aload_n hx hb dX1_release_6 rfl (lv_at hl 1 rfl) ?_
  refine lv_dup hx hb dX1_release_7 rfl ?_
  refine gf_X1_27 hx hb hT hown hK (hP.at (hI.2.1 i hi).1 gS_0) rfl dX1_release_8 ?_
  refine lv_iload_n hx hb dX1_release_11 rfl (lv_at hl 2 rfl) ?_
  refine lv_i2l hx hb dX1_release_12 rfl ?_
  refine lv_lsub hx hb dX1_release_13 ?_
  refine pf_X1_27 hx hb hT hown hK hP hD hS (hI.2.1 i hi).1 (v := (XJ 7 i) - (Int32.toInt64 p0)) dX1_release_14 (fun H locs hP hS => ?_)
  refine lv_aload_n hx hb dX1_release_17 rfl (lv_at hl 1 rfl) ?_
  refine gf_X1_27 hx hb hT hown hK (v := .long ((XJ 7 i) - (Int32.toInt64 p0))) (hP.at (hI.2.1 i hi).1 gS_0) (congrArg (fun z => some (Value.long z)) (u2_s (F := XJ) (k := 7) (i := i) (v := (XJ 7 i) - (Int32.toInt64 p0)))) dX1_release_18 ?_
  refine lv_lconst (v := 0) hx hb dX1_release_21 (by decide) ?_
  refine z_lcmp_gt (tgt := 34) hx hb dX1_release_22 dX1_release_23 (by decide) (fun c_1 => ?_) (fun c_1 => ?_)
  · refine lv_aload_n hx hb dX1_release_34 rfl (lv_at hl 1 rfl) ?_
    refine gf_X1_19 hx hb hT hown hK (v := .ref (ad (21 + 4 * i))) (hP.at (hI.2.1 i hi).1 gS_0) rfl dX1_release_35 ?_
    refine lv_dup hx hb dX1_release_38 rfl ?_
    refine gf_X1_23 hx hb hT hown hK (v := .long (XJ 8 i)) (hP.at (hI.2.1 i hi).2 gS_1) rfl dX1_release_39 ?_
    refine lv_lload_n hx hb dX1_release_42 rfl (lv_at hl 0 rfl) ?_
    refine lv_lsub hx hb dX1_release_43 ?_
    refine pf_X1_23 hx hb hT hown hK hP hD hS (hI.2.1 i hi).2 (v := (XJ 8 i) - (fShare (XJ 8 i) p0 (XJ 7 i))) dX1_release_44 (fun H locs hP hS => ?_)
    refine lv_lload_n hx hb dX1_release_47 rfl (lv_at hl 0 rfl) ?_
    exact zW_l hx hb hr hlk hS (Nat.le_of_ble_eq_true rfl) (Nat.le_of_ble_eq_true rfl) dX1_release_48 (by exact (if_pos c_1).symm) (by rw [show fRel (XJ 8 i) p0 (XJ 7 i) = _ from if_pos c_1]; exact hP)
  · refine lv_aload_n hx hb dX1_release_26 rfl (lv_at hl 1 rfl) ?_
    refine gf_X1_19 hx hb hT hown hK (v := .ref (ad (21 + 4 * i))) (hP.at (hI.2.1 i hi).1 gS_0) rfl dX1_release_27 ?_
    refine gf_X1_23 hx hb hT hown hK (v := .long (XJ 8 i)) (hP.at (hI.2.1 i hi).2 gS_1) rfl dX1_release_30 ?_
    refine lv_lstore_n (lv' := [(2, .long (XJ 8 i)), (0, .ref (ad (20 + 4 * i))), (1, .int p0)]) hx hb dX1_release_33 rfl hl (by decide) rfl (fun ls hl => ?_)
    refine lv_aload_n hx hb dX1_release_34 rfl (lv_at hl 1 rfl) ?_
    refine gf_X1_19 hx hb hT hown hK (v := .ref (ad (21 + 4 * i))) (hP.at (hI.2.1 i hi).1 gS_0) rfl dX1_release_35 ?_
    refine lv_dup hx hb dX1_release_38 rfl ?_
    refine gf_X1_23 hx hb hT hown hK (v := .long (XJ 8 i)) (hP.at (hI.2.1 i hi).2 gS_1) rfl dX1_release_39 ?_
    refine lv_lload_n hx hb dX1_release_42 rfl (lv_at hl 0 rfl) ?_
    refine lv_lsub hx hb dX1_release_43 ?_
    refine pf_X1_23 hx hb hT hown hK hP hD hS (hI.2.1 i hi).2 (v := (XJ 8 i) - (XJ 8 i)) dX1_release_44 (fun H locs hP hS => ?_)
    refine lv_lload_n hx hb dX1_release_47 rfl (lv_at hl 0 rfl) ?_
    exact zW_l hx hb hr hlk hS (Nat.le_of_ble_eq_true rfl) (Nat.le_of_ble_eq_true rfl) dX1_release_48 (by exact (if_neg c_1).symm) (by rw [show fRel (XJ 8 i) p0 (XJ 7 i) = _ from if_neg c_1]; exact hP)
set_option maxHeartbeats 4000000 in
set_option maxRecDepth 100000 in
theorem c_X3_close (l : Launch) (hD0 : zD (fun _ => True) Rs ad) (hI : zIn Rs np ng) (j : Nat) (stt : Int32) (pay : Int64) (hj : j < np) (hG : G j < ng) (sz : Nat) : zMW l yX3_close cX3_close 5 ((none : Option FieldType)) 3 (67) 0 0 D ks sz [.ref (ad 13), .ref (ad (22 + 4 * j)), .int stt, .long pay] (zP D Rs ad (gS ks ad np ng G MI MJ XI XJ)) none (zP D Rs ad (gS ks ad np ng G MI MJ (u2 XI 15 j stt) (u2 (u2 (u2 (u2 (u2 XJ 7 (G j) ((XJ 7 (G j)) - Int32.toInt64 (XI 13 j))) 8 (G j) ((XJ 8 (G j)) - fRel (XJ 8 (G j)) (XI 13 j) (XJ 7 (G j)))) 4 0 ((XJ 4 0) + (fRel (XJ 8 (G j)) (XI 13 j) (XJ 7 (G j)) - pay))) 4 1 ((XJ 4 1) - pay)) 11 j pay))) (zA Rs ad sz) := by
  refine zMW.of (by decide +kernel) (Nat.le_of_ble_eq_true rfl) ?_
  intro p e s m below meth c ls hx hb hr hml hown hlk hT hsz hP hK hl hin
  have hl : lv_has ls 5 [(0, .ref (ad 13)), (1, .ref (ad (22 + 4 * j))), (2, .int stt), (3, .long pay)] := hl
  subst hsz
  have hD := hD0.self (sz := s.heap.size)
  have hA : ∀ q : Nat, s.heap.size ≤ q → zA Rs ad s.heap.size q := fun q h => Or.inr h
  have hS : va_S (zA Rs ad s.heap.size) s.heap s.heap [] := va_S.rf
  refine lv_aload_n hx hb dX3_close_0 rfl (lv_at hl 0 rfl) ?_
  refine lv_dup hx hb dX3_close_1 rfl ?_
  refine gf_X3_101 hx hb hT hown hK (hP.at (hI.1 13 (by decide)) rfl) rfl dX3_close_2 ?_
  refine lv_aload_n hx hb dX3_close_5 rfl (lv_at hl 1 rfl) ?_
  refine gf_X3_192 hx hb hT hown hK (hP.at (hI.2.2 j hj).1 gS_2) rfl dX3_close_6 ?_
  refine lv_aload_n hx hb dX3_close_9 rfl (lv_at hl 1 rfl) ?_
  refine gf_X3_218 hx hb hT hown hK (hP.at (hI.2.2 j hj).1 gS_2) rfl dX3_close_10 ?_
  refine z_backW1 (z_runVN ⟨hx, hb, hml, hown, hT⟩ hK (rest := [.long (XJ 4 0), .ref (ad 13)]) (As := [.int (XI 13 j)]) (c_X1_release (MI := MI) (MJ := MJ) (XI := XI) (XJ := XJ) l hD0 hI (G j) (XI 13 j) (hG) _) k_X3_239 (z_preWV hK hP (hP.at (hI.2.1 (G j) hG).1 gS_0) rfl) rfl ⟨Nat.le_of_ble_eq_true rfl, Nat.le_of_ble_eq_true rfl⟩ hl.1 rfl (Nat.le_of_ble_eq_true rfl) dX3_close_13 ⟨Nat.le_of_ble_eq_true rfl, Nat.le_of_ble_eq_true rfl⟩) hS (hD.free (fun q hq => hA q (Nat.le_trans hS.1 hq))) (fun H locs hP hz1 hk1 hS => ?_)
  have hP : zP D Rs ad (gS ks ad np ng G MI MJ XI (u2 (u2 XJ 7 (G j) ((XJ 7 (G j)) - Int32.toInt64 (XI 13 j))) 8 (G j) ((XJ 8 (G j)) - fRel (XJ 8 (G j)) (XI 13 j) (XJ 7 (G j))))) H := hP
  refine lv_lload_n hx hb dX3_close_16 rfl (lv_at hl 3 rfl) ?_
  refine lv_lsub hx hb dX3_close_17 ?_
  refine lv_ladd hx hb dX3_close_18 ?_
  refine lv_topl (fun v1 ev1 => ?_)
  refine pf_X3_101 hx hb hT hown hK hP hD hS (hI.1 13 (by decide)) (v := v1) dX3_close_19 (fun H locs hP hS => ?_)
  refine lv_aload_n hx hb dX3_close_22 rfl (lv_at hl 0 rfl) ?_
  refine lv_dup hx hb dX3_close_23 rfl ?_
  refine gf_X3_105 hx hb hT hown hK (v := .long (XJ 4 1)) (hP.at (hI.1 13 (by decide)) rfl) rfl dX3_close_24 ?_
  refine lv_lload_n hx hb dX3_close_27 rfl (lv_at hl 3 rfl) ?_
  refine lv_lsub hx hb dX3_close_28 ?_
  refine pf_X3_105 hx hb hT hown hK hP hD hS (hI.1 13 (by decide)) (v := (XJ 4 1) - pay) dX3_close_29 (fun H locs hP hS => ?_)
  refine lv_aload_n hx hb dX3_close_32 rfl (lv_at hl 1 rfl) ?_
  refine lv_iload_n hx hb dX3_close_33 rfl (lv_at hl 2 rfl) ?_
  refine pf_X3_133 hx hb hT hown hK hP hD hS (hI.2.2 j hj).1 (v := stt) dX3_close_34 (fun H locs hP hS => ?_)
  refine lv_aload_n hx hb dX3_close_37 rfl (lv_at hl 1 rfl) ?_
  refine lv_lload_n hx hb dX3_close_38 rfl (lv_at hl 3 rfl) ?_
  refine pf_X3_164 hx hb hT hown hK hP hD hS (hI.2.2 j hj).1 (v := pay) dX3_close_39 (fun H locs hP hS => ?_)
  exact zW_v hx hb hr hlk hS (Nat.le_of_ble_eq_true rfl) (Nat.le_of_ble_eq_true rfl) dX3_close_42 (by subst ev1; exact hP)
def isP (q : Int32) (np : Nat) : Int32 := fIn q 0 (nI np - 1)
def lvJ (z : Int64) (MJ : Nat → Nat → Int64) (h : Nat) (sh : Int64) (pay : Int32) : Nat → Nat → Int64 :=
  if z = 0 then u2 (u2 (u2 (u2 (u2 MJ 2 h (MJ 2 h - sh)) 0 0 (MJ 0 0 + (sh - Int32.toInt64 pay))) 0 1 (MJ 0 1 - Int32.toInt64 pay)) 0 0 (MJ 0 0 + (sh - Int32.toInt64 pay) + (MJ 2 h - sh))) 2 h 0
  else u2 (u2 (u2 MJ 2 h (MJ 2 h - sh)) 0 0 (MJ 0 0 + (sh - Int32.toInt64 pay))) 0 1 (MJ 0 1 - Int32.toInt64 pay)
end ZW1
end
section
/-! the reference: its calls but the year -/
section ZM2
variable {D : va_G} {ks : Nat → ClassId} {ad : Nat → Nat} {np ng : Nat} {G : Nat → Nat} {MI : Nat → Nat → Int32} {MJ : Nat → Nat → Int64} {XI : Nat → Nat → Int32} {XJ : Nat → Nat → Int64} {Rs : List Nat}
theorem isP_j {np j : Nat} {x : Int32} (hx : x = nI np) (hj : j < np) (hN : np ≤ 30) : fIn (nI j) 0 (x - 1) = 1 := by
  subst hx
  obtain ⟨k, rfl⟩ : ∃ k, np = k + 1 := ⟨np - 1, by omega⟩
  rw [nI_pred]
  exact if_pos ⟨nI_pos' (by omega), nI_le (by omega) (by omega)⟩
end ZM2
end
section
/-! the reference: the year and the sums -/
section ZM3
variable {D : va_G} {ks : Nat → ClassId} {ad : Nat → Nat} {np ng : Nat} {G : Nat → Nat} {MI : Nat → Nat → Int32} {MJ : Nat → Nat → Int64} {XI : Nat → Nat → Int32} {XJ : Nat → Nat → Int64} {Rs : List Nat}
theorem l_add {a b : Int64} (h1 : -(2 ^ 63) ≤ a.toInt + b.toInt) (h2 : a.toInt + b.toInt < 2 ^ 63) : (a + b).toInt = a.toInt + b.toInt := by
  rw [Int64.toInt_add]
  exact Int.bmod_eq_of_le (by omega) (by omega)
/-- the sum of premiums, as an integer -/
def iP (b t st pr : Nat → Int32) (y te : Int32) : Nat → Int
  | 0 => 0
  | k + 1 => iP b t st pr y te k + (if b k = y ∧ t k = te ∧ st k = 0 then (pr k).toInt else 0)
theorem mP_iP {b t st pr : Nat → Int32} {y te : Int32} : ∀ (n : Nat), n ≤ 30 → (∀ k, k < n → 1 ≤ (pr k).toInt ∧ (pr k).toInt ≤ 1000) → (mP b t st pr y te n).toInt = iP b t st pr y te n ∧ 0 ≤ iP b t st pr y te n ∧ iP b t st pr y te n ≤ 1000 * n := by
  intro n
  induction n with
  | zero => intro _ _; exact ⟨rfl, Int.le_refl _, Int.le_refl _⟩
  | succ n ih =>
    intro hn h
    obtain ⟨h1, h2, h3⟩ := ih (by omega) (fun k hk => h k (by omega))
    obtain ⟨h4, h5⟩ := h n (by omega)
    simp only [mP, iP]
    split
    · rw [l_add (by rw [Int32.toInt_toInt64]; omega) (by rw [Int32.toInt_toInt64]; omega), Int32.toInt_toInt64, h1]
      exact ⟨rfl, by omega, by omega⟩
    · rw [Int64.add_zero, h1]
      exact ⟨by omega, by omega, by omega⟩
theorem iP_in {b t st pr : Nat → Int32} {y te : Int32} : ∀ (n : Nat) (j : Nat), j < n → (∀ k, k < n → 1 ≤ (pr k).toInt ∧ (pr k).toInt ≤ 1000) → b j = y → t j = te → st j = 0 → (pr j).toInt ≤ iP b t st pr y te n := by
  intro n
  induction n with
  | zero => intro j h; exact absurd h (Nat.not_lt_zero _)
  | succ n ih =>
    intro j hj h hb ht hs
    have h4 := h n (by omega)
    simp only [iP]
    by_cases e : j = n
    · subst e
      rw [if_pos ⟨hb, ht, hs⟩]
      have : 0 ≤ iP b t st pr y te j := by
        clear ih hj
        have key : ∀ m, m ≤ j → 0 ≤ iP b t st pr y te m := by
          intro m
          induction m with
          | zero => intro _; exact Int.le_refl _
          | succ m ihm =>
            intro hm
            have := ihm (by omega)
            have h9 := h m (by omega)
            simp only [iP]
            split <;> omega
        exact key j (Nat.le_refl _)
      omega
    · have := ih j (by omega) (fun k hk => h k (by omega)) hb ht hs
      split <;> omega
def mOK (MI : Nat → Nat → Int32) (np : Nat) : Prop := MI 0 6 = nI np ∧ np ≤ 30 ∧ ∀ k, k < np → (2 ≤ (MI 2 k).toInt ∧ (MI 2 k).toInt ≤ 20) ∧ 1 ≤ (MI 3 k).toInt ∧ (MI 3 k).toInt ≤ 1000
theorem mOK.pr {MI : Nat → Nat → Int32} {np : Nat} (h : mOK MI np) : ∀ k, k < np → 1 ≤ (MI 3 k).toInt ∧ (MI 3 k).toInt ≤ 1000 := fun k hk => (h.2.2 k hk).2
theorem mOK.to {MI M : Nat → Nat → Int32} {np : Nat} (h : mOK MI np) (h0 : M 0 6 = MI 0 6) (h2 : M 2 = MI 2) (h3 : M 3 = MI 3) : mOK M np := by
  refine ⟨h0.trans h.1, h.2.1, ?_⟩
  rw [h2, h3]
  exact h.2.2
theorem mOK.pos {MI : Nat → Nat → Int32} {np j : Nat} (h : mOK MI np) (hj : j < np) (hs : MI 5 j = 0) : 1 ≤ (mPr MI np j).toInt := by
  obtain ⟨h1, h2, h3⟩ := mP_iP (b := MI 1) (t := MI 2) (st := MI 5) (pr := MI 3) (y := MI 1 j) (te := MI 2 j) np h.2.1 h.pr
  have := iP_in (b := MI 1) (t := MI 2) (st := MI 5) (pr := MI 3) (y := MI 1 j) (te := MI 2 j) np j hj h.pr rfl rfl hs
  have h5 := (h.pr j hj).1
  show 1 ≤ (mP (MI 1) (MI 2) (MI 5) (MI 3) (MI 1 j) (MI 2 j) np).toInt
  omega
theorem mOK.hd {MI : Nat → Nat → Int32} {np j : Nat} (h : mOK MI np) (hj : j < np) : MI 5 j = 0 → ¬ mPr MI np j = 0 := fun hs e => by
  have := h.pos hj hs
  rw [e] at this
  exact absurd this (by decide)
theorem mOK.ht {MI : Nat → Nat → Int32} {np j : Nat} (h : mOK MI np) (hj : j < np) : ¬ Int32.toInt64 (MI 2 j) = 0 := fun e => by
  have h1 := (h.2.2 j hj).1.1
  have h2 : (Int32.toInt64 (MI 2 j)).toInt = 0 := by rw [e]; rfl
  rw [Int32.toInt_toInt64] at h2
  omega
theorem l_mul {a b : Int64} (h1 : -(2 ^ 63) ≤ a.toInt * b.toInt) (h2 : a.toInt * b.toInt < 2 ^ 63) : (a * b).toInt = a.toInt * b.toInt := by
  rw [Int64.toInt_mul]
  exact Int.bmod_eq_of_le (by omega) (by omega)
theorem i_mulb {a b A B : Int} (h0 : 0 ≤ a) (h1 : a ≤ A) (h2 : 0 ≤ b) (h3 : b ≤ B) : 0 ≤ a * b ∧ a * b ≤ A * B := ⟨Int.mul_nonneg h0 h2, Int.le_trans (Int.mul_le_mul_of_nonneg_right h1 h2) (Int.mul_le_mul_of_nonneg_left h3 (Int.le_trans h0 h1))⟩
theorem mOK.all {MI : Nat → Nat → Int32} {np j : Nat} (h : mOK MI np) (hj : j < np) : (Int32.toInt64 (MI 2 j) * Int32.toInt64 (MI 3 j)).toInt = (MI 2 j).toInt * (MI 3 j).toInt ∧ 2 ≤ (MI 2 j).toInt * (MI 3 j).toInt ∧ (MI 2 j).toInt * (MI 3 j).toInt ≤ 20000 := by
  obtain ⟨⟨h1, h2⟩, h3, h4⟩ := h.2.2 j hj
  have h5 := i_mulb (a := (MI 2 j).toInt) (b := (MI 3 j).toInt) (A := 20) (B := 1000) (by omega) h2 (by omega) h4
  have h6 : 2 ≤ (MI 2 j).toInt * (MI 3 j).toInt := Int.le_trans (by omega : (2 : Int) ≤ 2 * (MI 3 j).toInt) (Int.mul_le_mul_of_nonneg_right h1 (by omega))
  refine ⟨?_, h6, h5.2⟩
  rw [l_mul, Int32.toInt_toInt64, Int32.toInt_toInt64]
  · rw [Int32.toInt_toInt64, Int32.toInt_toInt64]; omega
  · rw [Int32.toInt_toInt64, Int32.toInt_toInt64]; omega
theorem mOK.hall {MI : Nat → Nat → Int32} {np j : Nat} (h : mOK MI np) (hj : j < np) : ¬ Int32.toInt64 (MI 2 j) * Int32.toInt64 (MI 3 j) = 0 := fun e => by
  have h1 := h.all hj
  rw [e] at h1
  have h2 : (0 : Int64).toInt = 0 := rfl
  omega
theorem mOK.term {MI : Nat → Nat → Int32} {np j : Nat} (h : mOK MI np) (hj : j < np) : ∃ t, t < 21 ∧ MI 2 j = nI t := by
  obtain ⟨⟨h1, h2⟩, -⟩ := h.2.2 j hj
  refine ⟨(MI 2 j).toInt.toNat, by omega, ?_⟩
  apply Int32.toInt_inj.mp
  rw [nI_toInt (by omega)]
  omega
def mGrow1 (MI : Nat → Nat → Int32) (rt : Int32) (np k : Nat) (J : Nat → Nat → Int64) : Nat → Nat → Int64 :=
  if hm MI np k = k ∧ 0 < mPr MI np k then
    u2 (u2 (u2 (u2 J 2 k (J 2 k + (mPr MI np k + fPart (J 2 k + mPr MI np k) (Int32.toInt64 rt)))) 0 1 (J 0 1 + (mPr MI np k + fPart (J 2 k + mPr MI np k) (Int32.toInt64 rt)))) 2 k
      (J 2 k + (mPr MI np k + fPart (J 2 k + mPr MI np k) (Int32.toInt64 rt)) - fPart (J 2 k + (mPr MI np k + fPart (J 2 k + mPr MI np k) (Int32.toInt64 rt))) (Int32.toInt64 (MI 0 2)))) 0 0
      (J 0 0 + fPart (J 2 k + (mPr MI np k + fPart (J 2 k + mPr MI np k) (Int32.toInt64 rt))) (Int32.toInt64 (MI 0 2)))
  else J
def mGrow (MI : Nat → Nat → Int32) (rt : Int32) (np : Nat) : Nat → (Nat → Nat → Int64) → Nat → Nat → Int64
  | 0, J => J
  | k + 1, J => mGrow1 MI rt np k (mGrow MI rt np k J)
def mGr1I (k : Nat) (M : Nat → Nat → Int32) : Nat → Nat → Int32 := if M 5 k = 0 then u2 M 6 k (M 6 k + Int64.toInt32 (fPart (Int32.toInt64 (M 4 k + M 6 k)) (Int32.toInt64 (M 0 1)))) else M
def mGr1J (rt : Int32) (k : Nat) (M : Nat → Nat → Int32) (J : Nat → Nat → Int64) : Nat → Nat → Int64 := if M 5 k = 0 then u2 J 1 k (J 1 k + Int32.toInt64 (M 3 k) + fPart (J 1 k + Int32.toInt64 (M 3 k)) (Int32.toInt64 rt) - fPart (J 1 k + Int32.toInt64 (M 3 k) + fPart (J 1 k + Int32.toInt64 (M 3 k)) (Int32.toInt64 rt)) (Int32.toInt64 (M 0 2))) else J
def mGrI : Nat → (Nat → Nat → Int32) → Nat → Nat → Int32
  | 0, M => M
  | k + 1, M => mGr1I k (mGrI k M)
def mGrJ (rt : Int32) : Nat → (Nat → Nat → Int32) → (Nat → Nat → Int64) → Nat → Nat → Int64
  | 0, _, J => J
  | k + 1, M, J => mGr1J rt k (mGrI k M) (mGrJ rt k M J)
theorem mGrI_k {a : Nat} (h : a ≠ 6) : ∀ (n : Nat) (M : Nat → Nat → Int32), mGrI n M a = M a := by
  intro n
  induction n with
  | zero => intro M; rfl
  | succ n ih =>
    intro M
    simp only [mGrI, mGr1I]
    split
    · rw [u2_k h, ih]
    · exact ih M
/-- the ratio of a policy that matures -/
def fClamp (r la m : Int64) : Int64 := if r < la - m then la - m else if la + m < r then la + m else r
def mRat (MI : Nat → Nat → Int32) (MJ : Nat → Nat → Int64) (np j t : Nat) : Int64 :=
  if MI 8 t ≤ 0 then fPart (mShare MI MJ np j) (Int32.toInt64 (MI 0 3)) * 1000 / (Int32.toInt64 (nI t) * Int32.toInt64 (MI 3 j))
  else fClamp (fPart (mShare MI MJ np j) (Int32.toInt64 (MI 0 3)) * 1000 / (Int32.toInt64 (nI t) * Int32.toInt64 (MI 3 j))) (Int32.toInt64 (MI 8 t) - 1) (fPart (Int32.toInt64 (MI 8 t) - 1) (Int32.toInt64 (MI 0 4)))
def mPay (MI : Nat → Nat → Int32) (MJ : Nat → Nat → Int64) (np j t : Nat) : Int32 := Int64.toInt32 (fMore (fPart (Int32.toInt64 (nI t) * Int32.toInt64 (MI 3 j)) (mRat MI MJ np j t)) (Int32.toInt64 (MI 4 j) + Int32.toInt64 (MI 6 j)))
def mMatI (np j t : Nat) (M : Nat → Nat → Int32) (J : Nat → Nat → Int64) : Nat → Nat → Int32 := u2 (u2 (u2 M 9 t (Int64.toInt32 (mRat M J np j t) + 1)) 5 j 1) 7 j (mPay M J np j t)
def mMatJ (np j t : Nat) (M : Nat → Nat → Int32) (J : Nat → Nat → Int64) : Nat → Nat → Int64 := lvJ (mPr (mMatI np j t M J) np j) J (hm M np j) (mShare M J np j) (mPay M J np j t)
end ZM3
end
section
/-! the reference: a year run, sums over all -/
section ZM4
variable {D : va_G} {ks : Nat → ClassId} {ad : Nat → Nat} {np ng : Nat} {G : Nat → Nat} {MI : Nat → Nat → Int32} {MJ : Nat → Nat → Int64} {XI : Nat → Nat → Int32} {XJ : Nat → Nat → Int64} {Rs : List Nat}
theorem mOK.tn {MI : Nat → Nat → Int32} {np j : Nat} (h : mOK MI np) (hj : j < np) : MI 2 j = nI (MI 2 j).toInt.toNat ∧ (MI 2 j).toInt.toNat < 21 := by
  obtain ⟨⟨h1, h2⟩, -⟩ := h.2.2 j hj
  refine ⟨?_, by omega⟩
  apply Int32.toInt_inj.mp
  rw [nI_toInt (by omega)]
  omega
def mCpy (a b : Nat) : Nat → (Nat → Nat → Int32) → Nat → Nat → Int32
  | 0, M => M
  | t + 1, M => u2 (mCpy a b t M) a t (mCpy a b t M b t)
theorem mCpy_k {a b c : Nat} (h : c ≠ a) : ∀ (n : Nat) (M : Nat → Nat → Int32), mCpy a b n M c = M c := by
  intro n
  induction n with
  | zero => intro M; rfl
  | succ n ih => intro M; simp only [mCpy]; rw [u2_k h]; exact ih M
abbrev mST : Type := (Nat → Nat → Int32) × (Nat → Nat → Int64)
def mDue (M : Nat → Nat → Int32) (k : Nat) : Prop := M 5 k = 0 ∧ M 0 0 - M 1 k + 1 = M 2 k
abbrev mTn (M : Nat → Nat → Int32) (k : Nat) : Nat := (M 2 k).toInt.toNat
def mMtS (np : Nat) : Nat → mST → mST
  | 0, S => S
  | k + 1, S => if (mMtS np k S).1 5 k = 0 ∧ (mMtS np k S).1 0 0 - (mMtS np k S).1 1 k + 1 = (mMtS np k S).1 2 k then
      (mMatI np k (mTn (mMtS np k S).1 k) (mMtS np k S).1 (mMtS np k S).2, mMatJ np k (mTn (mMtS np k S).1 k) (mMtS np k S).1 (mMtS np k S).2) else mMtS np k S
def mMtN (np : Nat) : Nat → mST → Nat
  | 0, _ => 0
  | k + 1, S => mMtN np k S + (if (mMtS np k S).1 5 k = 0 ∧ (mMtS np k S).1 0 0 - (mMtS np k S).1 1 k + 1 = (mMtS np k S).1 2 k then 1 else 0)
theorem mMtS_k {np a : Nat} (h5 : a ≠ 5) (h7 : a ≠ 7) (h9 : a ≠ 9) : ∀ (n : Nat) (S : mST), (mMtS np n S).1 a = S.1 a := by
  intro n
  induction n with
  | zero => intro S; rfl
  | succ n ih =>
    intro S
    simp only [mMtS]
    split
    · show mMatI _ _ _ _ _ a = _
      unfold mMatI
      rw [u2_k h7, u2_k h5, u2_k h9]
      exact ih S
    · exact ih S
def mS0 (MI : Nat → Nat → Int32) (MJ : Nat → Nat → Int64) (rt : Int32) (np : Nat) : mST :=
  (mCpy 9 8 21 (mGrI np (u2 MI 0 7 0)), mGrJ rt np (u2 MI 0 7 0) (u2 (u2 (mGrow (u2 MI 0 7 0) rt np np MJ) 0 0 (mGrow (u2 MI 0 7 0) rt np np MJ 0 0 + fPart (MJ 0 0) (Int32.toInt64 rt))) 0 1 (mGrow (u2 MI 0 7 0) rt np np MJ 0 1 + fPart (MJ 0 0) (Int32.toInt64 rt))))
def mRunI (MI : Nat → Nat → Int32) (MJ : Nat → Nat → Int64) (rt : Int32) (np : Nat) : Nat → Nat → Int32 := u2 (mCpy 8 9 21 (mMtS np np (mS0 MI MJ rt np)).1) 0 0 (mCpy 8 9 21 (mMtS np np (mS0 MI MJ rt np)).1 0 0 + 1)
def mRunJ (MI : Nat → Nat → Int32) (MJ : Nat → Nat → Int64) (rt : Int32) (np : Nat) : Nat → Nat → Int64 := (mMtS np np (mS0 MI MJ rt np)).2
def mSf1 (M : Nat → Nat → Int32) (J : Nat → Nat → Int64) (np k : Nat) : Int64 := if M 5 k = 0 then Int32.toInt64 (M 4 k + M 6 k) - mShare M J np k else 0
def mSf (M : Nat → Nat → Int32) (J : Nat → Nat → Int64) (np : Nat) : Nat → Int64
  | 0 => 0
  | k + 1 => mSf M J np k + (if 0 < mSf1 M J np k then mSf1 M J np k else 0)
def mSh (J : Nat → Nat → Int64) : Nat → Int64
  | 0 => J 0 0
  | k + 1 => mSh J k + J 2 k
end ZM4
end
section
/-! the office: a year -/
section ZX2
variable {D : va_G} {ks : Nat → ClassId} {ad : Nat → Nat} {np ng : Nat} {G : Nat → Nat} {MI : Nat → Nat → Int32} {MJ : Nat → Nat → Int64} {XI : Nat → Nat → Int32} {XJ : Nat → Nat → Int64} {Rs : List Nat}
theorem fRat_nI {f : Nat → Int64} {t : Nat} (h : t < 21) : fRat f (nI t) = f t := by
  unfold fRat
  rw [if_pos ⟨nI_pos' (by omega), nI_lt (b := 21) h (by decide)⟩, nI_clamp (by omega)]
def xGG1 (XI : Nat → Nat → Int32) (ng : Nat) (rt : Int32) (k : Nat) (J : Nat → Nat → Int64) : Nat → Nat → Int64 :=
  if k < ng ∧ 0 < J 7 k then
    u2 (u2 (u2 (u2 (u2 (u2 J 8 k (J 8 k + J 7 k)) 4 1 (J 4 1 + J 7 k)) 8 k (J 8 k + J 7 k + fThou (J 8 k + J 7 k) (Int32.toInt64 rt))) 4 1 (J 4 1 + J 7 k + fThou (J 8 k + J 7 k) (Int32.toInt64 rt)))
      8 k (J 8 k + J 7 k + fThou (J 8 k + J 7 k) (Int32.toInt64 rt) - fChg (J 8 k + J 7 k + fThou (J 8 k + J 7 k) (Int32.toInt64 rt)) (Int32.toInt64 (XI 10 4)))) 4 0 (J 4 0 + fChg (J 8 k + J 7 k + fThou (J 8 k + J 7 k) (Int32.toInt64 rt)) (Int32.toInt64 (XI 10 4)))
  else J
def xGG (XI : Nat → Nat → Int32) (ng : Nat) (rt : Int32) : Nat → (Nat → Nat → Int64) → Nat → Nat → Int64
  | 0, J => J
  | k + 1, J => xGG1 XI ng rt k (xGG XI ng rt k J)
def xPA1 (XI : Nat → Nat → Int32) (np : Nat) (rt : Int32) (k : Nat) (J : Nat → Nat → Int64) : Nat → Nat → Int64 :=
  if k < np ∧ XI 15 k = 0 then
    u2 (u2 (u2 J 9 k (J 9 k + Int32.toInt64 (XI 13 k))) 9 k (J 9 k + Int32.toInt64 (XI 13 k) + fThou (J 9 k + Int32.toInt64 (XI 13 k)) (Int32.toInt64 rt))) 9 k
      (J 9 k + Int32.toInt64 (XI 13 k) + fThou (J 9 k + Int32.toInt64 (XI 13 k)) (Int32.toInt64 rt) - fChg (J 9 k + Int32.toInt64 (XI 13 k) + fThou (J 9 k + Int32.toInt64 (XI 13 k)) (Int32.toInt64 rt)) (Int32.toInt64 (XI 10 4)))
  else J
def xPA (XI : Nat → Nat → Int32) (np : Nat) (rt : Int32) : Nat → (Nat → Nat → Int64) → Nat → Nat → Int64
  | 0, J => J
  | k + 1, J => xPA1 XI np rt k (xPA XI np rt k J)
def xGB1 (XI : Nat → Nat → Int32) (np : Nat) (k : Nat) (J : Nat → Nat → Int64) : Nat → Nat → Int64 :=
  if k < np ∧ XI 15 k = 0 then u2 J 10 k (J 10 k + fThou (Int32.toInt64 (XI 14 k) + J 10 k) (Int32.toInt64 (XI 10 3))) else J
def xGB (XI : Nat → Nat → Int32) (np : Nat) : Nat → (Nat → Nat → Int64) → Nat → Nat → Int64
  | 0, J => J
  | k + 1, J => xGB1 XI np k (xGB XI np k J)
def xCpy : Nat → (Nat → Nat → Int64) → Nat → Nat → Int64
  | 0, J => J
  | t + 1, J => u2 (xCpy t J) 6 t (xCpy t J 5 t)
def xRat (XI : Nat → Nat → Int32) (XJ : Nat → Nat → Int64) (G : Nat → Nat) (j t : Nat) : Int64 := fSmooth (fParted (fThou (fAsset (XI 15 j) (XJ 8 (G j)) (XI 13 j) (XJ 7 (G j))) (Int32.toInt64 (XI 10 5)) * 1000) (Int32.toInt64 (nI t) * Int32.toInt64 (XI 13 j))) (XJ 6 t) (XI 10 6)
def xPay (XI : Nat → Nat → Int32) (XJ : Nat → Nat → Int64) (G : Nat → Nat) (j t : Nat) : Int64 := fMax (fThou (Int32.toInt64 (nI t) * Int32.toInt64 (XI 13 j)) (xRat XI XJ G j t)) (Int32.toInt64 (XI 14 j) + XJ 10 j)
def xCloJ (XI : Nat → Nat → Int32) (G : Nat → Nat) (j : Nat) (pay : Int64) (J : Nat → Nat → Int64) : Nat → Nat → Int64 :=
  u2 (u2 (u2 (u2 (u2 J 7 (G j) (J 7 (G j) - Int32.toInt64 (XI 13 j))) 8 (G j) (J 8 (G j) - fRel (J 8 (G j)) (XI 13 j) (J 7 (G j)))) 4 0 (J 4 0 + (fRel (J 8 (G j)) (XI 13 j) (J 7 (G j)) - pay))) 4 1 (J 4 1 - pay)) 11 j pay
def xMatJ (XI : Nat → Nat → Int32) (G : Nat → Nat) (j t : Nat) (J : Nat → Nat → Int64) : Nat → Nat → Int64 := xCloJ XI G j (xPay XI J G j t) (u2 J 5 t (xRat XI J G j t))
abbrev xTn (XI : Nat → Nat → Int32) (G : Nat → Nat) (k : Nat) : Nat := (XI 12 (G k)).toInt.toNat
abbrev xST : Type := (Nat → Nat → Int32) × (Nat → Nat → Int64)
def xMtS (np : Nat) (G : Nat → Nat) : Nat → xST → xST
  | 0, S => S
  | k + 1, S => if k < np ∧ (xMtS np G k S).1 15 k = 0 ∧ (xMtS np G k S).1 12 (G k) ≤ (xMtS np G k S).1 10 2 - (xMtS np G k S).1 11 (G k) + 1 then
      (u2 (xMtS np G k S).1 15 k 1, xMatJ (xMtS np G k S).1 G k (xTn (xMtS np G k S).1 G k) (xMtS np G k S).2) else xMtS np G k S
def xMtN (np : Nat) (G : Nat → Nat) : Nat → xST → Nat
  | 0, _ => 0
  | k + 1, S => xMtN np G k S + (if k < np ∧ (xMtS np G k S).1 15 k = 0 ∧ (xMtS np G k S).1 12 (G k) ≤ (xMtS np G k S).1 10 2 - (xMtS np G k S).1 11 (G k) + 1 then 1 else 0)
theorem xMtS_k {np : Nat} {G : Nat → Nat} {a : Nat} (h : a ≠ 15) : ∀ (n : Nat) (S : xST), (xMtS np G n S).1 a = S.1 a := by
  intro n
  induction n with
  | zero => intro S; rfl
  | succ n ih =>
    intro S
    simp only [xMtS]
    split
    · show u2 _ 15 _ _ a = _
      rw [u2_k h]
      exact ih S
    · exact ih S
/-- what the office's year rests on -/
def xOK (XI : Nat → Nat → Int32) (G : Nat → Nat) (np ng : Nat) : Prop := np ≤ 30 ∧ ng ≤ 30 ∧ (∀ j, j < np → G j < ng) ∧ ∀ i, i < ng → 2 ≤ (XI 12 i).toInt ∧ (XI 12 i).toInt ≤ 20
theorem xOK.tn {XI : Nat → Nat → Int32} {G : Nat → Nat} {np ng j : Nat} (h : xOK XI G np ng) (hj : j < np) : XI 12 (G j) = nI (xTn XI G j) ∧ xTn XI G j < 21 := by
  obtain ⟨h1, h2⟩ := h.2.2.2 (G j) (h.2.2.1 j hj)
  refine ⟨?_, by show (XI 12 (G j)).toInt.toNat < 21; omega⟩
  apply Int32.toInt_inj.mp
  show _ = (nI (XI 12 (G j)).toInt.toNat).toInt
  rw [nI_toInt (by omega)]
  omega
theorem xOK.to {XI M : Nat → Nat → Int32} {G : Nat → Nat} {np ng : Nat} (h : xOK XI G np ng) (e : M 12 = XI 12) : xOK M G np ng := ⟨h.1, h.2.1, h.2.2.1, by rw [e]; exact h.2.2.2⟩
set_option maxHeartbeats 4000000 in
set_option maxRecDepth 100000 in
theorem c_X3_growGenerations (l : Launch) (hD0 : zD (fun _ => True) Rs ad) (hI : zIn Rs np ng) (rt : Int32) (hok : xOK XI G np ng) (sz : Nat) : zMW l yX3_growGenerations cX3_growGenerations 4 ((none : Option FieldType)) 3 (71) 0 0 D ks sz [.ref (ad 13), .int rt] (zP D Rs ad (gS ks ad np ng G MI MJ XI XJ)) none (zP D Rs ad (gS ks ad np ng G MI MJ XI (xGG XI ng rt 30 XJ))) (zA Rs ad sz) := by
  refine zMW.of (by decide +kernel) (Nat.le_of_ble_eq_true rfl) ?_
  intro p e s m below meth c ls hx hb hr hml hown hlk hT hsz hP hK hl hin
  have hl : lv_has ls 4 [(0, .ref (ad 13)), (1, .int rt)] := hl
  subst hsz
  have hD := hD0.self (sz := s.heap.size)
  have hA : ∀ q : Nat, s.heap.size ≤ q → zA Rs ad s.heap.size q := fun q h => Or.inr h
  have hS : va_S (zA Rs ad s.heap.size) s.heap s.heap [] := va_S.rf
  have L : ∀ (n k : Nat) (J1 : Nat → Nat → Int64) (H : Heap) (locs : List Loc) (ls : Array Slot), k + n = 30 → J1 = xGG XI ng rt k XJ → zP D Rs ad (gS ks ad np ng G MI MJ XI J1) H → va_S (zA Rs ad s.heap.size) s.heap H locs → lv_has ls 4 [(2, .int (nI k)), (0, .ref (ad 13)), (1, .int rt)] → W p l e (zRm 3 (71) 0 0) s m ([.ref (ad 13), .int rt] : List Value).toArray below meth c H locs 0 0 (MQ below (zQW none (zP D Rs ad (gS ks ad np ng G MI MJ XI (xGG XI ng rt 30 XJ))) (zA Rs ad s.heap.size)) ([.ref (ad 13), .int rt] : List Value).toArray s 0 0 (zA Rs ad s.heap.size)) (F0 m 2 ls []) := by
    intro n
    induction n with
    | zero =>
      intro k J1 H locs ls hkn hJ hP hS hl
      have hk0 : k = 30 := by omega
      subst hk0; subst hJ
      refine lv_iload_n hx hb dX3_growGenerations_2 rfl (lv_at hl 0 rfl) ?_
      refine lv_aload_n hx hb dX3_growGenerations_3 rfl (lv_at hl 1 rfl) ?_
      refine gf_X3_17 hx hb hT hown hK (hP.at (hI.1 13 (by decide)) rfl) rfl dX3_growGenerations_4 ?_
      refine z_glen hx hb hK (hP.at (hI.1 15 (by decide)) rfl) (v := 30) rfl dX3_growGenerations_7 ?_
      refine lv_icmp_ge (tgt := 103) hx hb dX3_growGenerations_8 (by decide) (fun c_1 => ?_) (fun c_1 => ?_)
      · exact zW_v hx hb hr hlk hS (Nat.le_of_ble_eq_true rfl) (Nat.le_of_ble_eq_true rfl) dX3_growGenerations_103 (hP)
      · exact absurd (nI_le (a := 30) (b := 30) (Nat.le_refl _) (by decide)) c_1
    | succ n ih =>
      intro k J1 H locs ls hkn hJ hP hS hl
      have hk : k < 30 := by omega
      refine lv_iload_n hx hb dX3_growGenerations_2 rfl (lv_at hl 0 rfl) ?_
      refine lv_aload_n hx hb dX3_growGenerations_3 rfl (lv_at hl 1 rfl) ?_
      refine gf_X3_17 hx hb hT hown hK (hP.at (hI.1 13 (by decide)) rfl) rfl dX3_growGenerations_4 ?_
      refine z_glen hx hb hK (hP.at (hI.1 15 (by decide)) rfl) (v := 30) rfl dX3_growGenerations_7 ?_
      refine lv_icmp_ge (tgt := 103) hx hb dX3_growGenerations_8 (by decide) (fun c_2 => ?_) (fun c_2 => ?_)
      · exact absurd c_2 (nI_ge (a := k) (b := 30) hk (by decide))
      · refine lv_aload_n hx hb dX3_growGenerations_11 rfl (lv_at hl 1 rfl) ?_
        refine gf_X3_17 hx hb hT hown hK (hP.at (hI.1 13 (by decide)) rfl) rfl dX3_growGenerations_12 ?_
        refine lv_iload_n hx hb dX3_growGenerations_15 rfl (lv_at hl 0 rfl) ?_
        refine z_galdN hx hb hK (hP.at (hI.1 15 (by decide)) rfl) (hk) (by decide) rfl dX3_growGenerations_16 ?_
        rcases Nat.lt_or_ge k ng with hg | hg
        · rw [show rGen ad ng k = some (ad (20 + 4 * k)) from if_pos hg]
          show W _ _ _ _ _ _ _ _ _ _ _ _ _ _ _ (F0 m 17 ls (.ref (ad (20 + 4 * k)) :: []))
          refine lv_astore_n (lv' := [(3, .ref (ad (20 + 4 * k))), (2, .int (nI k)), (0, .ref (ad 13)), (1, .int rt)]) hx hb dX3_growGenerations_17 rfl hl (by decide) rfl (fun ls hl => ?_)
          refine lv_aload_n hx hb dX3_growGenerations_18 rfl (lv_at hl 0 rfl) ?_
          refine lv_ifnull hx hb dX3_growGenerations_19 ?_
          refine lv_aload_n hx hb dX3_growGenerations_22 rfl (lv_at hl 0 rfl) ?_
          refine gf_X3_208 hx hb hT hown hK (hP.at (hI.2.1 k hg).1 gS_0) rfl dX3_growGenerations_23 ?_
          refine lv_lconst (v := 0) hx hb dX3_growGenerations_26 (by decide) ?_
          refine z_lcmp_le (tgt := 97) hx hb dX3_growGenerations_27 dX3_growGenerations_28 (by decide) (fun c_3 => ?_) (fun c_3 => ?_)
          · refine lv_iinc (v := nI (k + 1)) (lv' := [(2, .int (nI (k + 1))), (3, .ref (ad (20 + 4 * k))), (0, .ref (ad 13)), (1, .int rt)]) hx hb dX3_growGenerations_97 hl (k := 1) rfl (nI_1 k) (by decide) rfl (fun ls hl => ?_)
            refine lv_goto (tgt := 2) hx hb dX3_growGenerations_100 (by decide) ?_
            exact ih (k + 1) (J1) H locs _ (by omega) (by simp only [xGG]; rw [← hJ]; exact (if_neg (fun h => c_3 h.2)).symm) hP hS (lv_sub hl [0, 2, 3] rfl)
          · refine lv_aload_n hx hb dX3_growGenerations_31 rfl (lv_at hl 0 rfl) ?_
            refine gf_X3_161 hx hb hT hown hK (hP.at (hI.2.1 k hg).1 gS_0) rfl dX3_growGenerations_32 ?_
            refine lv_dup hx hb dX3_growGenerations_35 rfl ?_
            refine gf_X3_151 hx hb hT hown hK (hP.at (hI.2.1 k hg).2 gS_1) rfl dX3_growGenerations_36 ?_
            refine lv_aload_n hx hb dX3_growGenerations_39 rfl (lv_at hl 0 rfl) ?_
            refine gf_X3_208 hx hb hT hown hK (hP.at (hI.2.1 k hg).1 gS_0) rfl dX3_growGenerations_40 ?_
            refine lv_ladd hx hb dX3_growGenerations_43 ?_
            refine pf_X3_151 hx hb hT hown hK hP hD hS (hI.2.1 k hg).2 (v := (J1 8 k) + (J1 7 k)) dX3_growGenerations_44 (fun H locs hP hS => ?_)
            refine lv_aload_n hx hb dX3_growGenerations_47 rfl (lv_at hl 2 rfl) ?_
            refine lv_dup hx hb dX3_growGenerations_48 rfl ?_
            refine gf_X3_105 hx hb hT hown hK (v := .long (J1 4 1)) (hP.at (hI.1 13 (by decide)) rfl) rfl dX3_growGenerations_49 ?_
            refine lv_aload_n hx hb dX3_growGenerations_52 rfl (lv_at hl 0 rfl) ?_
            refine gf_X3_208 hx hb hT hown hK (v := .long (J1 7 k)) (hP.at (hI.2.1 k hg).1 gS_0) rfl dX3_growGenerations_53 ?_
            refine lv_ladd hx hb dX3_growGenerations_56 ?_
            refine pf_X3_105 hx hb hT hown hK hP hD hS (hI.1 13 (by decide)) (v := (J1 4 1) + (J1 7 k)) dX3_growGenerations_57 (fun H locs hP hS => ?_)
            refine lv_aload_n hx hb dX3_growGenerations_60 rfl (lv_at hl 2 rfl) ?_
            refine lv_dup hx hb dX3_growGenerations_61 rfl ?_
            refine gf_X3_105 hx hb hT hown hK (v := .long ((J1 4 1) + (J1 7 k))) (hP.at (hI.1 13 (by decide)) rfl) rfl dX3_growGenerations_62 ?_
            refine lv_aload_n hx hb dX3_growGenerations_65 rfl (lv_at hl 0 rfl) ?_
            refine gf_X3_161 hx hb hT hown hK (v := .ref (ad (21 + 4 * k))) (hP.at (hI.2.1 k hg).1 gS_0) rfl dX3_growGenerations_66 ?_
            refine lv_iload_n hx hb dX3_growGenerations_69 rfl (lv_at hl 3 rfl) ?_
            refine z_backW1 (z_runVN ⟨hx, hb, hml, hown, hT⟩ hK (rest := [.long ((J1 4 1) + (J1 7 k)), .ref (ad 13)]) (As := [.int rt]) (c_X0_earn (g := gS ks ad np ng G MI MJ XI (u2 (u2 J1 8 k ((J1 8 k) + (J1 7 k))) 4 1 ((J1 4 1) + (J1 7 k)))) l hD0 (21 + 4 * k) ((hI.2.1 k hg).2) ((J1 8 k) + (J1 7 k)) (gS_1.trans (congrArg (fun z : Int64 => (Sum.inr (0, [Value.long z]) : va_E)) (u2_s (F := J1) (k := 8) (i := k) (v := (J1 8 k) + (J1 7 k))))) rt _) k_X3_211 (z_preWV hK hP (hP.at (hI.2.1 k hg).2 gS_1) rfl) rfl ⟨Nat.le_of_ble_eq_true rfl, Nat.le_of_ble_eq_true rfl⟩ hl.1 rfl (Nat.le_of_ble_eq_true rfl) dX3_growGenerations_70 ⟨Nat.le_of_ble_eq_true rfl, Nat.le_of_ble_eq_true rfl⟩) hS (hD.free (fun q hq => hA q (Nat.le_trans hS.1 hq))) (fun H locs hP hz1 hk1 hS => ?_)
            have hP : zP D Rs ad (gS ks ad np ng G MI MJ XI (u2 (u2 (u2 J1 8 k ((J1 8 k) + (J1 7 k))) 4 1 ((J1 4 1) + (J1 7 k))) 8 k (((J1 8 k) + (J1 7 k)) + fThou ((J1 8 k) + (J1 7 k)) (Int32.toInt64 rt)))) H := by rw [← gu_gamt]; exact hP
            refine lv_ladd hx hb dX3_growGenerations_73 ?_
            refine lv_topl (fun v4 ev4 => ?_)
            refine pf_X3_105 hx hb hT hown hK hP hD hS (hI.1 13 (by decide)) (v := v4) dX3_growGenerations_74 (fun H locs hP hS => ?_)
            refine lv_aload_n hx hb dX3_growGenerations_77 rfl (lv_at hl 2 rfl) ?_
            refine lv_dup hx hb dX3_growGenerations_78 rfl ?_
            refine gf_X3_101 hx hb hT hown hK (v := .long (J1 4 0)) (hP.at (hI.1 13 (by decide)) rfl) rfl dX3_growGenerations_79 ?_
            refine lv_aload_n hx hb dX3_growGenerations_82 rfl (lv_at hl 0 rfl) ?_
            refine gf_X3_161 hx hb hT hown hK (v := .ref (ad (21 + 4 * k))) (hP.at (hI.2.1 k hg).1 gS_0) rfl dX3_growGenerations_83 ?_
            refine lv_aload_n hx hb dX3_growGenerations_86 rfl (lv_at hl 2 rfl) ?_
            refine gf_X3_34 hx hb hT hown hK (v := .int (XI 10 4)) (hP.at (hI.1 13 (by decide)) rfl) rfl dX3_growGenerations_87 ?_
            refine z_backW1 (z_runVN ⟨hx, hb, hml, hown, hT⟩ hK (rest := [.long (J1 4 0), .ref (ad 13)]) (As := [.int (XI 10 4)]) (c_X0_takeCharge (g := gS ks ad np ng G MI MJ XI (u2 (u2 (u2 (u2 J1 8 k ((J1 8 k) + (J1 7 k))) 4 1 ((J1 4 1) + (J1 7 k))) 8 k (((J1 8 k) + (J1 7 k)) + fThou ((J1 8 k) + (J1 7 k)) (Int32.toInt64 rt))) 4 1 v4)) l hD0 (21 + 4 * k) ((hI.2.1 k hg).2) (((J1 8 k) + (J1 7 k)) + fThou ((J1 8 k) + (J1 7 k)) (Int32.toInt64 rt)) (gS_1.trans (congrArg (fun z : Int64 => (Sum.inr (0, [Value.long z]) : va_E)) (u2_s (F := u2 (u2 J1 8 k ((J1 8 k) + (J1 7 k))) 4 1 ((J1 4 1) + (J1 7 k))) (k := 8) (i := k) (v := ((J1 8 k) + (J1 7 k)) + fThou ((J1 8 k) + (J1 7 k)) (Int32.toInt64 rt))))) (XI 10 4) _) k_X3_215 (z_preWV hK hP (hP.at (hI.2.1 k hg).2 gS_1) rfl) rfl ⟨Nat.le_of_ble_eq_true rfl, Nat.le_of_ble_eq_true rfl⟩ hl.1 rfl (Nat.le_of_ble_eq_true rfl) dX3_growGenerations_90 ⟨Nat.le_of_ble_eq_true rfl, Nat.le_of_ble_eq_true rfl⟩) hS (hD.free (fun q hq => hA q (Nat.le_trans hS.1 hq))) (fun H locs hP hz1 hk1 hS => ?_)
            have hP : zP D Rs ad (gS ks ad np ng G MI MJ XI (u2 (u2 (u2 (u2 (u2 J1 8 k ((J1 8 k) + (J1 7 k))) 4 1 ((J1 4 1) + (J1 7 k))) 8 k (((J1 8 k) + (J1 7 k)) + fThou ((J1 8 k) + (J1 7 k)) (Int32.toInt64 rt))) 4 1 v4) 8 k ((((J1 8 k) + (J1 7 k)) + fThou ((J1 8 k) + (J1 7 k)) (Int32.toInt64 rt)) - fChg (((J1 8 k) + (J1 7 k)) + fThou ((J1 8 k) + (J1 7 k)) (Int32.toInt64 rt)) (Int32.toInt64 (XI 10 4))))) H := by rw [← gu_gamt]; exact hP
            refine lv_ladd hx hb dX3_growGenerations_93 ?_
            refine lv_topl (fun v5 ev5 => ?_)
            refine pf_X3_101 hx hb hT hown hK hP hD hS (hI.1 13 (by decide)) (v := v5) dX3_growGenerations_94 (fun H locs hP hS => ?_)
            refine lv_iinc (v := nI (k + 1)) (lv' := [(2, .int (nI (k + 1))), (3, .ref (ad (20 + 4 * k))), (0, .ref (ad 13)), (1, .int rt)]) hx hb dX3_growGenerations_97 hl (k := 1) rfl (nI_1 k) (by decide) rfl (fun ls hl => ?_)
            refine lv_goto (tgt := 2) hx hb dX3_growGenerations_100 (by decide) ?_
            exact ih (k + 1) (u2 (u2 (u2 (u2 (u2 (u2 J1 8 k ((J1 8 k) + (J1 7 k))) 4 1 ((J1 4 1) + (J1 7 k))) 8 k (((J1 8 k) + (J1 7 k)) + fThou ((J1 8 k) + (J1 7 k)) (Int32.toInt64 rt))) 4 1 v4) 8 k ((((J1 8 k) + (J1 7 k)) + fThou ((J1 8 k) + (J1 7 k)) (Int32.toInt64 rt)) - fChg (((J1 8 k) + (J1 7 k)) + fThou ((J1 8 k) + (J1 7 k)) (Int32.toInt64 rt)) (Int32.toInt64 (XI 10 4)))) 4 0 v5) H locs _ (by omega) (by subst ev5 ev4; simp only [xGG]; rw [← hJ]; exact (if_pos ⟨hg, c_3⟩).symm) hP hS (lv_sub hl [0, 2, 3] rfl)
        · have hg : ¬ k < ng := Nat.not_lt.mpr hg
          rw [show rGen ad ng k = none from if_neg hg]
          show W _ _ _ _ _ _ _ _ _ _ _ _ _ _ _ (F0 m 17 ls (.null :: []))
          refine lv_astore_nN (lv' := [(3, .null), (2, .int (nI k)), (0, .ref (ad 13)), (1, .int rt)]) hx hb dX3_growGenerations_17 rfl hl (by decide) rfl (fun ls hl => ?_)
          refine lv_aload_nN hx hb dX3_growGenerations_18 rfl (lv_at hl 0 rfl) ?_
          refine lv_ifnullN (tgt := 97) hx hb dX3_growGenerations_19 (by decide) ?_
          refine lv_iinc (v := nI (k + 1)) (lv' := [(2, .int (nI (k + 1))), (3, .null), (0, .ref (ad 13)), (1, .int rt)]) hx hb dX3_growGenerations_97 hl (k := 1) rfl (nI_1 k) (by decide) rfl (fun ls hl => ?_)
          refine lv_goto (tgt := 2) hx hb dX3_growGenerations_100 (by decide) ?_
          exact ih (k + 1) (J1) H locs _ (by omega) (by simp only [xGG]; rw [← hJ]; exact (if_neg (fun h => hg h.1)).symm) hP hS (lv_sub hl [0, 2, 3] rfl)
  refine lv_iconst (v := 0) hx hb dX3_growGenerations_0 (by decide) ?_
  refine lv_istore_n (lv' := [(2, .int 0), (0, .ref (ad 13)), (1, .int rt)]) hx hb dX3_growGenerations_1 rfl hl (by decide) rfl (fun ls hl => ?_)
  have hl := (show lv_has ls 4 [(2, .int (nI 0)), (0, .ref (ad 13)), (1, .int rt)] from (lv_sub hl [0, 1, 2] rfl))
  exact L 30 0 XJ s.heap [] _ (by omega) rfl hP hS hl
set_option maxHeartbeats 4000000 in
set_option maxRecDepth 100000 in
theorem c_X3_growPoliciesAlone (l : Launch) (hD0 : zD (fun _ => True) Rs ad) (hI : zIn Rs np ng) (rt : Int32) (hok : xOK XI G np ng) (sz : Nat) : zMW l yX3_growPoliciesAlone cX3_growPoliciesAlone 4 ((none : Option FieldType)) 3 (71) 0 0 D ks sz [.ref (ad 13), .int rt] (zP D Rs ad (gS ks ad np ng G MI MJ XI XJ)) none (zP D Rs ad (gS ks ad np ng G MI MJ XI (xPA XI np rt 30 XJ))) (zA Rs ad sz) := by
  refine zMW.of (by decide +kernel) (Nat.le_of_ble_eq_true rfl) ?_
  intro p e s m below meth c ls hx hb hr hml hown hlk hT hsz hP hK hl hin
  have hl : lv_has ls 4 [(0, .ref (ad 13)), (1, .int rt)] := hl
  subst hsz
  have hD := hD0.self (sz := s.heap.size)
  have hA : ∀ q : Nat, s.heap.size ≤ q → zA Rs ad s.heap.size q := fun q h => Or.inr h
  have hS : va_S (zA Rs ad s.heap.size) s.heap s.heap [] := va_S.rf
  have L : ∀ (n k : Nat) (J1 : Nat → Nat → Int64) (H : Heap) (locs : List Loc) (ls : Array Slot), k + n = 30 → J1 = xPA XI np rt k XJ → zP D Rs ad (gS ks ad np ng G MI MJ XI J1) H → va_S (zA Rs ad s.heap.size) s.heap H locs → lv_has ls 4 [(2, .int (nI k)), (0, .ref (ad 13)), (1, .int rt)] → W p l e (zRm 3 (71) 0 0) s m ([.ref (ad 13), .int rt] : List Value).toArray below meth c H locs 0 0 (MQ below (zQW none (zP D Rs ad (gS ks ad np ng G MI MJ XI (xPA XI np rt 30 XJ))) (zA Rs ad s.heap.size)) ([.ref (ad 13), .int rt] : List Value).toArray s 0 0 (zA Rs ad s.heap.size)) (F0 m 2 ls []) := by
    intro n
    induction n with
    | zero =>
      intro k J1 H locs ls hkn hJ hP hS hl
      have hk0 : k = 30 := by omega
      subst hk0; subst hJ
      refine lv_iload_n hx hb dX3_growPoliciesAlone_2 rfl (lv_at hl 0 rfl) ?_
      refine lv_aload_n hx hb dX3_growPoliciesAlone_3 rfl (lv_at hl 1 rfl) ?_
      refine gf_X3_11 hx hb hT hown hK (hP.at (hI.1 13 (by decide)) rfl) rfl dX3_growPoliciesAlone_4 ?_
      refine z_plen hx hb hK (hP.at (hI.1 14 (by decide)) rfl) (v := 30) rfl dX3_growPoliciesAlone_7 ?_
      refine lv_icmp_ge (tgt := 73) hx hb dX3_growPoliciesAlone_8 (by decide) (fun c_1 => ?_) (fun c_1 => ?_)
      · exact zW_v hx hb hr hlk hS (Nat.le_of_ble_eq_true rfl) (Nat.le_of_ble_eq_true rfl) dX3_growPoliciesAlone_73 (hP)
      · exact absurd (nI_le (a := 30) (b := 30) (Nat.le_refl _) (by decide)) c_1
    | succ n ih =>
      intro k J1 H locs ls hkn hJ hP hS hl
      have hk : k < 30 := by omega
      refine lv_iload_n hx hb dX3_growPoliciesAlone_2 rfl (lv_at hl 0 rfl) ?_
      refine lv_aload_n hx hb dX3_growPoliciesAlone_3 rfl (lv_at hl 1 rfl) ?_
      refine gf_X3_11 hx hb hT hown hK (hP.at (hI.1 13 (by decide)) rfl) rfl dX3_growPoliciesAlone_4 ?_
      refine z_plen hx hb hK (hP.at (hI.1 14 (by decide)) rfl) (v := 30) rfl dX3_growPoliciesAlone_7 ?_
      refine lv_icmp_ge (tgt := 73) hx hb dX3_growPoliciesAlone_8 (by decide) (fun c_2 => ?_) (fun c_2 => ?_)
      · exact absurd c_2 (nI_ge (a := k) (b := 30) hk (by decide))
      · refine lv_aload_n hx hb dX3_growPoliciesAlone_11 rfl (lv_at hl 1 rfl) ?_
        refine gf_X3_11 hx hb hT hown hK (hP.at (hI.1 13 (by decide)) rfl) rfl dX3_growPoliciesAlone_12 ?_
        refine lv_iload_n hx hb dX3_growPoliciesAlone_15 rfl (lv_at hl 0 rfl) ?_
        refine z_paldN hx hb hK (hP.at (hI.1 14 (by decide)) rfl) (hk) (by decide) rfl dX3_growPoliciesAlone_16 ?_
        rcases Nat.lt_or_ge k np with hg | hg
        · rw [show rPol ad np k = some (ad (22 + 4 * k)) from if_pos hg]
          show W _ _ _ _ _ _ _ _ _ _ _ _ _ _ _ (F0 m 17 ls (.ref (ad (22 + 4 * k)) :: []))
          refine lv_astore_n (lv' := [(3, .ref (ad (22 + 4 * k))), (2, .int (nI k)), (0, .ref (ad 13)), (1, .int rt)]) hx hb dX3_growPoliciesAlone_17 rfl hl (by decide) rfl (fun ls hl => ?_)
          refine lv_aload_n hx hb dX3_growPoliciesAlone_18 rfl (lv_at hl 0 rfl) ?_
          refine lv_ifnull hx hb dX3_growPoliciesAlone_19 ?_
          refine lv_aload_n hx hb dX3_growPoliciesAlone_22 rfl (lv_at hl 0 rfl) ?_
          refine z_backR1 (z_runVN ⟨hx, hb, hml, hown, hT⟩ hK (rest := []) (As := []) (c_X2_isInForce (MI := MI) (MJ := MJ) (XI := XI) (XJ := J1) l hI k (hg)) k_X3_143 (z_preRV hK hP (hP.at (hI.2.2 k hg).1 gS_2) rfl) rfl ⟨Nat.le_of_ble_eq_true rfl, Nat.le_of_ble_eq_true rfl⟩ hl.1 rfl (Nat.le_of_ble_eq_true rfl) dX3_growPoliciesAlone_23 ⟨Nat.le_of_ble_eq_true rfl, Nat.le_of_ble_eq_true rfl⟩) ?_
          refine lv_if_eq (tgt := 67) hx hb dX3_growPoliciesAlone_26 (by decide) (fun c_3 => ?_) (fun c_3 => ?_)
          · refine lv_iinc (v := nI (k + 1)) (lv' := [(2, .int (nI (k + 1))), (3, .ref (ad (22 + 4 * k))), (0, .ref (ad 13)), (1, .int rt)]) hx hb dX3_growPoliciesAlone_67 hl (k := 1) rfl (nI_1 k) (by decide) rfl (fun ls hl => ?_)
            refine lv_goto (tgt := 2) hx hb dX3_growPoliciesAlone_70 (by decide) ?_
            exact ih (k + 1) (J1) H locs _ (by omega) (by simp only [xPA]; rw [← hJ]; exact (if_neg (fun h => absurd ((if_pos h.2).symm.trans c_3 : (1 : Int32) = 0) (by decide))).symm) hP hS (lv_sub hl [0, 2, 3] rfl)
          · refine lv_aload_n hx hb dX3_growPoliciesAlone_29 rfl (lv_at hl 0 rfl) ?_
            refine gf_X3_147 hx hb hT hown hK (hP.at (hI.2.2 k hg).1 gS_2) rfl dX3_growPoliciesAlone_30 ?_
            refine lv_dup hx hb dX3_growPoliciesAlone_33 rfl ?_
            refine gf_X3_151 hx hb hT hown hK (hP.at (hI.2.2 k hg).2 gS_3) rfl dX3_growPoliciesAlone_34 ?_
            refine lv_aload_n hx hb dX3_growPoliciesAlone_37 rfl (lv_at hl 0 rfl) ?_
            refine gf_X3_218 hx hb hT hown hK (hP.at (hI.2.2 k hg).1 gS_2) rfl dX3_growPoliciesAlone_38 ?_
            refine lv_i2l hx hb dX3_growPoliciesAlone_41 rfl ?_
            refine lv_ladd hx hb dX3_growPoliciesAlone_42 ?_
            refine pp_X3_151 hx hb hT hown hK hP hD hS (hI.2.2 k hg).2 (v := (J1 9 k) + (Int32.toInt64 (XI 13 k))) dX3_growPoliciesAlone_43 (fun H locs hP hS => ?_)
            refine lv_aload_n hx hb dX3_growPoliciesAlone_46 rfl (lv_at hl 0 rfl) ?_
            refine gf_X3_147 hx hb hT hown hK (v := .ref (ad (23 + 4 * k))) (hP.at (hI.2.2 k hg).1 gS_2) rfl dX3_growPoliciesAlone_47 ?_
            refine lv_iload_n hx hb dX3_growPoliciesAlone_50 rfl (lv_at hl 3 rfl) ?_
            refine z_backW1 (z_runVN ⟨hx, hb, hml, hown, hT⟩ hK (rest := []) (As := [.int rt]) (c_X0_earn (g := gS ks ad np ng G MI MJ XI (u2 J1 9 k ((J1 9 k) + (Int32.toInt64 (XI 13 k))))) l hD0 (23 + 4 * k) ((hI.2.2 k hg).2) ((J1 9 k) + (Int32.toInt64 (XI 13 k))) (gS_3.trans (congrArg (fun z : Int64 => (Sum.inr (0, [Value.long z]) : va_E)) (u2_s (F := J1) (k := 9) (i := k) (v := (J1 9 k) + (Int32.toInt64 (XI 13 k)))))) rt _) k_X3_211 (z_preWV hK hP (hP.at (hI.2.2 k hg).2 gS_3) rfl) rfl ⟨Nat.le_of_ble_eq_true rfl, Nat.le_of_ble_eq_true rfl⟩ hl.1 rfl (Nat.le_of_ble_eq_true rfl) dX3_growPoliciesAlone_51 ⟨Nat.le_of_ble_eq_true rfl, Nat.le_of_ble_eq_true rfl⟩) hS (hD.free (fun q hq => hA q (Nat.le_trans hS.1 hq))) (fun H locs hP hz1 hk1 hS => ?_)
            have hP : zP D Rs ad (gS ks ad np ng G MI MJ XI (u2 (u2 J1 9 k ((J1 9 k) + (Int32.toInt64 (XI 13 k)))) 9 k (((J1 9 k) + (Int32.toInt64 (XI 13 k))) + fThou ((J1 9 k) + (Int32.toInt64 (XI 13 k))) (Int32.toInt64 rt)))) H := by rw [← gu_pamt]; exact hP
            refine lv_pop2_2 hx hb dX3_growPoliciesAlone_54 rfl ?_
            refine lv_aload_n hx hb dX3_growPoliciesAlone_55 rfl (lv_at hl 0 rfl) ?_
            refine gf_X3_147 hx hb hT hown hK (v := .ref (ad (23 + 4 * k))) (hP.at (hI.2.2 k hg).1 gS_2) rfl dX3_growPoliciesAlone_56 ?_
            refine lv_aload_n hx hb dX3_growPoliciesAlone_59 rfl (lv_at hl 2 rfl) ?_
            refine gf_X3_34 hx hb hT hown hK (v := .int (XI 10 4)) (hP.at (hI.1 13 (by decide)) rfl) rfl dX3_growPoliciesAlone_60 ?_
            refine z_backW1 (z_runVN ⟨hx, hb, hml, hown, hT⟩ hK (rest := []) (As := [.int (XI 10 4)]) (c_X0_takeCharge (g := gS ks ad np ng G MI MJ XI (u2 (u2 J1 9 k ((J1 9 k) + (Int32.toInt64 (XI 13 k)))) 9 k (((J1 9 k) + (Int32.toInt64 (XI 13 k))) + fThou ((J1 9 k) + (Int32.toInt64 (XI 13 k))) (Int32.toInt64 rt)))) l hD0 (23 + 4 * k) ((hI.2.2 k hg).2) (((J1 9 k) + (Int32.toInt64 (XI 13 k))) + fThou ((J1 9 k) + (Int32.toInt64 (XI 13 k))) (Int32.toInt64 rt)) (gS_3.trans (congrArg (fun z : Int64 => (Sum.inr (0, [Value.long z]) : va_E)) (u2_s (F := u2 J1 9 k ((J1 9 k) + (Int32.toInt64 (XI 13 k)))) (k := 9) (i := k) (v := ((J1 9 k) + (Int32.toInt64 (XI 13 k))) + fThou ((J1 9 k) + (Int32.toInt64 (XI 13 k))) (Int32.toInt64 rt))))) (XI 10 4) _) k_X3_215 (z_preWV hK hP (hP.at (hI.2.2 k hg).2 gS_3) rfl) rfl ⟨Nat.le_of_ble_eq_true rfl, Nat.le_of_ble_eq_true rfl⟩ hl.1 rfl (Nat.le_of_ble_eq_true rfl) dX3_growPoliciesAlone_63 ⟨Nat.le_of_ble_eq_true rfl, Nat.le_of_ble_eq_true rfl⟩) hS (hD.free (fun q hq => hA q (Nat.le_trans hS.1 hq))) (fun H locs hP hz1 hk1 hS => ?_)
            have hP : zP D Rs ad (gS ks ad np ng G MI MJ XI (u2 (u2 (u2 J1 9 k ((J1 9 k) + (Int32.toInt64 (XI 13 k)))) 9 k (((J1 9 k) + (Int32.toInt64 (XI 13 k))) + fThou ((J1 9 k) + (Int32.toInt64 (XI 13 k))) (Int32.toInt64 rt))) 9 k ((((J1 9 k) + (Int32.toInt64 (XI 13 k))) + fThou ((J1 9 k) + (Int32.toInt64 (XI 13 k))) (Int32.toInt64 rt)) - fChg (((J1 9 k) + (Int32.toInt64 (XI 13 k))) + fThou ((J1 9 k) + (Int32.toInt64 (XI 13 k))) (Int32.toInt64 rt)) (Int32.toInt64 (XI 10 4))))) H := by rw [← gu_pamt]; exact hP
            refine lv_pop2_2 hx hb dX3_growPoliciesAlone_66 rfl ?_
            refine lv_iinc (v := nI (k + 1)) (lv' := [(2, .int (nI (k + 1))), (3, .ref (ad (22 + 4 * k))), (0, .ref (ad 13)), (1, .int rt)]) hx hb dX3_growPoliciesAlone_67 hl (k := 1) rfl (nI_1 k) (by decide) rfl (fun ls hl => ?_)
            refine lv_goto (tgt := 2) hx hb dX3_growPoliciesAlone_70 (by decide) ?_
            exact ih (k + 1) (u2 (u2 (u2 J1 9 k ((J1 9 k) + (Int32.toInt64 (XI 13 k)))) 9 k (((J1 9 k) + (Int32.toInt64 (XI 13 k))) + fThou ((J1 9 k) + (Int32.toInt64 (XI 13 k))) (Int32.toInt64 rt))) 9 k ((((J1 9 k) + (Int32.toInt64 (XI 13 k))) + fThou ((J1 9 k) + (Int32.toInt64 (XI 13 k))) (Int32.toInt64 rt)) - fChg (((J1 9 k) + (Int32.toInt64 (XI 13 k))) + fThou ((J1 9 k) + (Int32.toInt64 (XI 13 k))) (Int32.toInt64 rt)) (Int32.toInt64 (XI 10 4)))) H locs _ (by omega) (by simp only [xPA]; rw [← hJ]; exact (if_pos ⟨hg, Decidable.byContradiction fun h9 => c_3 (if_neg h9)⟩).symm) hP hS (lv_sub hl [0, 2, 3] rfl)
        · have hg : ¬ k < np := Nat.not_lt.mpr hg
          rw [show rPol ad np k = none from if_neg hg]
          show W _ _ _ _ _ _ _ _ _ _ _ _ _ _ _ (F0 m 17 ls (.null :: []))
          refine lv_astore_nN (lv' := [(3, .null), (2, .int (nI k)), (0, .ref (ad 13)), (1, .int rt)]) hx hb dX3_growPoliciesAlone_17 rfl hl (by decide) rfl (fun ls hl => ?_)
          refine lv_aload_nN hx hb dX3_growPoliciesAlone_18 rfl (lv_at hl 0 rfl) ?_
          refine lv_ifnullN (tgt := 67) hx hb dX3_growPoliciesAlone_19 (by decide) ?_
          refine lv_iinc (v := nI (k + 1)) (lv' := [(2, .int (nI (k + 1))), (3, .null), (0, .ref (ad 13)), (1, .int rt)]) hx hb dX3_growPoliciesAlone_67 hl (k := 1) rfl (nI_1 k) (by decide) rfl (fun ls hl => ?_)
          refine lv_goto (tgt := 2) hx hb dX3_growPoliciesAlone_70 (by decide) ?_
          exact ih (k + 1) (J1) H locs _ (by omega) (by simp only [xPA]; rw [← hJ]; exact (if_neg (fun h => hg h.1)).symm) hP hS (lv_sub hl [0, 2, 3] rfl)
  refine lv_iconst (v := 0) hx hb dX3_growPoliciesAlone_0 (by decide) ?_
  refine lv_istore_n (lv' := [(2, .int 0), (0, .ref (ad 13)), (1, .int rt)]) hx hb dX3_growPoliciesAlone_1 rfl hl (by decide) rfl (fun ls hl => ?_)
  have hl := (show lv_has ls 4 [(2, .int (nI 0)), (0, .ref (ad 13)), (1, .int rt)] from (lv_sub hl [0, 1, 2] rfl))
  exact L 30 0 XJ s.heap [] _ (by omega) rfl hP hS hl
set_option maxHeartbeats 4000000 in
set_option maxRecDepth 100000 in
theorem c_X3_giveBonuses (l : Launch) (hD0 : zD (fun _ => True) Rs ad) (hI : zIn Rs np ng) (hok : xOK XI G np ng) (sz : Nat) : zMW l yX3_giveBonuses cX3_giveBonuses 3 ((none : Option FieldType)) 2 (48) 0 0 D ks sz [.ref (ad 13)] (zP D Rs ad (gS ks ad np ng G MI MJ XI XJ)) none (zP D Rs ad (gS ks ad np ng G MI MJ XI (xGB XI np 30 XJ))) (zA Rs ad sz) := by
  refine zMW.of (by decide +kernel) (Nat.le_of_ble_eq_true rfl) ?_
  intro p e s m below meth c ls hx hb hr hml hown hlk hT hsz hP hK hl hin
  have hl : lv_has ls 3 [(0, .ref (ad 13))] := hl
  subst hsz
  have hD := hD0.self (sz := s.heap.size)
  have hA : ∀ q : Nat, s.heap.size ≤ q → zA Rs ad s.heap.size q := fun q h => Or.inr h
  have hS : va_S (zA Rs ad s.heap.size) s.heap s.heap [] := va_S.rf
  have L : ∀ (n k : Nat) (J1 : Nat → Nat → Int64) (H : Heap) (locs : List Loc) (ls : Array Slot), k + n = 30 → J1 = xGB XI np k XJ → zP D Rs ad (gS ks ad np ng G MI MJ XI J1) H → va_S (zA Rs ad s.heap.size) s.heap H locs → lv_has ls 3 [(1, .int (nI k)), (0, .ref (ad 13))] → W p l e (zRm 2 (48) 0 0) s m ([.ref (ad 13)] : List Value).toArray below meth c H locs 0 0 (MQ below (zQW none (zP D Rs ad (gS ks ad np ng G MI MJ XI (xGB XI np 30 XJ))) (zA Rs ad s.heap.size)) ([.ref (ad 13)] : List Value).toArray s 0 0 (zA Rs ad s.heap.size)) (F0 m 2 ls []) := by
    intro n
    induction n with
    | zero =>
      intro k J1 H locs ls hkn hJ hP hS hl
      have hk0 : k = 30 := by omega
      subst hk0; subst hJ
      refine lv_iload_n hx hb dX3_giveBonuses_2 rfl (lv_at hl 0 rfl) ?_
      refine lv_aload_n hx hb dX3_giveBonuses_3 rfl (lv_at hl 1 rfl) ?_
      refine gf_X3_11 hx hb hT hown hK (hP.at (hI.1 13 (by decide)) rfl) rfl dX3_giveBonuses_4 ?_
      refine z_plen hx hb hK (hP.at (hI.1 14 (by decide)) rfl) (v := 30) rfl dX3_giveBonuses_7 ?_
      refine lv_icmp_ge (tgt := 56) hx hb dX3_giveBonuses_8 (by decide) (fun c_1 => ?_) (fun c_1 => ?_)
      · exact zW_v hx hb hr hlk hS (Nat.le_of_ble_eq_true rfl) (Nat.le_of_ble_eq_true rfl) dX3_giveBonuses_56 (hP)
      · exact absurd (nI_le (a := 30) (b := 30) (Nat.le_refl _) (by decide)) c_1
    | succ n ih =>
      intro k J1 H locs ls hkn hJ hP hS hl
      have hk : k < 30 := by omega
      refine lv_iload_n hx hb dX3_giveBonuses_2 rfl (lv_at hl 0 rfl) ?_
      refine lv_aload_n hx hb dX3_giveBonuses_3 rfl (lv_at hl 1 rfl) ?_
      refine gf_X3_11 hx hb hT hown hK (hP.at (hI.1 13 (by decide)) rfl) rfl dX3_giveBonuses_4 ?_
      refine z_plen hx hb hK (hP.at (hI.1 14 (by decide)) rfl) (v := 30) rfl dX3_giveBonuses_7 ?_
      refine lv_icmp_ge (tgt := 56) hx hb dX3_giveBonuses_8 (by decide) (fun c_2 => ?_) (fun c_2 => ?_)
      · exact absurd c_2 (nI_ge (a := k) (b := 30) hk (by decide))
      · refine lv_aload_n hx hb dX3_giveBonuses_11 rfl (lv_at hl 1 rfl) ?_
        refine gf_X3_11 hx hb hT hown hK (hP.at (hI.1 13 (by decide)) rfl) rfl dX3_giveBonuses_12 ?_
        refine lv_iload_n hx hb dX3_giveBonuses_15 rfl (lv_at hl 0 rfl) ?_
        refine z_paldN hx hb hK (hP.at (hI.1 14 (by decide)) rfl) (hk) (by decide) rfl dX3_giveBonuses_16 ?_
        rcases Nat.lt_or_ge k np with hg | hg
        · rw [show rPol ad np k = some (ad (22 + 4 * k)) from if_pos hg]
          show W _ _ _ _ _ _ _ _ _ _ _ _ _ _ _ (F0 m 17 ls (.ref (ad (22 + 4 * k)) :: []))
          refine lv_astore_n (lv' := [(2, .ref (ad (22 + 4 * k))), (1, .int (nI k)), (0, .ref (ad 13))]) hx hb dX3_giveBonuses_17 rfl hl (by decide) rfl (fun ls hl => ?_)
          refine lv_aload_n hx hb dX3_giveBonuses_18 rfl (lv_at hl 0 rfl) ?_
          refine lv_ifnull hx hb dX3_giveBonuses_19 ?_
          refine lv_aload_n hx hb dX3_giveBonuses_22 rfl (lv_at hl 0 rfl) ?_
          refine z_backR1 (z_runVN ⟨hx, hb, hml, hown, hT⟩ hK (rest := []) (As := []) (c_X2_isInForce (MI := MI) (MJ := MJ) (XI := XI) (XJ := J1) l hI k (hg)) k_X3_143 (z_preRV hK hP (hP.at (hI.2.2 k hg).1 gS_2) rfl) rfl ⟨Nat.le_of_ble_eq_true rfl, Nat.le_of_ble_eq_true rfl⟩ hl.1 rfl (Nat.le_of_ble_eq_true rfl) dX3_giveBonuses_23 ⟨Nat.le_of_ble_eq_true rfl, Nat.le_of_ble_eq_true rfl⟩) ?_
          refine lv_if_eq (tgt := 50) hx hb dX3_giveBonuses_26 (by decide) (fun c_3 => ?_) (fun c_3 => ?_)
          · refine lv_iinc (v := nI (k + 1)) (lv' := [(1, .int (nI (k + 1))), (2, .ref (ad (22 + 4 * k))), (0, .ref (ad 13))]) hx hb dX3_giveBonuses_50 hl (k := 1) rfl (nI_1 k) (by decide) rfl (fun ls hl => ?_)
            refine lv_goto (tgt := 2) hx hb dX3_giveBonuses_53 (by decide) ?_
            exact ih (k + 1) (J1) H locs _ (by omega) (by simp only [xGB]; rw [← hJ]; exact (if_neg (fun h => absurd ((if_pos h.2).symm.trans c_3 : (1 : Int32) = 0) (by decide))).symm) hP hS (lv_sub hl [0, 2] rfl)
          · refine lv_aload_n hx hb dX3_giveBonuses_29 rfl (lv_at hl 0 rfl) ?_
            refine lv_dup hx hb dX3_giveBonuses_30 rfl ?_
            refine gf_X3_136 hx hb hT hown hK (hP.at (hI.2.2 k hg).1 gS_2) rfl dX3_giveBonuses_31 ?_
            refine lv_aload_n hx hb dX3_giveBonuses_34 rfl (lv_at hl 0 rfl) ?_
            refine z_backR1 (z_runVN ⟨hx, hb, hml, hown, hT⟩ hK (rest := [.long (J1 10 k), .ref (ad (22 + 4 * k))]) (As := []) (c_X2_guaranteed (MI := MI) (MJ := MJ) (XI := XI) (XJ := J1) l hI k (hg)) k_X3_173 (z_preRV hK hP (hP.at (hI.2.2 k hg).1 gS_2) rfl) rfl ⟨Nat.le_of_ble_eq_true rfl, Nat.le_of_ble_eq_true rfl⟩ hl.1 rfl (Nat.le_of_ble_eq_true rfl) dX3_giveBonuses_35 ⟨Nat.le_of_ble_eq_true rfl, Nat.le_of_ble_eq_true rfl⟩) ?_
            refine lv_aload_n hx hb dX3_giveBonuses_38 rfl (lv_at hl 2 rfl) ?_
            refine gf_X3_30 hx hb hT hown hK (hP.at (hI.1 13 (by decide)) rfl) rfl dX3_giveBonuses_39 ?_
            refine lv_i2l hx hb dX3_giveBonuses_42 rfl ?_
            refine z_backR1 (z_runS ⟨hx, hb, hml, hown, hT⟩ (rest := [.long (J1 10 k), .ref (ad (22 + 4 * k))]) (As := [.long (Int32.toInt64 (XI 14 k) + J1 10 k), .long (Int32.toInt64 (XI 10 3))]) (c_X3_thousandths l D ks (Int32.toInt64 (XI 14 k) + J1 10 k) (Int32.toInt64 (XI 10 3)) ) k_X3_115 (z_preR hK trivial) rfl ⟨Nat.le_of_ble_eq_true rfl, Nat.le_of_ble_eq_true rfl⟩ hl.1 rfl (Nat.le_of_ble_eq_true rfl) dX3_giveBonuses_43 ⟨Nat.le_of_ble_eq_true rfl, Nat.le_of_ble_eq_true rfl⟩) ?_
            refine lv_ladd hx hb dX3_giveBonuses_46 ?_
            refine lv_topl (fun v4 ev4 => ?_)
            refine pf_X3_136 hx hb hT hown hK hP hD hS (hI.2.2 k hg).1 (v := v4) dX3_giveBonuses_47 (fun H locs hP hS => ?_)
            refine lv_iinc (v := nI (k + 1)) (lv' := [(1, .int (nI (k + 1))), (2, .ref (ad (22 + 4 * k))), (0, .ref (ad 13))]) hx hb dX3_giveBonuses_50 hl (k := 1) rfl (nI_1 k) (by decide) rfl (fun ls hl => ?_)
            refine lv_goto (tgt := 2) hx hb dX3_giveBonuses_53 (by decide) ?_
            exact ih (k + 1) (u2 J1 10 k v4) H locs _ (by omega) (by subst ev4; simp only [xGB]; rw [← hJ]; exact (if_pos ⟨hg, Decidable.byContradiction fun h9 => c_3 (if_neg h9)⟩).symm) hP hS (lv_sub hl [0, 2] rfl)
        · have hg : ¬ k < np := Nat.not_lt.mpr hg
          rw [show rPol ad np k = none from if_neg hg]
          show W _ _ _ _ _ _ _ _ _ _ _ _ _ _ _ (F0 m 17 ls (.null :: []))
          refine lv_astore_nN (lv' := [(2, .null), (1, .int (nI k)), (0, .ref (ad 13))]) hx hb dX3_giveBonuses_17 rfl hl (by decide) rfl (fun ls hl => ?_)
          refine lv_aload_nN hx hb dX3_giveBonuses_18 rfl (lv_at hl 0 rfl) ?_
          refine lv_ifnullN (tgt := 50) hx hb dX3_giveBonuses_19 (by decide) ?_
          refine lv_iinc (v := nI (k + 1)) (lv' := [(1, .int (nI (k + 1))), (2, .null), (0, .ref (ad 13))]) hx hb dX3_giveBonuses_50 hl (k := 1) rfl (nI_1 k) (by decide) rfl (fun ls hl => ?_)
          refine lv_goto (tgt := 2) hx hb dX3_giveBonuses_53 (by decide) ?_
          exact ih (k + 1) (J1) H locs _ (by omega) (by simp only [xGB]; rw [← hJ]; exact (if_neg (fun h => hg h.1)).symm) hP hS (lv_sub hl [0, 2] rfl)
  refine lv_iconst (v := 0) hx hb dX3_giveBonuses_0 (by decide) ?_
  refine lv_istore_n (lv' := [(1, .int 0), (0, .ref (ad 13))]) hx hb dX3_giveBonuses_1 rfl hl (by decide) rfl (fun ls hl => ?_)
  have hl := (show lv_has ls 3 [(1, .int (nI 0)), (0, .ref (ad 13))] from (lv_sub hl [0, 1] rfl))
  exact L 30 0 XJ s.heap [] _ (by omega) rfl hP hS hl
set_option maxHeartbeats 4000000 in
set_option maxRecDepth 100000 in
theorem c_X3_mature (l : Launch) (hD0 : zD (fun _ => True) Rs ad) (hI : zIn Rs np ng) (j : Nat) (t : Nat) (hj : j < np) (hG : G j < ng) (ht : XI 12 (G j) = nI t) (ht21 : t < 21) (sz : Nat) : zMW l yX3_mature cX3_mature 11 ((none : Option FieldType)) 4 (91) 0 0 D ks sz [.ref (ad 13), .ref (ad (22 + 4 * j))] (zP D Rs ad (gS ks ad np ng G MI MJ XI XJ)) none (zP D Rs ad (gS ks ad np ng G MI MJ (u2 XI 15 j 1) (xMatJ XI G j t XJ))) (zA Rs ad sz) := by
  refine zMW.of (by decide +kernel) (Nat.le_of_ble_eq_true rfl) ?_
  intro p e s m below meth c ls hx hb hr hml hown hlk hT hsz hP hK hl hin
  have hl : lv_has ls 11 [(0, .ref (ad 13)), (1, .ref (ad (22 + 4 * j)))] := hl
  subst hsz
  have hD := hD0.self (sz := s.heap.size)
  have hA : ∀ q : Nat, s.heap.size ≤ q → zA Rs ad s.heap.size q := fun q h => Or.inr h
  have hS : va_S (zA Rs ad s.heap.size) s.heap s.heap [] := va_S.rf
  refine lv_aload_n hx hb dX3_mature_0 rfl (lv_at hl 1 rfl) ?_
  refine gf_X3_192 hx hb hT hown hK (hP.at (hI.2.2 j hj).1 gS_2) rfl dX3_mature_1 ?_
  refine gf_X3_199 hx hb hT hown hK (hP.at (hI.2.1 (G j) hG).1 gS_0) rfl dX3_mature_4 ?_
  rw [show XI 12 (G j) = nI t from ht]
  refine lv_istore_n (lv' := [(2, .int (nI t)), (0, .ref (ad 13)), (1, .ref (ad (22 + 4 * j)))]) hx hb dX3_mature_7 rfl hl (by decide) rfl (fun ls hl => ?_)
  refine lv_iload_n hx hb dX3_mature_8 rfl (lv_at hl 0 rfl) ?_
  refine lv_i2l hx hb dX3_mature_9 rfl ?_
  refine lv_aload_n hx hb dX3_mature_10 rfl (lv_at hl 2 rfl) ?_
  refine gf_X3_218 hx hb hT hown hK (hP.at (hI.2.2 j hj).1 gS_2) rfl dX3_mature_11 ?_
  refine lv_i2l hx hb dX3_mature_14 rfl ?_
  refine lv_lmul hx hb dX3_mature_15 ?_
  refine lv_lstore_n (lv' := [(3, .long ((Int32.toInt64 (nI t)) * (Int32.toInt64 (XI 13 j)))), (2, .int (nI t)), (0, .ref (ad 13)), (1, .ref (ad (22 + 4 * j)))]) hx hb dX3_mature_16 rfl hl (by decide) rfl (fun ls hl => ?_)
  refine lv_aload_n hx hb dX3_mature_17 rfl (lv_at hl 3 rfl) ?_
  refine z_backR1 (z_runVN ⟨hx, hb, hml, hown, hT⟩ hK (rest := []) (As := []) (c_X2_assetShare (MI := MI) (MJ := MJ) (XI := XI) (XJ := XJ) l hI j (hj) (hG)) k_X3_139 (z_preRV hK hP (hP.at (hI.2.2 j hj).1 gS_2) rfl) rfl ⟨Nat.le_of_ble_eq_true rfl, Nat.le_of_ble_eq_true rfl⟩ hl.1 rfl (Nat.le_of_ble_eq_true rfl) dX3_mature_18 ⟨Nat.le_of_ble_eq_true rfl, Nat.le_of_ble_eq_true rfl⟩) ?_
  refine lv_aload_n hx hb dX3_mature_21 rfl (lv_at hl 2 rfl) ?_
  refine gf_X3_37 hx hb hT hown hK (hP.at (hI.1 13 (by decide)) rfl) rfl dX3_mature_22 ?_
  refine lv_i2l hx hb dX3_mature_25 rfl ?_
  refine z_backR1 (z_runS ⟨hx, hb, hml, hown, hT⟩ (rest := []) (As := [.long (fAsset (XI 15 j) (XJ 8 (G j)) (XI 13 j) (XJ 7 (G j))), .long (Int32.toInt64 (XI 10 5))]) (c_X3_thousandths l D ks (fAsset (XI 15 j) (XJ 8 (G j)) (XI 13 j) (XJ 7 (G j))) (Int32.toInt64 (XI 10 5)) ) k_X3_115 (z_preR hK trivial) rfl ⟨Nat.le_of_ble_eq_true rfl, Nat.le_of_ble_eq_true rfl⟩ hl.1 rfl (Nat.le_of_ble_eq_true rfl) dX3_mature_26 ⟨Nat.le_of_ble_eq_true rfl, Nat.le_of_ble_eq_true rfl⟩) ?_
  refine lv_topl (fun v1 ev1 => ?_)
  refine lv_lstore (lv' := [(5, .long v1), (3, .long ((Int32.toInt64 (nI t)) * (Int32.toInt64 (XI 13 j)))), (2, .int (nI t)), (0, .ref (ad 13)), (1, .ref (ad (22 + 4 * j)))]) hx hb dX3_mature_29 hl (by decide) rfl (fun ls hl => ?_)
  refine lv_aload_n hx hb dX3_mature_31 rfl (lv_at hl 3 rfl) ?_
  refine lv_lload hx hb dX3_mature_32 (lv_at hl 0 rfl) ?_
  refine lv_ldc2 (v := 1000) hx hb hown (hT _ kl_X3_224) dX3_mature_34 ?_
  refine lv_lmul hx hb dX3_mature_37 ?_
  refine lv_lload_n hx hb dX3_mature_38 rfl (lv_at hl 1 rfl) ?_
  refine z_backR1 (z_runS ⟨hx, hb, hml, hown, hT⟩ (rest := [.ref (ad 13)]) (As := [.long (v1 * 1000), .long ((Int32.toInt64 (nI t)) * (Int32.toInt64 (XI 13 j)))]) (c_X3_parted l D ks (v1 * 1000) ((Int32.toInt64 (nI t)) * (Int32.toInt64 (XI 13 j))) ) k_X3_226 (z_preR hK trivial) rfl ⟨Nat.le_of_ble_eq_true rfl, Nat.le_of_ble_eq_true rfl⟩ hl.1 rfl (Nat.le_of_ble_eq_true rfl) dX3_mature_39 ⟨Nat.le_of_ble_eq_true rfl, Nat.le_of_ble_eq_true rfl⟩) ?_
  refine lv_aload_n hx hb dX3_mature_42 rfl (lv_at hl 3 rfl) ?_
  refine gf_X3_25 hx hb hT hown hK (hP.at (hI.1 13 (by decide)) rfl) rfl dX3_mature_43 ?_
  refine lv_iload_n hx hb dX3_mature_46 rfl (lv_at hl 2 rfl) ?_
  refine z_backR1 (z_runS ⟨hx, hb, hml, hown, hT⟩ (rest := [.long (fParted (v1 * 1000) ((Int32.toInt64 (nI t)) * (Int32.toInt64 (XI 13 j)))), .ref (ad 13)]) (As := [.ref (ad 17), .int (nI t)]) (c_X3_ratioIn l 17 (hI.1 17 (by decide)) (XJ 6) rfl (nI t)) k_X3_169 (z_preR hK hP) rfl ⟨Nat.le_of_ble_eq_true rfl, Nat.le_of_ble_eq_true rfl⟩ hl.1 rfl (Nat.le_of_ble_eq_true rfl) dX3_mature_47 ⟨Nat.le_of_ble_eq_true rfl, Nat.le_of_ble_eq_true rfl⟩) ?_
  rw [show fRat (XJ 6) (nI t) = XJ 6 t from fRat_nI ht21]
  refine z_backR1 (z_runV ⟨hx, hb, hml, hown, hT⟩ (rest := []) (As := [.long (fParted (v1 * 1000) ((Int32.toInt64 (nI t)) * (Int32.toInt64 (XI 13 j)))), .long (XJ 6 t)]) (c_X3_smooth (MI := MI) (MJ := MJ) (XI := XI) (XJ := XJ) l hI (fParted (v1 * 1000) ((Int32.toInt64 (nI t)) * (Int32.toInt64 (XI 13 j)))) (XJ 6 t)) k_X3_229 (z_preRV hK hP (hP.at (hI.1 13 (by decide)) rfl) rfl) rfl ⟨Nat.le_of_ble_eq_true rfl, Nat.le_of_ble_eq_true rfl⟩ hl.1 rfl (Nat.le_of_ble_eq_true rfl) dX3_mature_50 ⟨Nat.le_of_ble_eq_true rfl, Nat.le_of_ble_eq_true rfl⟩) ?_
  refine lv_topl (fun v2 ev2 => ?_)
  refine lv_lstore (lv' := [(7, .long v2), (5, .long v1), (3, .long ((Int32.toInt64 (nI t)) * (Int32.toInt64 (XI 13 j)))), (2, .int (nI t)), (0, .ref (ad 13)), (1, .ref (ad (22 + 4 * j)))]) hx hb dX3_mature_53 hl (by decide) rfl (fun ls hl => ?_)
  refine lv_iload_n hx hb dX3_mature_55 rfl (lv_at hl 3 rfl) ?_
  refine lv_if_lt (tgt := 76) hx hb dX3_mature_56 (by decide) (fun c_3 => ?_) (fun c_3 => ?_)
  · exact absurd c_3 (nI_pos (by omega))
  · refine lv_iload_n hx hb dX3_mature_59 rfl (lv_at hl 3 rfl) ?_
    refine lv_aload_n hx hb dX3_mature_60 rfl (lv_at hl 4 rfl) ?_
    refine gf_X3_21 hx hb hT hown hK (hP.at (hI.1 13 (by decide)) rfl) rfl dX3_mature_61 ?_
    refine z_jlen hx hb hK (hP.at (hI.1 16 (by decide)) rfl) (v := 21) rfl dX3_mature_64 ?_
    refine lv_icmp_ge (tgt := 76) hx hb dX3_mature_65 (by decide) (fun c_4 => ?_) (fun c_4 => ?_)
    · exact absurd c_4 (nI_ge (a := t) (b := 21) ht21 (by decide))
    · refine lv_aload_n hx hb dX3_mature_68 rfl (lv_at hl 4 rfl) ?_
      refine gf_X3_21 hx hb hT hown hK (hP.at (hI.1 13 (by decide)) rfl) rfl dX3_mature_69 ?_
      refine lv_iload_n hx hb dX3_mature_72 rfl (lv_at hl 3 rfl) ?_
      refine lv_lload hx hb dX3_mature_73 (lv_at hl 0 rfl) ?_
      refine as_16N hx hb hK hP hD hS (hI.1 16 (by decide)) (v := v2) (ht21) dX3_mature_75 (fun H locs hP hS => ?_)
      refine lv_lload_n hx hb dX3_mature_76 rfl (lv_at hl 2 rfl) ?_
      refine lv_lload hx hb dX3_mature_77 (lv_at hl 0 rfl) ?_
      refine z_backR1 (z_runS ⟨hx, hb, hml, hown, hT⟩ (rest := []) (As := [.long ((Int32.toInt64 (nI t)) * (Int32.toInt64 (XI 13 j))), .long v2]) (c_X3_thousandths l D ks ((Int32.toInt64 (nI t)) * (Int32.toInt64 (XI 13 j))) v2 ) k_X3_115 (z_preR hK trivial) rfl ⟨Nat.le_of_ble_eq_true rfl, Nat.le_of_ble_eq_true rfl⟩ hl.1 rfl (Nat.le_of_ble_eq_true rfl) dX3_mature_79 ⟨Nat.le_of_ble_eq_true rfl, Nat.le_of_ble_eq_true rfl⟩) ?_
      refine lv_aload_n hx hb dX3_mature_82 rfl (lv_at hl 5 rfl) ?_
      refine z_backR1 (z_runVN ⟨hx, hb, hml, hown, hT⟩ hK (rest := [.long (fThou ((Int32.toInt64 (nI t)) * (Int32.toInt64 (XI 13 j))) v2)]) (As := []) (c_X2_guaranteed (MI := MI) (MJ := MJ) (XI := XI) (XJ := u2 XJ 5 t v2) l hI j (hj)) k_X3_173 (z_preRV hK hP (hP.at (hI.2.2 j hj).1 gS_2) rfl) rfl ⟨Nat.le_of_ble_eq_true rfl, Nat.le_of_ble_eq_true rfl⟩ hl.1 rfl (Nat.le_of_ble_eq_true rfl) dX3_mature_83 ⟨Nat.le_of_ble_eq_true rfl, Nat.le_of_ble_eq_true rfl⟩) ?_
      refine va_mmax_long hx hb (hml.trans hl.1.symm) hown (hT _ ml_X3_176) (hT _ sm_yJ9_max_f86c9) (hT _ in_J9) (hT _ co_yJ9_max_f86c9) (Nat.le_of_ble_eq_true rfl) (Nat.le_of_ble_eq_true rfl) (Nat.le_of_ble_eq_true rfl) (Nat.le_of_ble_eq_true rfl) dX3_mature_86 ?_
      refine lv_topl (fun v5 ev5 => ?_)
      refine lv_lstore (lv' := [(9, .long v5), (7, .long v2), (5, .long v1), (3, .long ((Int32.toInt64 (nI t)) * (Int32.toInt64 (XI 13 j)))), (2, .int (nI t)), (0, .ref (ad 13)), (1, .ref (ad (22 + 4 * j)))]) hx hb dX3_mature_89 hl (by decide) rfl (fun ls hl => ?_)
      refine lv_aload_n hx hb dX3_mature_91 rfl (lv_at hl 5 rfl) ?_
      refine lv_aload_n hx hb dX3_mature_92 rfl (lv_at hl 6 rfl) ?_
      refine lv_iconst (v := 1) hx hb dX3_mature_93 (by decide) ?_
      refine lv_lload hx hb dX3_mature_94 (lv_at hl 0 rfl) ?_
      refine z_backW0 (z_runV ⟨hx, hb, hml, hown, hT⟩ (rest := []) (As := [.ref (ad (22 + 4 * j)), .int 1, .long v5]) (c_X3_close (MI := MI) (MJ := MJ) (XI := XI) (XJ := u2 XJ 5 t v2) l hD0 hI j 1 v5 (hj) (hG) _) k_X3_89 (z_preWV hK hP (hP.at (hI.1 13 (by decide)) rfl) rfl) rfl ⟨Nat.le_of_ble_eq_true rfl, Nat.le_of_ble_eq_true rfl⟩ hl.1 rfl (Nat.le_of_ble_eq_true rfl) dX3_mature_96 ⟨Nat.le_of_ble_eq_true rfl, Nat.le_of_ble_eq_true rfl⟩) hS (hD.free (fun q hq => hA q (Nat.le_trans hS.1 hq))) (fun H locs hP hz1 hk1 hS => ?_)
      have hP : zP D Rs ad (gS ks ad np ng G MI MJ (u2 XI 15 j 1) (u2 (u2 (u2 (u2 (u2 (u2 XJ 5 t v2) 7 (G j) ((XJ 7 (G j)) - Int32.toInt64 (XI 13 j))) 8 (G j) ((XJ 8 (G j)) - fRel (XJ 8 (G j)) (XI 13 j) (XJ 7 (G j)))) 4 0 ((XJ 4 0) + (fRel (XJ 8 (G j)) (XI 13 j) (XJ 7 (G j)) - v5))) 4 1 ((XJ 4 1) - v5)) 11 j v5)) H := hP
      exact zW_v hx hb hr hlk hS (Nat.le_of_ble_eq_true rfl) (Nat.le_of_ble_eq_true rfl) dX3_mature_99 (by subst ev5 ev2 ev1; exact hP)
set_option maxHeartbeats 4000000 in
set_option maxRecDepth 100000 in
theorem c_X3_maturePolicies (l : Launch) (hD0 : zD (fun _ => True) Rs ad) (hI : zIn Rs np ng) (hok : xOK XI G np ng) (sz : Nat) : zMW l yX3_maturePolicies cX3_maturePolicies 4 ((some .int)) 5 (121) 0 0 D ks sz [.ref (ad 13)] (zP D Rs ad (gS ks ad np ng G MI MJ XI XJ)) (some (.int (nI (xMtN np G 30 (XI, xCpy 21 XJ))))) (zP D Rs ad (gS ks ad np ng G MI MJ ((xMtS np G 30 (XI, xCpy 21 XJ)).1) ((xMtS np G 30 (XI, xCpy 21 XJ)).2))) (zA Rs ad sz) := by
  refine zMW.of (by decide +kernel) (Nat.le_of_ble_eq_true rfl) ?_
  intro p e s m below meth c ls hx hb hr hml hown hlk hT hsz hP hK hl hin
  have hl : lv_has ls 4 [(0, .ref (ad 13))] := hl
  subst hsz
  have hD := hD0.self (sz := s.heap.size)
  have hA : ∀ q : Nat, s.heap.size ≤ q → zA Rs ad s.heap.size q := fun q h => Or.inr h
  have hS : va_S (zA Rs ad s.heap.size) s.heap s.heap [] := va_S.rf
  have hN30 : np ≤ 30 := hok.1
  have L2 : ∀ (n k : Nat) (I1 : Nat → Nat → Int32) (J1 : Nat → Nat → Int64) (cn : Nat) (H : Heap) (locs : List Loc) (ls : Array Slot), k + n = 30 → I1 = (xMtS np G k (XI, xCpy 21 XJ)).1 → J1 = (xMtS np G k (XI, xCpy 21 XJ)).2 → cn = xMtN np G k (XI, xCpy 21 XJ) → zP D Rs ad (gS ks ad np ng G MI MJ I1 J1) H → va_S (zA Rs ad s.heap.size) s.heap H locs → lv_has ls 4 [(2, .int (nI k)), (1, .int (nI cn)), (0, .ref (ad 13))] → W p l e (zRm 5 (121) 0 0) s m ([.ref (ad 13)] : List Value).toArray below meth c H locs 0 0 (MQ below (zQW (some (.int (nI (xMtN np G 30 (XI, xCpy 21 XJ))))) (zP D Rs ad (gS ks ad np ng G MI MJ ((xMtS np G 30 (XI, xCpy 21 XJ)).1) ((xMtS np G 30 (XI, xCpy 21 XJ)).2))) (zA Rs ad s.heap.size)) ([.ref (ad 13)] : List Value).toArray s 0 0 (zA Rs ad s.heap.size)) (F0 m 35 ls []) := by
    intro n
    induction n with
    | zero =>
      intro k I1 J1 cn H locs ls hkn hM hJ hc hP hS hl
      have hok1 : xOK I1 G np ng := by rw [hM]; exact hok.to (by rw [xMtS_k (by decide)])
      have hk0 : k = 30 := by omega
      refine lv_iload_n hx hb dX3_maturePolicies_35 rfl (lv_at hl 0 rfl) ?_
      refine lv_aload_n hx hb dX3_maturePolicies_36 rfl (lv_at hl 2 rfl) ?_
      refine gf_X3_11 hx hb hT hown hK (hP.at (hI.1 13 (by decide)) rfl) rfl dX3_maturePolicies_37 ?_
      refine z_plen hx hb hK (hP.at (hI.1 14 (by decide)) rfl) (v := 30) rfl dX3_maturePolicies_40 ?_
      refine lv_icmp_ge (tgt := 93) hx hb dX3_maturePolicies_41 (by decide) (fun c_1 => ?_) (fun c_1 => ?_)
      · refine lv_iload_n hx hb dX3_maturePolicies_93 rfl (lv_at hl 1 rfl) ?_
        exact zW_i hx hb hr hlk hS (Nat.le_of_ble_eq_true rfl) (Nat.le_of_ble_eq_true rfl) dX3_maturePolicies_94 (by rw [hc, hk0]) (by subst hk0; subst hM; subst hJ; exact hP)
      · exact absurd (nI_le (a := 30) (b := k) (by omega) (by omega)) c_1
    | succ n ih =>
      intro k I1 J1 cn H locs ls hkn hM hJ hc hP hS hl
      have hok1 : xOK I1 G np ng := by rw [hM]; exact hok.to (by rw [xMtS_k (by decide)])
      have hk : k < 30 := by omega
      refine lv_iload_n hx hb dX3_maturePolicies_35 rfl (lv_at hl 0 rfl) ?_
      refine lv_aload_n hx hb dX3_maturePolicies_36 rfl (lv_at hl 2 rfl) ?_
      refine gf_X3_11 hx hb hT hown hK (hP.at (hI.1 13 (by decide)) rfl) rfl dX3_maturePolicies_37 ?_
      refine z_plen hx hb hK (hP.at (hI.1 14 (by decide)) rfl) (v := 30) rfl dX3_maturePolicies_40 ?_
      refine lv_icmp_ge (tgt := 93) hx hb dX3_maturePolicies_41 (by decide) (fun c_2 => ?_) (fun c_2 => ?_)
      · exact absurd c_2 (nI_ge (a := k) (b := 30) hk (by decide))
      · refine lv_aload_n hx hb dX3_maturePolicies_44 rfl (lv_at hl 2 rfl) ?_
        refine gf_X3_11 hx hb hT hown hK (hP.at (hI.1 13 (by decide)) rfl) rfl dX3_maturePolicies_45 ?_
        refine lv_iload_n hx hb dX3_maturePolicies_48 rfl (lv_at hl 0 rfl) ?_
        refine z_paldN hx hb hK (hP.at (hI.1 14 (by decide)) rfl) (hk) (by decide) rfl dX3_maturePolicies_49 ?_
        rcases Nat.lt_or_ge k np with hg | hg
        · rw [show rPol ad np k = some (ad (22 + 4 * k)) from if_pos hg]
          show W _ _ _ _ _ _ _ _ _ _ _ _ _ _ _ (F0 m 50 ls (.ref (ad (22 + 4 * k)) :: []))
          obtain ⟨ht1, ht21⟩ := hok1.tn hg
          refine lv_astore_n (lv' := [(3, .ref (ad (22 + 4 * k))), (2, .int (nI k)), (1, .int (nI cn)), (0, .ref (ad 13))]) hx hb dX3_maturePolicies_50 rfl hl (by decide) rfl (fun ls hl => ?_)
          refine lv_aload_n hx hb dX3_maturePolicies_51 rfl (lv_at hl 0 rfl) ?_
          refine lv_ifnull hx hb dX3_maturePolicies_52 ?_
          refine lv_aload_n hx hb dX3_maturePolicies_55 rfl (lv_at hl 0 rfl) ?_
          refine z_backR1 (z_runVN ⟨hx, hb, hml, hown, hT⟩ hK (rest := []) (As := []) (c_X2_isInForce (MI := MI) (MJ := MJ) (XI := I1) (XJ := J1) l hI k (hg)) k_X3_143 (z_preRV hK hP (hP.at (hI.2.2 k hg).1 gS_2) rfl) rfl ⟨Nat.le_of_ble_eq_true rfl, Nat.le_of_ble_eq_true rfl⟩ hl.1 rfl (Nat.le_of_ble_eq_true rfl) dX3_maturePolicies_56 ⟨Nat.le_of_ble_eq_true rfl, Nat.le_of_ble_eq_true rfl⟩) ?_
          refine lv_if_eq (tgt := 87) hx hb dX3_maturePolicies_59 (by decide) (fun c_3 => ?_) (fun c_3 => ?_)
          · refine lv_iinc (v := nI (k + 1)) (lv' := [(2, .int (nI (k + 1))), (3, .ref (ad (22 + 4 * k))), (1, .int (nI cn)), (0, .ref (ad 13))]) hx hb dX3_maturePolicies_87 hl (k := 1) rfl (nI_1 k) (by decide) rfl (fun ls hl => ?_)
            refine lv_goto (tgt := 35) hx hb dX3_maturePolicies_90 (by decide) ?_
            have hstep : xMtS np G (k + 1) (XI, xCpy 21 XJ) = (I1, J1) := by simp only [xMtS]; rw [← hM, ← hJ]; first | exact if_neg (fun h => absurd ((if_pos h.2.1).symm.trans c_3 : (1 : Int32) = 0) (by decide)) | exact (if_neg (fun h => absurd ((if_pos h.2.1).symm.trans c_3 : (1 : Int32) = 0) (by decide))).trans (Prod.ext hM.symm hJ.symm)
            exact ih (k + 1) (I1) (J1) (cn) H locs _ (by omega) (by rw [hstep]) (by rw [hstep]) (by rw [hc]; simp only [xMtN]; rw [← hM]; rw [if_neg (fun h => absurd ((if_pos h.2.1).symm.trans c_3 : (1 : Int32) = 0) (by decide))]; try rfl) hP hS (lv_sub hl [0, 2, 3] rfl)
          · refine lv_aload_n hx hb dX3_maturePolicies_62 rfl (lv_at hl 3 rfl) ?_
            refine lv_aload_n hx hb dX3_maturePolicies_63 rfl (lv_at hl 0 rfl) ?_
            refine z_backR1 (z_runV ⟨hx, hb, hml, hown, hT⟩ (rest := []) (As := [.ref (ad (22 + 4 * k))]) (c_X3_yearsRun (MI := MI) (MJ := MJ) (XI := I1) (XJ := J1) l hI k (hg) (hok1.2.2.1 k hg)) k_X3_186 (z_preRV hK hP (hP.at (hI.1 13 (by decide)) rfl) rfl) rfl ⟨Nat.le_of_ble_eq_true rfl, Nat.le_of_ble_eq_true rfl⟩ hl.1 rfl (Nat.le_of_ble_eq_true rfl) dX3_maturePolicies_64 ⟨Nat.le_of_ble_eq_true rfl, Nat.le_of_ble_eq_true rfl⟩) ?_
            refine lv_iconst (v := 1) hx hb dX3_maturePolicies_67 (by decide) ?_
            refine lv_iadd hx hb dX3_maturePolicies_68 ?_
            refine lv_aload_n hx hb dX3_maturePolicies_69 rfl (lv_at hl 0 rfl) ?_
            refine gf_X3_192 hx hb hT hown hK (hP.at (hI.2.2 k hg).1 gS_2) rfl dX3_maturePolicies_70 ?_
            refine gf_X3_199 hx hb hT hown hK (hP.at (hI.2.1 (G k) (hok1.2.2.1 k hg)).1 gS_0) rfl dX3_maturePolicies_73 ?_
            refine lv_icmp_lt (tgt := 87) hx hb dX3_maturePolicies_76 (by decide) (fun c_4 => ?_) (fun c_4 => ?_)
            · refine lv_iinc (v := nI (k + 1)) (lv' := [(2, .int (nI (k + 1))), (3, .ref (ad (22 + 4 * k))), (1, .int (nI cn)), (0, .ref (ad 13))]) hx hb dX3_maturePolicies_87 hl (k := 1) rfl (nI_1 k) (by decide) rfl (fun ls hl => ?_)
              refine lv_goto (tgt := 35) hx hb dX3_maturePolicies_90 (by decide) ?_
              have hstep : xMtS np G (k + 1) (XI, xCpy 21 XJ) = (I1, J1) := by simp only [xMtS]; rw [← hM, ← hJ]; first | exact if_neg (fun h => absurd h.2.2 (Int32.not_le.mpr c_4)) | exact (if_neg (fun h => absurd h.2.2 (Int32.not_le.mpr c_4))).trans (Prod.ext hM.symm hJ.symm)
              exact ih (k + 1) (I1) (J1) (cn) H locs _ (by omega) (by rw [hstep]) (by rw [hstep]) (by rw [hc]; simp only [xMtN]; rw [← hM]; rw [if_neg (fun h => absurd h.2.2 (Int32.not_le.mpr c_4))]; try rfl) hP hS (lv_sub hl [0, 2, 3] rfl)
            · refine lv_aload_n hx hb dX3_maturePolicies_79 rfl (lv_at hl 3 rfl) ?_
              refine lv_aload_n hx hb dX3_maturePolicies_80 rfl (lv_at hl 0 rfl) ?_
              refine z_backW0 (z_runV ⟨hx, hb, hml, hown, hT⟩ (rest := []) (As := [.ref (ad (22 + 4 * k))]) (c_X3_mature (MI := MI) (MJ := MJ) (XI := I1) (XJ := J1) l hD0 hI k (xTn I1 G k) (hg) (hok1.2.2.1 k hg) (ht1) (ht21) _) k_X3_221 (z_preWV hK hP (hP.at (hI.1 13 (by decide)) rfl) rfl) rfl ⟨Nat.le_of_ble_eq_true rfl, Nat.le_of_ble_eq_true rfl⟩ hl.1 rfl (Nat.le_of_ble_eq_true rfl) dX3_maturePolicies_81 ⟨Nat.le_of_ble_eq_true rfl, Nat.le_of_ble_eq_true rfl⟩) hS (hD.free (fun q hq => hA q (Nat.le_trans hS.1 hq))) (fun H locs hP hz1 hk1 hS => ?_)
              have hP : zP D Rs ad (gS ks ad np ng G MI MJ (u2 I1 15 k 1) (xMatJ I1 G k (xTn I1 G k) J1)) H := hP
              refine lv_iinc (v := nI (cn + 1)) (lv' := [(1, .int (nI (cn + 1))), (3, .ref (ad (22 + 4 * k))), (2, .int (nI k)), (0, .ref (ad 13))]) hx hb dX3_maturePolicies_84 hl (k := 2) rfl (nI_1 cn) (by decide) rfl (fun ls hl => ?_)
              refine lv_iinc (v := nI (k + 1)) (lv' := [(2, .int (nI (k + 1))), (1, .int (nI (cn + 1))), (3, .ref (ad (22 + 4 * k))), (0, .ref (ad 13))]) hx hb dX3_maturePolicies_87 hl (k := 2) rfl (nI_1 k) (by decide) rfl (fun ls hl => ?_)
              refine lv_goto (tgt := 35) hx hb dX3_maturePolicies_90 (by decide) ?_
              have hstep : xMtS np G (k + 1) (XI, xCpy 21 XJ) = (u2 I1 15 k 1, (xMatJ I1 G k (xTn I1 G k) J1)) := by simp only [xMtS]; rw [← hM, ← hJ]; first | exact if_pos ⟨hg, Decidable.byContradiction (fun h9 => c_3 (if_neg h9)), Int32.not_lt.mp c_4⟩ | exact (if_pos ⟨hg, Decidable.byContradiction (fun h9 => c_3 (if_neg h9)), Int32.not_lt.mp c_4⟩).trans (Prod.ext hM.symm hJ.symm)
              exact ih (k + 1) (u2 I1 15 k 1) ((xMatJ I1 G k (xTn I1 G k) J1)) (cn + 1) H locs _ (by omega) (by rw [hstep]) (by rw [hstep]) (by rw [hc]; simp only [xMtN]; rw [← hM]; rw [if_pos ⟨hg, Decidable.byContradiction (fun h9 => c_3 (if_neg h9)), Int32.not_lt.mp c_4⟩]; try rfl) hP hS (lv_sub hl [0, 1, 3] rfl)
        · have hg : ¬ k < np := Nat.not_lt.mpr hg
          rw [show rPol ad np k = none from if_neg hg]
          show W _ _ _ _ _ _ _ _ _ _ _ _ _ _ _ (F0 m 50 ls (.null :: []))
          refine lv_astore_nN (lv' := [(3, .null), (2, .int (nI k)), (1, .int (nI cn)), (0, .ref (ad 13))]) hx hb dX3_maturePolicies_50 rfl hl (by decide) rfl (fun ls hl => ?_)
          refine lv_aload_nN hx hb dX3_maturePolicies_51 rfl (lv_at hl 0 rfl) ?_
          refine lv_ifnullN (tgt := 87) hx hb dX3_maturePolicies_52 (by decide) ?_
          refine lv_iinc (v := nI (k + 1)) (lv' := [(2, .int (nI (k + 1))), (3, .null), (1, .int (nI cn)), (0, .ref (ad 13))]) hx hb dX3_maturePolicies_87 hl (k := 1) rfl (nI_1 k) (by decide) rfl (fun ls hl => ?_)
          refine lv_goto (tgt := 35) hx hb dX3_maturePolicies_90 (by decide) ?_
          have hstep : xMtS np G (k + 1) (XI, xCpy 21 XJ) = (I1, J1) := by simp only [xMtS]; rw [← hM, ← hJ]; first | exact if_neg (fun h => hg h.1) | exact (if_neg (fun h => hg h.1)).trans (Prod.ext hM.symm hJ.symm)
          exact ih (k + 1) (I1) (J1) (cn) H locs _ (by omega) (by rw [hstep]) (by rw [hstep]) (by rw [hc]; simp only [xMtN]; rw [← hM]; rw [if_neg (fun h => hg h.1)]; try rfl) hP hS (lv_sub hl [0, 2, 3] rfl)
  have L1 : ∀ (n k : Nat) (J1 : Nat → Nat → Int64) (H : Heap) (locs : List Loc) (ls : Array Slot), k + n = 21 → J1 = xCpy k XJ → zP D Rs ad (gS ks ad np ng G MI MJ XI J1) H → va_S (zA Rs ad s.heap.size) s.heap H locs → lv_has ls 4 [(1, .int (nI k)), (0, .ref (ad 13))] → W p l e (zRm 5 (121) 0 0) s m ([.ref (ad 13)] : List Value).toArray below meth c H locs 0 0 (MQ below (zQW (some (.int (nI (xMtN np G 30 (XI, xCpy 21 XJ))))) (zP D Rs ad (gS ks ad np ng G MI MJ ((xMtS np G 30 (XI, xCpy 21 XJ)).1) ((xMtS np G 30 (XI, xCpy 21 XJ)).2))) (zA Rs ad s.heap.size)) ([.ref (ad 13)] : List Value).toArray s 0 0 (zA Rs ad s.heap.size)) (F0 m 2 ls []) := by
    intro n
    induction n with
    | zero =>
      intro k J1 H locs ls hkn hJ hP hS hl
      have hk0 : k = 21 := by omega
      refine lv_iload_n hx hb dX3_maturePolicies_2 rfl (lv_at hl 0 rfl) ?_
      refine lv_aload_n hx hb dX3_maturePolicies_3 rfl (lv_at hl 1 rfl) ?_
      refine gf_X3_25 hx hb hT hown hK (hP.at (hI.1 13 (by decide)) rfl) rfl dX3_maturePolicies_4 ?_
      refine z_jlen hx hb hK (hP.at (hI.1 17 (by decide)) rfl) (v := 21) rfl dX3_maturePolicies_7 ?_
      refine lv_icmp_ge (tgt := 31) hx hb dX3_maturePolicies_8 (by decide) (fun c_5 => ?_) (fun c_5 => ?_)
      · refine lv_iconst (v := 0) hx hb dX3_maturePolicies_31 (by decide) ?_
        refine lv_istore_n (lv' := [(1, .int 0), (0, .ref (ad 13))]) hx hb dX3_maturePolicies_32 rfl hl (by decide) rfl (fun ls hl => ?_)
        refine lv_iconst (v := 0) hx hb dX3_maturePolicies_33 (by decide) ?_
        refine lv_istore_n (lv' := [(2, .int 0), (1, .int 0), (0, .ref (ad 13))]) hx hb dX3_maturePolicies_34 rfl hl (by decide) rfl (fun ls hl => ?_)
        have eJ : J1 = xCpy 21 XJ := by rw [hJ, hk0]
        rw [eJ] at hP
        have hl := (show lv_has ls 4 [(2, .int (nI 0)), (1, .int (nI 0)), (0, .ref (ad 13))] from (lv_sub hl [0, 1, 2] rfl))
        exact L2 30 0 XI (xCpy 21 XJ) 0 H locs _ (by omega) rfl rfl rfl hP hS hl
      · exact absurd (nI_le (a := 21) (b := k) (by omega) (by omega)) c_5
    | succ n ih =>
      intro k J1 H locs ls hkn hJ hP hS hl
      have hk : k < 21 := by omega
      refine lv_iload_n hx hb dX3_maturePolicies_2 rfl (lv_at hl 0 rfl) ?_
      refine lv_aload_n hx hb dX3_maturePolicies_3 rfl (lv_at hl 1 rfl) ?_
      refine gf_X3_25 hx hb hT hown hK (hP.at (hI.1 13 (by decide)) rfl) rfl dX3_maturePolicies_4 ?_
      refine z_jlen hx hb hK (hP.at (hI.1 17 (by decide)) rfl) (v := 21) rfl dX3_maturePolicies_7 ?_
      refine lv_icmp_ge (tgt := 31) hx hb dX3_maturePolicies_8 (by decide) (fun c_6 => ?_) (fun c_6 => ?_)
      · exact absurd c_6 (nI_ge (a := k) (b := 21) hk (by decide))
      · refine lv_aload_n hx hb dX3_maturePolicies_11 rfl (lv_at hl 1 rfl) ?_
        refine gf_X3_25 hx hb hT hown hK (hP.at (hI.1 13 (by decide)) rfl) rfl dX3_maturePolicies_12 ?_
        refine lv_iload_n hx hb dX3_maturePolicies_15 rfl (lv_at hl 0 rfl) ?_
        refine lv_aload_n hx hb dX3_maturePolicies_16 rfl (lv_at hl 1 rfl) ?_
        refine gf_X3_21 hx hb hT hown hK (hP.at (hI.1 13 (by decide)) rfl) rfl dX3_maturePolicies_17 ?_
        refine lv_iload_n hx hb dX3_maturePolicies_20 rfl (lv_at hl 0 rfl) ?_
        refine z_backR1 (z_runS ⟨hx, hb, hml, hown, hT⟩ (rest := [.int (nI k), .ref (ad 17)]) (As := [.ref (ad 16), .int (nI k)]) (c_X3_ratioIn l 16 (hI.1 16 (by decide)) (J1 5) rfl (nI k)) k_X3_169 (z_preR hK hP) rfl ⟨Nat.le_of_ble_eq_true rfl, Nat.le_of_ble_eq_true rfl⟩ hl.1 rfl (Nat.le_of_ble_eq_true rfl) dX3_maturePolicies_21 ⟨Nat.le_of_ble_eq_true rfl, Nat.le_of_ble_eq_true rfl⟩) ?_
        rw [show fRat (J1 5) (nI k) = J1 5 k from fRat_nI hk]
        refine as_17N hx hb hK hP hD hS (hI.1 17 (by decide)) (v := J1 5 k) (hk) dX3_maturePolicies_24 (fun H locs hP hS => ?_)
        refine lv_iinc (v := nI (k + 1)) (lv' := [(1, .int (nI (k + 1))), (0, .ref (ad 13))]) hx hb dX3_maturePolicies_25 hl (k := 0) rfl (nI_1 k) (by decide) rfl (fun ls hl => ?_)
        refine lv_goto (tgt := 2) hx hb dX3_maturePolicies_28 (by decide) ?_
        exact ih (k + 1) (u2 J1 6 k (J1 5 k)) H locs _ (by omega) (by rw [hJ]; rfl) hP hS (lv_sub hl [0, 1] rfl)
  refine lv_iconst (v := 0) hx hb dX3_maturePolicies_0 (by decide) ?_
  refine lv_istore_n (lv' := [(1, .int 0), (0, .ref (ad 13))]) hx hb dX3_maturePolicies_1 rfl hl (by decide) rfl (fun ls hl => ?_)
  have hl := (show lv_has ls 4 [(1, .int (nI 0)), (0, .ref (ad 13))] from (lv_sub hl [0, 1] rfl))
  exact L1 21 0 XJ s.heap [] _ (by omega) rfl hP hS hl
end ZX2
end
section
/-! the office: its calls, where they do not throw -/
section ZX3
variable {D : va_G} {ks : Nat → ClassId} {ad : Nat → Nat} {np ng : Nat} {G : Nat → Nat} {MI : Nat → Nat → Int32} {MJ : Nat → Nat → Int64} {XI : Nat → Nat → Int32} {XJ : Nat → Nat → Int64} {Rs : List Nat}
set_option maxHeartbeats 4000000 in
set_option maxRecDepth 100000 in
theorem c_X3_knownPolicy_ok (l : Launch) (hI : zIn Rs np ng) (j : Nat) (hj : j < np) (hN : np ≤ 30) : zMR l yX3_knownPolicy cX3_knownPolicy 3 ((some (.object "ProfitsOffice$Policy"))) 0 (0) D ks [.ref (ad 13), .int (nI j)] (zP D Rs ad (gS ks ad np ng G MI MJ XI XJ)) (some (.ref (ad (22 + 4 * j)))) := by
  refine zMR.of (by decide +kernel) (Nat.le_of_ble_eq_true rfl) ?_
  intro p e s m below meth c ls hx hb hr hml hown hlk hT hP hK hl
  have hl : lv_has ls 3 [(0, .ref (ad 13)), (1, .int (nI j))] := hl
  refine lv_iload_n hx hb dX3_knownPolicy_0 rfl (lv_at hl 1 rfl) ?_
  refine lv_if_lt (tgt := 13) hx hb dX3_knownPolicy_1 (by decide) (fun c_1 => ?_) (fun c_1 => ?_)
  · exact absurd c_1 (nI_pos (by omega))
  · refine lv_iload_n hx hb dX3_knownPolicy_4 rfl (lv_at hl 1 rfl) ?_
    refine lv_aload_n hx hb dX3_knownPolicy_5 rfl (lv_at hl 0 rfl) ?_
    refine gf_X3_11 hx hb hT hown hK (hP.at (hI.1 13 (by decide)) rfl) rfl dX3_knownPolicy_6 ?_
    refine z_plen hx hb hK (hP.at (hI.1 14 (by decide)) rfl) (v := 30) rfl dX3_knownPolicy_9 ?_
    refine lv_icmp_lt (tgt := 23) hx hb dX3_knownPolicy_10 (by decide) (fun c_2 => ?_) (fun c_2 => ?_)
    · refine lv_aload_n hx hb dX3_knownPolicy_23 rfl (lv_at hl 0 rfl) ?_
      refine gf_X3_11 hx hb hT hown hK (hP.at (hI.1 13 (by decide)) rfl) rfl dX3_knownPolicy_24 ?_
      refine lv_iload_n hx hb dX3_knownPolicy_27 rfl (lv_at hl 1 rfl) ?_
      refine z_paldN hx hb hK (hP.at (hI.1 14 (by decide)) rfl) (Nat.lt_of_lt_of_le hj hN) (by decide) rfl dX3_knownPolicy_28 ?_
      rw [show rPol ad np j = some (ad (22 + 4 * j)) from if_pos hj]
      show W _ _ _ _ _ _ _ _ _ _ _ _ _ _ _ (F0 m 29 ls [.ref (ad (22 + 4 * j))])
      refine lv_astore_n (lv' := [(2, .ref (ad (22 + 4 * j))), (0, .ref (ad 13)), (1, .int (nI j))]) hx hb dX3_knownPolicy_29 rfl hl (by decide) rfl (fun ls hl => ?_)
      refine lv_aload_n hx hb dX3_knownPolicy_30 rfl (lv_at hl 0 rfl) ?_
      refine lv_ifnonnull (tgt := 44) hx hb dX3_knownPolicy_31 (by decide) ?_
      refine lv_aload_n hx hb dX3_knownPolicy_44 rfl (lv_at hl 0 rfl) ?_
      exact zR_a hx hb hr hlk dX3_knownPolicy_45 (Or.inr ⟨_, rfl⟩) (rfl)
    · exact absurd (nI_lt (a := j) (b := 30) (by omega) (by decide)) c_2
set_option maxHeartbeats 4000000 in
set_option maxRecDepth 100000 in
theorem c_X3_checkSurrenderable_ok (l : Launch) (hI : zIn Rs np ng) (j : Nat) (hj : j < np) (hN : np ≤ 30) (hG : G j < ng) (hst : XI 15 j = 0) (hyr : 1 ≤ XI 10 2 - XI 11 (G j)) : zMR l yX3_checkSurrenderable cX3_checkSurrenderable 2 ((none : Option FieldType)) 1 (21) D ks [.ref (ad 13), .ref (ad (22 + 4 * j))] (zP D Rs ad (gS ks ad np ng G MI MJ XI XJ)) none := by
  refine zMR.of (by decide +kernel) (Nat.le_of_ble_eq_true rfl) ?_
  intro p e s m below meth c ls hx hb hr hml hown hlk hT hP hK hl
  have hl : lv_has ls 2 [(0, .ref (ad 13)), (1, .ref (ad (22 + 4 * j)))] := hl
  refine lv_aload_n hx hb dX3_checkSurrenderable_0 rfl (lv_at hl 1 rfl) ?_
  refine z_backR1 (z_runVN ⟨hx, hb, hml, hown, hT⟩ hK (rest := []) (As := []) (c_X2_isInForce (MI := MI) (MJ := MJ) (XI := XI) (XJ := XJ) l hI j (hj)) k_X3_143 (z_preRV hK hP (hP.at (hI.2.2 j hj).1 gS_2) rfl) rfl ⟨Nat.le_of_ble_eq_true rfl, Nat.le_of_ble_eq_true rfl⟩ hl.1 rfl (Nat.le_of_ble_eq_true rfl) dX3_checkSurrenderable_1 ⟨Nat.le_of_ble_eq_true rfl, Nat.le_of_ble_eq_true rfl⟩) ?_
  refine lv_if_eq (tgt := 16) hx hb dX3_checkSurrenderable_4 (by decide) (fun c_1 => ?_) (fun c_1 => ?_)
  · exact absurd ((if_pos hst).symm.trans c_1) (by decide)
  · refine lv_aload_n hx hb dX3_checkSurrenderable_7 rfl (lv_at hl 0 rfl) ?_
    refine lv_aload_n hx hb dX3_checkSurrenderable_8 rfl (lv_at hl 1 rfl) ?_
    refine z_backR1 (z_runV ⟨hx, hb, hml, hown, hT⟩ (rest := []) (As := [.ref (ad (22 + 4 * j))]) (c_X3_yearsRun (MI := MI) (MJ := MJ) (XI := XI) (XJ := XJ) l hI j (hj) (hG)) k_X3_186 (z_preRV hK hP (hP.at (hI.1 13 (by decide)) rfl) rfl) rfl ⟨Nat.le_of_ble_eq_true rfl, Nat.le_of_ble_eq_true rfl⟩ hl.1 rfl (Nat.le_of_ble_eq_true rfl) dX3_checkSurrenderable_9 ⟨Nat.le_of_ble_eq_true rfl, Nat.le_of_ble_eq_true rfl⟩) ?_
    refine lv_iconst (v := 1) hx hb dX3_checkSurrenderable_12 (by decide) ?_
    refine lv_icmp_ge (tgt := 26) hx hb dX3_checkSurrenderable_13 (by decide) (fun c_2 => ?_) (fun c_2 => ?_)
    · exact zR_v hx hb hr hlk dX3_checkSurrenderable_26
    · exact absurd hyr c_2
set_option maxHeartbeats 4000000 in
set_option maxRecDepth 100000 in
theorem c_X3_stateOf_ok (l : Launch) (hI : zIn Rs np ng) (j : Nat) (hj : j < np) (hN : np ≤ 30) : zMR l yX3_stateOf cX3_stateOf 2 ((some .int)) 1 (22) D ks [.ref (ad 13), .int (nI j)] (zP D Rs ad (gS ks ad np ng G MI MJ XI XJ)) (some (.int (XI 15 j))) := by
  refine zMR.of (by decide +kernel) (Nat.le_of_ble_eq_true rfl) ?_
  intro p e s m below meth c ls hx hb hr hml hown hlk hT hP hK hl
  have hl : lv_has ls 2 [(0, .ref (ad 13)), (1, .int (nI j))] := hl
  refine lv_aload_n hx hb dX3_stateOf_0 rfl (lv_at hl 0 rfl) ?_
  refine lv_iload_n hx hb dX3_stateOf_1 rfl (lv_at hl 1 rfl) ?_
  refine z_backR1 (z_runV ⟨hx, hb, hml, hown, hT⟩ (rest := []) (As := [.int (nI j)]) (c_X3_knownPolicy_ok (MI := MI) (MJ := MJ) (XI := XI) (XJ := XJ) l hI j (hj) (hN)) k_X3_77 (z_preRV hK hP (hP.at (hI.1 13 (by decide)) rfl) rfl) rfl ⟨Nat.le_of_ble_eq_true rfl, Nat.le_of_ble_eq_true rfl⟩ hl.1 rfl (Nat.le_of_ble_eq_true rfl) dX3_stateOf_2 ⟨Nat.le_of_ble_eq_true rfl, Nat.le_of_ble_eq_true rfl⟩) ?_
  refine gf_X3_133 hx hb hT hown hK (hP.at (hI.2.2 j hj).1 gS_2) rfl dX3_stateOf_5 ?_
  exact zR_i hx hb hr hlk dX3_stateOf_8 (rfl)
set_option maxHeartbeats 4000000 in
set_option maxRecDepth 100000 in
theorem c_X3_bonuses_ok (l : Launch) (hI : zIn Rs np ng) (j : Nat) (hj : j < np) (hN : np ≤ 30) : zMR l yX3_bonuses cX3_bonuses 2 ((some .int)) 1 (22) D ks [.ref (ad 13), .int (nI j)] (zP D Rs ad (gS ks ad np ng G MI MJ XI XJ)) (some (.int (Int64.toInt32 (XJ 10 j)))) := by
  refine zMR.of (by decide +kernel) (Nat.le_of_ble_eq_true rfl) ?_
  intro p e s m below meth c ls hx hb hr hml hown hlk hT hP hK hl
  have hl : lv_has ls 2 [(0, .ref (ad 13)), (1, .int (nI j))] := hl
  refine lv_aload_n hx hb dX3_bonuses_0 rfl (lv_at hl 0 rfl) ?_
  refine lv_iload_n hx hb dX3_bonuses_1 rfl (lv_at hl 1 rfl) ?_
  refine z_backR1 (z_runV ⟨hx, hb, hml, hown, hT⟩ (rest := []) (As := [.int (nI j)]) (c_X3_knownPolicy_ok (MI := MI) (MJ := MJ) (XI := XI) (XJ := XJ) l hI j (hj) (hN)) k_X3_77 (z_preRV hK hP (hP.at (hI.1 13 (by decide)) rfl) rfl) rfl ⟨Nat.le_of_ble_eq_true rfl, Nat.le_of_ble_eq_true rfl⟩ hl.1 rfl (Nat.le_of_ble_eq_true rfl) dX3_bonuses_2 ⟨Nat.le_of_ble_eq_true rfl, Nat.le_of_ble_eq_true rfl⟩) ?_
  refine gf_X3_136 hx hb hT hown hK (hP.at (hI.2.2 j hj).1 gS_2) rfl dX3_bonuses_5 ?_
  refine lv_l2i hx hb dX3_bonuses_8 rfl ?_
  exact zR_i hx hb hr hlk dX3_bonuses_9 (rfl)
set_option maxHeartbeats 4000000 in
set_option maxRecDepth 100000 in
theorem c_X3_paid_ok (l : Launch) (hI : zIn Rs np ng) (j : Nat) (hj : j < np) (hN : np ≤ 30) : zMR l yX3_paid cX3_paid 2 ((some .int)) 1 (22) D ks [.ref (ad 13), .int (nI j)] (zP D Rs ad (gS ks ad np ng G MI MJ XI XJ)) (some (.int (Int64.toInt32 (XJ 11 j)))) := by
  refine zMR.of (by decide +kernel) (Nat.le_of_ble_eq_true rfl) ?_
  intro p e s m below meth c ls hx hb hr hml hown hlk hT hP hK hl
  have hl : lv_has ls 2 [(0, .ref (ad 13)), (1, .int (nI j))] := hl
  refine lv_aload_n hx hb dX3_paid_0 rfl (lv_at hl 0 rfl) ?_
  refine lv_iload_n hx hb dX3_paid_1 rfl (lv_at hl 1 rfl) ?_
  refine z_backR1 (z_runV ⟨hx, hb, hml, hown, hT⟩ (rest := []) (As := [.int (nI j)]) (c_X3_knownPolicy_ok (MI := MI) (MJ := MJ) (XI := XI) (XJ := XJ) l hI j (hj) (hN)) k_X3_77 (z_preRV hK hP (hP.at (hI.1 13 (by decide)) rfl) rfl) rfl ⟨Nat.le_of_ble_eq_true rfl, Nat.le_of_ble_eq_true rfl⟩ hl.1 rfl (Nat.le_of_ble_eq_true rfl) dX3_paid_2 ⟨Nat.le_of_ble_eq_true rfl, Nat.le_of_ble_eq_true rfl⟩) ?_
  refine gf_X3_164 hx hb hT hown hK (hP.at (hI.2.2 j hj).1 gS_2) rfl dX3_paid_5 ?_
  refine lv_l2i hx hb dX3_paid_8 rfl ?_
  exact zR_i hx hb hr hlk dX3_paid_9 (rfl)
set_option maxHeartbeats 4000000 in
set_option maxRecDepth 100000 in
theorem c_X3_shareOf_ok (l : Launch) (hI : zIn Rs np ng) (j : Nat) (hj : j < np) (hN : np ≤ 30) (hG : G j < ng) : zMR l yX3_shareOf cX3_shareOf 2 ((some .int)) 3 (64) D ks [.ref (ad 13), .int (nI j)] (zP D Rs ad (gS ks ad np ng G MI MJ XI XJ)) (some (.int (Int64.toInt32 (fAsset (XI 15 j) (XJ 8 (G j)) (XI 13 j) (XJ 7 (G j)))))) := by
  refine zMR.of (by decide +kernel) (Nat.le_of_ble_eq_true rfl) ?_
  intro p e s m below meth c ls hx hb hr hml hown hlk hT hP hK hl
  have hl : lv_has ls 2 [(0, .ref (ad 13)), (1, .int (nI j))] := hl
  refine lv_aload_n hx hb dX3_shareOf_0 rfl (lv_at hl 0 rfl) ?_
  refine lv_iload_n hx hb dX3_shareOf_1 rfl (lv_at hl 1 rfl) ?_
  refine z_backR1 (z_runV ⟨hx, hb, hml, hown, hT⟩ (rest := []) (As := [.int (nI j)]) (c_X3_knownPolicy_ok (MI := MI) (MJ := MJ) (XI := XI) (XJ := XJ) l hI j (hj) (hN)) k_X3_77 (z_preRV hK hP (hP.at (hI.1 13 (by decide)) rfl) rfl) rfl ⟨Nat.le_of_ble_eq_true rfl, Nat.le_of_ble_eq_true rfl⟩ hl.1 rfl (Nat.le_of_ble_eq_true rfl) dX3_shareOf_2 ⟨Nat.le_of_ble_eq_true rfl, Nat.le_of_ble_eq_true rfl⟩) ?_
  refine z_backR1 (z_runVN ⟨hx, hb, hml, hown, hT⟩ hK (rest := []) (As := []) (c_X2_assetShare (MI := MI) (MJ := MJ) (XI := XI) (XJ := XJ) l hI j (hj) (hG)) k_X3_139 (z_preRV hK hP (hP.at (hI.2.2 j hj).1 gS_2) rfl) rfl ⟨Nat.le_of_ble_eq_true rfl, Nat.le_of_ble_eq_true rfl⟩ hl.1 rfl (Nat.le_of_ble_eq_true rfl) dX3_shareOf_5 ⟨Nat.le_of_ble_eq_true rfl, Nat.le_of_ble_eq_true rfl⟩) ?_
  refine lv_l2i hx hb dX3_shareOf_8 rfl ?_
  exact zR_i hx hb hr hlk dX3_shareOf_9 (rfl)
set_option maxHeartbeats 4000000 in
set_option maxRecDepth 100000 in
theorem c_X3_shareAlone_ok (l : Launch) (hI : zIn Rs np ng) (j : Nat) (hj : j < np) (hN : np ≤ 30) : zMR l yX3_shareAlone cX3_shareAlone 3 ((some .int)) 1 (22) D ks [.ref (ad 13), .int (nI j)] (zP D Rs ad (gS ks ad np ng G MI MJ XI XJ)) (some (.int (if XI 15 j = 0 then Int64.toInt32 (XJ 9 j) else 0))) := by
  refine zMR.of (by decide +kernel) (Nat.le_of_ble_eq_true rfl) ?_
  intro p e s m below meth c ls hx hb hr hml hown hlk hT hP hK hl
  have hl : lv_has ls 3 [(0, .ref (ad 13)), (1, .int (nI j))] := hl
  refine lv_aload_n hx hb dX3_shareAlone_0 rfl (lv_at hl 0 rfl) ?_
  refine lv_iload_n hx hb dX3_shareAlone_1 rfl (lv_at hl 1 rfl) ?_
  refine z_backR1 (z_runV ⟨hx, hb, hml, hown, hT⟩ (rest := []) (As := [.int (nI j)]) (c_X3_knownPolicy_ok (MI := MI) (MJ := MJ) (XI := XI) (XJ := XJ) l hI j (hj) (hN)) k_X3_77 (z_preRV hK hP (hP.at (hI.1 13 (by decide)) rfl) rfl) rfl ⟨Nat.le_of_ble_eq_true rfl, Nat.le_of_ble_eq_true rfl⟩ hl.1 rfl (Nat.le_of_ble_eq_true rfl) dX3_shareAlone_2 ⟨Nat.le_of_ble_eq_true rfl, Nat.le_of_ble_eq_true rfl⟩) ?_
  refine lv_astore_n (lv' := [(2, .ref (ad (22 + 4 * j))), (0, .ref (ad 13)), (1, .int (nI j))]) hx hb dX3_shareAlone_5 rfl hl (by decide) rfl (fun ls hl => ?_)
  refine lv_aload_n hx hb dX3_shareAlone_6 rfl (lv_at hl 0 rfl) ?_
  refine z_backR1 (z_runVN ⟨hx, hb, hml, hown, hT⟩ hK (rest := []) (As := []) (c_X2_isInForce (MI := MI) (MJ := MJ) (XI := XI) (XJ := XJ) l hI j (hj)) k_X3_143 (z_preRV hK hP (hP.at (hI.2.2 j hj).1 gS_2) rfl) rfl ⟨Nat.le_of_ble_eq_true rfl, Nat.le_of_ble_eq_true rfl⟩ hl.1 rfl (Nat.le_of_ble_eq_true rfl) dX3_shareAlone_7 ⟨Nat.le_of_ble_eq_true rfl, Nat.le_of_ble_eq_true rfl⟩) ?_
  refine lv_if_eq (tgt := 24) hx hb dX3_shareAlone_10 (by decide) (fun c_1 => ?_) (fun c_1 => ?_)
  · refine lv_iconst (v := 0) hx hb dX3_shareAlone_24 (by decide) ?_
    exact zR_i hx hb hr hlk dX3_shareAlone_25 ((if_neg (fun h => absurd ((if_pos h).symm.trans c_1 : (1 : Int32) = 0) (by decide))).symm)
  · refine lv_aload_n hx hb dX3_shareAlone_13 rfl (lv_at hl 0 rfl) ?_
    refine gf_X3_147 hx hb hT hown hK (hP.at (hI.2.2 j hj).1 gS_2) rfl dX3_shareAlone_14 ?_
    refine gf_X3_151 hx hb hT hown hK (hP.at (hI.2.2 j hj).2 gS_3) rfl dX3_shareAlone_17 ?_
    refine lv_l2i hx hb dX3_shareAlone_20 rfl ?_
    refine lv_goto (tgt := 25) hx hb dX3_shareAlone_21 (by decide) ?_
    exact zR_i hx hb hr hlk dX3_shareAlone_25 ((if_pos (Decidable.byContradiction fun h => c_1 (if_neg h))).symm)
set_option maxHeartbeats 4000000 in
set_option maxRecDepth 100000 in
theorem c_X3_worth_ok (l : Launch) (hI : zIn Rs np ng) (j : Nat) (hj : j < np) (hN : np ≤ 30) (hG : G j < ng) (hst : XI 15 j = 0) (hyr : 1 ≤ XI 10 2 - XI 11 (G j)) : zMR l yX3_worth cX3_worth 3 ((some .int)) 4 (92) D ks [.ref (ad 13), .int (nI j)] (zP D Rs ad (gS ks ad np ng G MI MJ XI XJ)) (some (.int (Int64.toInt32 (fWorth (XI 10 2 - XI 11 (G j)) (XI 12 (G j)) (fAsset (XI 15 j) (XJ 8 (G j)) (XI 13 j) (XJ 7 (G j))) (XI 13 j) (XI 10 7))))) := by
  refine zMR.of (by decide +kernel) (Nat.le_of_ble_eq_true rfl) ?_
  intro p e s m below meth c ls hx hb hr hml hown hlk hT hP hK hl
  have hl : lv_has ls 3 [(0, .ref (ad 13)), (1, .int (nI j))] := hl
  refine lv_aload_n hx hb dX3_worth_0 rfl (lv_at hl 0 rfl) ?_
  refine lv_iload_n hx hb dX3_worth_1 rfl (lv_at hl 1 rfl) ?_
  refine z_backR1 (z_runV ⟨hx, hb, hml, hown, hT⟩ (rest := []) (As := [.int (nI j)]) (c_X3_knownPolicy_ok (MI := MI) (MJ := MJ) (XI := XI) (XJ := XJ) l hI j (hj) (hN)) k_X3_77 (z_preRV hK hP (hP.at (hI.1 13 (by decide)) rfl) rfl) rfl ⟨Nat.le_of_ble_eq_true rfl, Nat.le_of_ble_eq_true rfl⟩ hl.1 rfl (Nat.le_of_ble_eq_true rfl) dX3_worth_2 ⟨Nat.le_of_ble_eq_true rfl, Nat.le_of_ble_eq_true rfl⟩) ?_
  refine lv_astore_n (lv' := [(2, .ref (ad (22 + 4 * j))), (0, .ref (ad 13)), (1, .int (nI j))]) hx hb dX3_worth_5 rfl hl (by decide) rfl (fun ls hl => ?_)
  refine lv_aload_n hx hb dX3_worth_6 rfl (lv_at hl 1 rfl) ?_
  refine lv_aload_n hx hb dX3_worth_7 rfl (lv_at hl 0 rfl) ?_
  refine z_backR0 (z_runV ⟨hx, hb, hml, hown, hT⟩ (rest := []) (As := [.ref (ad (22 + 4 * j))]) (c_X3_checkSurrenderable_ok (MI := MI) (MJ := MJ) (XI := XI) (XJ := XJ) l hI j (hj) (hN) (hG) (hst) (hyr)) k_X3_81 (z_preRV hK hP (hP.at (hI.1 13 (by decide)) rfl) rfl) rfl ⟨Nat.le_of_ble_eq_true rfl, Nat.le_of_ble_eq_true rfl⟩ hl.1 rfl (Nat.le_of_ble_eq_true rfl) dX3_worth_8 ⟨Nat.le_of_ble_eq_true rfl, Nat.le_of_ble_eq_true rfl⟩) ?_
  refine lv_aload_n hx hb dX3_worth_11 rfl (lv_at hl 1 rfl) ?_
  refine lv_aload_n hx hb dX3_worth_12 rfl (lv_at hl 0 rfl) ?_
  refine z_backR1 (z_runV ⟨hx, hb, hml, hown, hT⟩ (rest := []) (As := [.ref (ad (22 + 4 * j))]) (c_X3_surrenderWorth (MI := MI) (MJ := MJ) (XI := XI) (XJ := XJ) l hI j (hj) (hG)) k_X3_85 (z_preRV hK hP (hP.at (hI.1 13 (by decide)) rfl) rfl) rfl ⟨Nat.le_of_ble_eq_true rfl, Nat.le_of_ble_eq_true rfl⟩ hl.1 rfl (Nat.le_of_ble_eq_true rfl) dX3_worth_13 ⟨Nat.le_of_ble_eq_true rfl, Nat.le_of_ble_eq_true rfl⟩) ?_
  refine lv_l2i hx hb dX3_worth_16 rfl ?_
  exact zR_i hx hb hr hlk dX3_worth_17 (rfl)
set_option maxHeartbeats 4000000 in
set_option maxRecDepth 100000 in
theorem c_X3_surrender_ok (l : Launch) (hD0 : zD (fun _ => True) Rs ad) (hI : zIn Rs np ng) (j : Nat) (hj : j < np) (hN : np ≤ 30) (hG : G j < ng) (hst : XI 15 j = 0) (hyr : 1 ≤ XI 10 2 - XI 11 (G j)) (sz : Nat) : zMW l yX3_surrender cX3_surrender 5 ((some .int)) 4 (92) 0 0 D ks sz [.ref (ad 13), .int (nI j)] (zP D Rs ad (gS ks ad np ng G MI MJ XI XJ)) (some (.int (Int64.toInt32 (fWorth (XI 10 2 - XI 11 (G j)) (XI 12 (G j)) (fAsset (XI 15 j) (XJ 8 (G j)) (XI 13 j) (XJ 7 (G j))) (XI 13 j) (XI 10 7))))) (zP D Rs ad (gS ks ad np ng G MI MJ (u2 XI 15 j 2) (u2 (u2 (u2 (u2 (u2 XJ 7 (G j) ((XJ 7 (G j)) - Int32.toInt64 (XI 13 j))) 8 (G j) ((XJ 8 (G j)) - fRel (XJ 8 (G j)) (XI 13 j) (XJ 7 (G j)))) 4 0 ((XJ 4 0) + (fRel (XJ 8 (G j)) (XI 13 j) (XJ 7 (G j)) - (fWorth (XI 10 2 - XI 11 (G j)) (XI 12 (G j)) (fAsset (XI 15 j) (XJ 8 (G j)) (XI 13 j) (XJ 7 (G j))) (XI 13 j) (XI 10 7))))) 4 1 ((XJ 4 1) - (fWorth (XI 10 2 - XI 11 (G j)) (XI 12 (G j)) (fAsset (XI 15 j) (XJ 8 (G j)) (XI 13 j) (XJ 7 (G j))) (XI 13 j) (XI 10 7)))) 11 j (fWorth (XI 10 2 - XI 11 (G j)) (XI 12 (G j)) (fAsset (XI 15 j) (XJ 8 (G j)) (XI 13 j) (XJ 7 (G j))) (XI 13 j) (XI 10 7))))) (zA Rs ad sz) := by
  refine zMW.of (by decide +kernel) (Nat.le_of_ble_eq_true rfl) ?_
  intro p e s m below meth c ls hx hb hr hml hown hlk hT hsz hP hK hl hin
  have hl : lv_has ls 5 [(0, .ref (ad 13)), (1, .int (nI j))] := hl
  subst hsz
  have hD := hD0.self (sz := s.heap.size)
  have hA : ∀ q : Nat, s.heap.size ≤ q → zA Rs ad s.heap.size q := fun q h => Or.inr h
  have hS : va_S (zA Rs ad s.heap.size) s.heap s.heap [] := va_S.rf
  refine lv_aload_n hx hb dX3_surrender_0 rfl (lv_at hl 0 rfl) ?_
  refine lv_iload_n hx hb dX3_surrender_1 rfl (lv_at hl 1 rfl) ?_
  refine z_backR1 (z_runV ⟨hx, hb, hml, hown, hT⟩ (rest := []) (As := [.int (nI j)]) (c_X3_knownPolicy_ok (MI := MI) (MJ := MJ) (XI := XI) (XJ := XJ) l hI j (hj) (hN)) k_X3_77 (z_preRV hK hP (hP.at (hI.1 13 (by decide)) rfl) rfl) rfl ⟨Nat.le_of_ble_eq_true rfl, Nat.le_of_ble_eq_true rfl⟩ hl.1 rfl (Nat.le_of_ble_eq_true rfl) dX3_surrender_2 ⟨Nat.le_of_ble_eq_true rfl, Nat.le_of_ble_eq_true rfl⟩) ?_
  refine lv_astore_n (lv' := [(2, .ref (ad (22 + 4 * j))), (0, .ref (ad 13)), (1, .int (nI j))]) hx hb dX3_surrender_5 rfl hl (by decide) rfl (fun ls hl => ?_)
  refine lv_aload_n hx hb dX3_surrender_6 rfl (lv_at hl 1 rfl) ?_
  refine lv_aload_n hx hb dX3_surrender_7 rfl (lv_at hl 0 rfl) ?_
  refine z_backR0 (z_runV ⟨hx, hb, hml, hown, hT⟩ (rest := []) (As := [.ref (ad (22 + 4 * j))]) (c_X3_checkSurrenderable_ok (MI := MI) (MJ := MJ) (XI := XI) (XJ := XJ) l hI j (hj) (hN) (hG) (hst) (hyr)) k_X3_81 (z_preRV hK hP (hP.at (hI.1 13 (by decide)) rfl) rfl) rfl ⟨Nat.le_of_ble_eq_true rfl, Nat.le_of_ble_eq_true rfl⟩ hl.1 rfl (Nat.le_of_ble_eq_true rfl) dX3_surrender_8 ⟨Nat.le_of_ble_eq_true rfl, Nat.le_of_ble_eq_true rfl⟩) ?_
  refine lv_aload_n hx hb dX3_surrender_11 rfl (lv_at hl 1 rfl) ?_
  refine lv_aload_n hx hb dX3_surrender_12 rfl (lv_at hl 0 rfl) ?_
  refine z_backR1 (z_runV ⟨hx, hb, hml, hown, hT⟩ (rest := []) (As := [.ref (ad (22 + 4 * j))]) (c_X3_surrenderWorth (MI := MI) (MJ := MJ) (XI := XI) (XJ := XJ) l hI j (hj) (hG)) k_X3_85 (z_preRV hK hP (hP.at (hI.1 13 (by decide)) rfl) rfl) rfl ⟨Nat.le_of_ble_eq_true rfl, Nat.le_of_ble_eq_true rfl⟩ hl.1 rfl (Nat.le_of_ble_eq_true rfl) dX3_surrender_13 ⟨Nat.le_of_ble_eq_true rfl, Nat.le_of_ble_eq_true rfl⟩) ?_
  refine lv_topl (fun v1 ev1 => ?_)
  refine lv_lstore_n (lv' := [(3, .long v1), (2, .ref (ad (22 + 4 * j))), (0, .ref (ad 13)), (1, .int (nI j))]) hx hb dX3_surrender_16 rfl hl (by decide) rfl (fun ls hl => ?_)
  refine lv_aload_n hx hb dX3_surrender_17 rfl (lv_at hl 2 rfl) ?_
  refine lv_aload_n hx hb dX3_surrender_18 rfl (lv_at hl 1 rfl) ?_
  refine lv_iconst (v := 2) hx hb dX3_surrender_19 (by decide) ?_
  refine lv_lload_n hx hb dX3_surrender_20 rfl (lv_at hl 0 rfl) ?_
  refine z_backW0 (z_runV ⟨hx, hb, hml, hown, hT⟩ (rest := []) (As := [.ref (ad (22 + 4 * j)), .int 2, .long v1]) (c_X3_close (MI := MI) (MJ := MJ) (XI := XI) (XJ := XJ) l hD0 hI j 2 v1 (hj) (hG) _) k_X3_89 (z_preWV hK hP (hP.at (hI.1 13 (by decide)) rfl) rfl) rfl ⟨Nat.le_of_ble_eq_true rfl, Nat.le_of_ble_eq_true rfl⟩ hl.1 rfl (Nat.le_of_ble_eq_true rfl) dX3_surrender_21 ⟨Nat.le_of_ble_eq_true rfl, Nat.le_of_ble_eq_true rfl⟩) hS (hD.free (fun q hq => hA q (Nat.le_trans hS.1 hq))) (fun H locs hP hz1 hk1 hS => ?_)
  have hP : zP D Rs ad (gS ks ad np ng G MI MJ (u2 XI 15 j 2) (u2 (u2 (u2 (u2 (u2 XJ 7 (G j) ((XJ 7 (G j)) - Int32.toInt64 (XI 13 j))) 8 (G j) ((XJ 8 (G j)) - fRel (XJ 8 (G j)) (XI 13 j) (XJ 7 (G j)))) 4 0 ((XJ 4 0) + (fRel (XJ 8 (G j)) (XI 13 j) (XJ 7 (G j)) - v1))) 4 1 ((XJ 4 1) - v1)) 11 j v1)) H := hP
  refine lv_lload_n hx hb dX3_surrender_24 rfl (lv_at hl 0 rfl) ?_
  refine lv_l2i hx hb dX3_surrender_25 rfl ?_
  exact zW_i hx hb hr hlk hS (Nat.le_of_ble_eq_true rfl) (Nat.le_of_ble_eq_true rfl) dX3_surrender_26 (by subst ev1; rfl) (by subst ev1; exact hP)
set_option maxHeartbeats 4000000 in
set_option maxRecDepth 100000 in
theorem c_X3_setRates_ok (l : Launch) (hD0 : zD (fun _ => True) Rs ad) (hI : zIn Rs np ng) (bo : Int32) (ch : Int32) (h0 : fIn bo 0 200 = 1) (h1 : fIn ch 0 100 = 1) (sz : Nat) : zMW l yX3_setRates cX3_setRates 4 ((some .int)) 1 (22) 0 0 D ks sz [.ref (ad 13), .int bo, .int ch] (zP D Rs ad (gS ks ad np ng G MI MJ XI XJ)) (some (.int (XI 10 3))) (zP D Rs ad (gS ks ad np ng G MI MJ (u2 (u2 XI 10 3 bo) 10 4 ch) XJ)) (zA Rs ad sz) := by
  refine zMW.of (by decide +kernel) (Nat.le_of_ble_eq_true rfl) ?_
  intro p e s m below meth c ls hx hb hr hml hown hlk hT hsz hP hK hl hin
  have hl : lv_has ls 4 [(0, .ref (ad 13)), (1, .int bo), (2, .int ch)] := hl
  subst hsz
  have hD := hD0.self (sz := s.heap.size)
  have hA : ∀ q : Nat, s.heap.size ≤ q → zA Rs ad s.heap.size q := fun q h => Or.inr h
  have hS : va_S (zA Rs ad s.heap.size) s.heap s.heap [] := va_S.rf
  refine lv_iload_n hx hb dX3_setRates_0 rfl (lv_at hl 1 rfl) ?_
  refine lv_iconst (v := 0) hx hb dX3_setRates_1 (by decide) ?_
  refine lv_sipush (v := 200) hx hb dX3_setRates_2 (by decide) ?_
  refine z_backR1 (z_runS ⟨hx, hb, hml, hown, hT⟩ (rest := []) (As := [.int bo, .int 0, .int 200]) (c_X3_isWithin l D ks bo 0 200 ) k_X3_50 (z_preR hK trivial) rfl ⟨Nat.le_of_ble_eq_true rfl, Nat.le_of_ble_eq_true rfl⟩ hl.1 rfl (Nat.le_of_ble_eq_true rfl) dX3_setRates_5 ⟨Nat.le_of_ble_eq_true rfl, Nat.le_of_ble_eq_true rfl⟩) ?_
  refine lv_if_eq (tgt := 21) hx hb dX3_setRates_8 (by decide) (fun c_1 => ?_) (fun c_1 => ?_)
  · exact absurd ((h0).symm.trans c_1) (by decide)
  · refine lv_iload_n hx hb dX3_setRates_11 rfl (lv_at hl 2 rfl) ?_
    refine lv_iconst (v := 0) hx hb dX3_setRates_12 (by decide) ?_
    refine lv_bipush (v := 100) hx hb dX3_setRates_13 (by decide) ?_
    refine z_backR1 (z_runS ⟨hx, hb, hml, hown, hT⟩ (rest := []) (As := [.int ch, .int 0, .int 100]) (c_X3_isWithin l D ks ch 0 100 ) k_X3_50 (z_preR hK trivial) rfl ⟨Nat.le_of_ble_eq_true rfl, Nat.le_of_ble_eq_true rfl⟩ hl.1 rfl (Nat.le_of_ble_eq_true rfl) dX3_setRates_15 ⟨Nat.le_of_ble_eq_true rfl, Nat.le_of_ble_eq_true rfl⟩) ?_
    refine lv_if_ne (tgt := 31) hx hb dX3_setRates_18 (by decide) (fun c_2 => ?_) (fun c_2 => ?_)
    · refine lv_aload_n hx hb dX3_setRates_31 rfl (lv_at hl 0 rfl) ?_
      refine gf_X3_30 hx hb hT hown hK (hP.at (hI.1 13 (by decide)) rfl) rfl dX3_setRates_32 ?_
      refine lv_istore_n (lv' := [(3, .int (XI 10 3)), (0, .ref (ad 13)), (1, .int bo), (2, .int ch)]) hx hb dX3_setRates_35 rfl hl (by decide) rfl (fun ls hl => ?_)
      refine lv_aload_n hx hb dX3_setRates_36 rfl (lv_at hl 1 rfl) ?_
      refine lv_iload_n hx hb dX3_setRates_37 rfl (lv_at hl 2 rfl) ?_
      refine pf_X3_30 hx hb hT hown hK hP hD hS (hI.1 13 (by decide)) (v := bo) dX3_setRates_38 (fun H locs hP hS => ?_)
      refine lv_aload_n hx hb dX3_setRates_41 rfl (lv_at hl 1 rfl) ?_
      refine lv_iload_n hx hb dX3_setRates_42 rfl (lv_at hl 3 rfl) ?_
      refine pf_X3_34 hx hb hT hown hK hP hD hS (hI.1 13 (by decide)) (v := ch) dX3_setRates_43 (fun H locs hP hS => ?_)
      refine lv_iload_n hx hb dX3_setRates_46 rfl (lv_at hl 0 rfl) ?_
      exact zW_i hx hb hr hlk hS (Nat.le_of_ble_eq_true rfl) (Nat.le_of_ble_eq_true rfl) dX3_setRates_47 (rfl) (hP)
    · exact absurd ((h1).symm.trans c_2) (by decide)
set_option maxHeartbeats 4000000 in
set_option maxRecDepth 100000 in
theorem c_X3_setScale_ok (l : Launch) (hD0 : zD (fun _ => True) Rs ad) (hI : zIn Rs np ng) (sc : Int32) (sp : Int32) (fl : Int32) (h0 : fIn sc 500 1500 = 1) (h1 : fIn sp 0 1000 = 1) (h2 : fIn fl 0 1000 = 1) (sz : Nat) : zMW l yX3_setScale cX3_setScale 5 ((some .int)) 1 (22) 0 0 D ks sz [.ref (ad 13), .int sc, .int sp, .int fl] (zP D Rs ad (gS ks ad np ng G MI MJ XI XJ)) (some (.int (XI 10 5))) (zP D Rs ad (gS ks ad np ng G MI MJ (u2 (u2 (u2 XI 10 5 sc) 10 6 sp) 10 7 fl) XJ)) (zA Rs ad sz) := by
  refine zMW.of (by decide +kernel) (Nat.le_of_ble_eq_true rfl) ?_
  intro p e s m below meth c ls hx hb hr hml hown hlk hT hsz hP hK hl hin
  have hl : lv_has ls 5 [(0, .ref (ad 13)), (1, .int sc), (2, .int sp), (3, .int fl)] := hl
  subst hsz
  have hD := hD0.self (sz := s.heap.size)
  have hA : ∀ q : Nat, s.heap.size ≤ q → zA Rs ad s.heap.size q := fun q h => Or.inr h
  have hS : va_S (zA Rs ad s.heap.size) s.heap s.heap [] := va_S.rf
  refine lv_iload_n hx hb dX3_setScale_0 rfl (lv_at hl 1 rfl) ?_
  refine lv_sipush (v := 500) hx hb dX3_setScale_1 (by decide) ?_
  refine lv_sipush (v := 1500) hx hb dX3_setScale_4 (by decide) ?_
  refine z_backR1 (z_runS ⟨hx, hb, hml, hown, hT⟩ (rest := []) (As := [.int sc, .int 500, .int 1500]) (c_X3_isWithin l D ks sc 500 1500 ) k_X3_50 (z_preR hK trivial) rfl ⟨Nat.le_of_ble_eq_true rfl, Nat.le_of_ble_eq_true rfl⟩ hl.1 rfl (Nat.le_of_ble_eq_true rfl) dX3_setScale_7 ⟨Nat.le_of_ble_eq_true rfl, Nat.le_of_ble_eq_true rfl⟩) ?_
  refine lv_if_eq (tgt := 35) hx hb dX3_setScale_10 (by decide) (fun c_1 => ?_) (fun c_1 => ?_)
  · exact absurd ((h0).symm.trans c_1) (by decide)
  · refine lv_iload_n hx hb dX3_setScale_13 rfl (lv_at hl 2 rfl) ?_
    refine lv_iconst (v := 0) hx hb dX3_setScale_14 (by decide) ?_
    refine lv_sipush (v := 1000) hx hb dX3_setScale_15 (by decide) ?_
    refine z_backR1 (z_runS ⟨hx, hb, hml, hown, hT⟩ (rest := []) (As := [.int sp, .int 0, .int 1000]) (c_X3_isWithin l D ks sp 0 1000 ) k_X3_50 (z_preR hK trivial) rfl ⟨Nat.le_of_ble_eq_true rfl, Nat.le_of_ble_eq_true rfl⟩ hl.1 rfl (Nat.le_of_ble_eq_true rfl) dX3_setScale_18 ⟨Nat.le_of_ble_eq_true rfl, Nat.le_of_ble_eq_true rfl⟩) ?_
    refine lv_if_eq (tgt := 35) hx hb dX3_setScale_21 (by decide) (fun c_2 => ?_) (fun c_2 => ?_)
    · exact absurd ((h1).symm.trans c_2) (by decide)
    · refine lv_iload_n hx hb dX3_setScale_24 rfl (lv_at hl 3 rfl) ?_
      refine lv_iconst (v := 0) hx hb dX3_setScale_25 (by decide) ?_
      refine lv_sipush (v := 1000) hx hb dX3_setScale_26 (by decide) ?_
      refine z_backR1 (z_runS ⟨hx, hb, hml, hown, hT⟩ (rest := []) (As := [.int fl, .int 0, .int 1000]) (c_X3_isWithin l D ks fl 0 1000 ) k_X3_50 (z_preR hK trivial) rfl ⟨Nat.le_of_ble_eq_true rfl, Nat.le_of_ble_eq_true rfl⟩ hl.1 rfl (Nat.le_of_ble_eq_true rfl) dX3_setScale_29 ⟨Nat.le_of_ble_eq_true rfl, Nat.le_of_ble_eq_true rfl⟩) ?_
      refine lv_if_ne (tgt := 45) hx hb dX3_setScale_32 (by decide) (fun c_3 => ?_) (fun c_3 => ?_)
      · refine lv_aload_n hx hb dX3_setScale_45 rfl (lv_at hl 0 rfl) ?_
        refine gf_X3_37 hx hb hT hown hK (hP.at (hI.1 13 (by decide)) rfl) rfl dX3_setScale_46 ?_
        refine lv_istore (lv' := [(4, .int (XI 10 5)), (0, .ref (ad 13)), (1, .int sc), (2, .int sp), (3, .int fl)]) hx hb dX3_setScale_49 hl (by decide) rfl (fun ls hl => ?_)
        refine lv_aload_n hx hb dX3_setScale_51 rfl (lv_at hl 1 rfl) ?_
        refine lv_iload_n hx hb dX3_setScale_52 rfl (lv_at hl 2 rfl) ?_
        refine pf_X3_37 hx hb hT hown hK hP hD hS (hI.1 13 (by decide)) (v := sc) dX3_setScale_53 (fun H locs hP hS => ?_)
        refine lv_aload_n hx hb dX3_setScale_56 rfl (lv_at hl 1 rfl) ?_
        refine lv_iload_n hx hb dX3_setScale_57 rfl (lv_at hl 3 rfl) ?_
        refine pf_X3_40 hx hb hT hown hK hP hD hS (hI.1 13 (by decide)) (v := sp) dX3_setScale_58 (fun H locs hP hS => ?_)
        refine lv_aload_n hx hb dX3_setScale_61 rfl (lv_at hl 1 rfl) ?_
        refine lv_iload_n hx hb dX3_setScale_62 rfl (lv_at hl 4 rfl) ?_
        refine pf_X3_43 hx hb hT hown hK hP hD hS (hI.1 13 (by decide)) (v := fl) dX3_setScale_63 (fun H locs hP hS => ?_)
        refine lv_iload hx hb dX3_setScale_66 (lv_at hl 0 rfl) ?_
        exact zW_i hx hb hr hlk hS (Nat.le_of_ble_eq_true rfl) (Nat.le_of_ble_eq_true rfl) dX3_setScale_68 (rfl) (hP)
      · exact absurd ((h2).symm.trans c_3) (by decide)
set_option maxHeartbeats 4000000 in
set_option maxRecDepth 100000 in
theorem c_X3_endow_ok (l : Launch) (hD0 : zD (fun _ => True) Rs ad) (hI : zIn Rs np ng) (am : Int32) (h0 : fIn am (-1000000) 1000000 = 1) (sz : Nat) : zMW l yX3_endow cX3_endow 2 ((some .long)) 1 (22) 0 0 D ks sz [.ref (ad 13), .int am] (zP D Rs ad (gS ks ad np ng G MI MJ XI XJ)) (some (.long (XJ 4 0 + Int32.toInt64 am))) (zP D Rs ad (gS ks ad np ng G MI MJ XI (u2 (u2 XJ 4 0 (XJ 4 0 + Int32.toInt64 am)) 4 1 (XJ 4 1 + Int32.toInt64 am)))) (zA Rs ad sz) := by
  refine zMW.of (by decide +kernel) (Nat.le_of_ble_eq_true rfl) ?_
  intro p e s m below meth c ls hx hb hr hml hown hlk hT hsz hP hK hl hin
  have hl : lv_has ls 2 [(0, .ref (ad 13)), (1, .int am)] := hl
  subst hsz
  have hD := hD0.self (sz := s.heap.size)
  have hA : ∀ q : Nat, s.heap.size ≤ q → zA Rs ad s.heap.size q := fun q h => Or.inr h
  have hS : va_S (zA Rs ad s.heap.size) s.heap s.heap [] := va_S.rf
  refine lv_iload_n hx hb dX3_endow_0 rfl (lv_at hl 1 rfl) ?_
  refine lv_ldc (v := (-1000000)) hx hb hown (hT _ ki_X3_97) dX3_endow_1 ?_
  refine lv_ldc (v := 1000000) hx hb hown (hT _ ki_X3_98) dX3_endow_3 ?_
  refine z_backR1 (z_runS ⟨hx, hb, hml, hown, hT⟩ (rest := []) (As := [.int am, .int (-1000000), .int 1000000]) (c_X3_isWithin l D ks am (-1000000) 1000000 ) k_X3_50 (z_preR hK trivial) rfl ⟨Nat.le_of_ble_eq_true rfl, Nat.le_of_ble_eq_true rfl⟩ hl.1 rfl (Nat.le_of_ble_eq_true rfl) dX3_endow_5 ⟨Nat.le_of_ble_eq_true rfl, Nat.le_of_ble_eq_true rfl⟩) ?_
  refine lv_if_ne (tgt := 21) hx hb dX3_endow_8 (by decide) (fun c_1 => ?_) (fun c_1 => ?_)
  · refine lv_aload_n hx hb dX3_endow_21 rfl (lv_at hl 0 rfl) ?_
    refine lv_dup hx hb dX3_endow_22 rfl ?_
    refine gf_X3_101 hx hb hT hown hK (hP.at (hI.1 13 (by decide)) rfl) rfl dX3_endow_23 ?_
    refine lv_iload_n hx hb dX3_endow_26 rfl (lv_at hl 1 rfl) ?_
    refine lv_i2l hx hb dX3_endow_27 rfl ?_
    refine lv_ladd hx hb dX3_endow_28 ?_
    refine pf_X3_101 hx hb hT hown hK hP hD hS (hI.1 13 (by decide)) (v := (XJ 4 0) + (Int32.toInt64 am)) dX3_endow_29 (fun H locs hP hS => ?_)
    refine lv_aload_n hx hb dX3_endow_32 rfl (lv_at hl 0 rfl) ?_
    refine lv_dup hx hb dX3_endow_33 rfl ?_
    refine gf_X3_105 hx hb hT hown hK (v := .long (XJ 4 1)) (hP.at (hI.1 13 (by decide)) rfl) rfl dX3_endow_34 ?_
    refine lv_iload_n hx hb dX3_endow_37 rfl (lv_at hl 1 rfl) ?_
    refine lv_i2l hx hb dX3_endow_38 rfl ?_
    refine lv_ladd hx hb dX3_endow_39 ?_
    refine pf_X3_105 hx hb hT hown hK hP hD hS (hI.1 13 (by decide)) (v := (XJ 4 1) + (Int32.toInt64 am)) dX3_endow_40 (fun H locs hP hS => ?_)
    refine lv_aload_n hx hb dX3_endow_43 rfl (lv_at hl 0 rfl) ?_
    refine gf_X3_101 hx hb hT hown hK (v := .long ((XJ 4 0) + (Int32.toInt64 am))) (hP.at (hI.1 13 (by decide)) rfl) rfl dX3_endow_44 ?_
    exact zW_l hx hb hr hlk hS (Nat.le_of_ble_eq_true rfl) (Nat.le_of_ble_eq_true rfl) dX3_endow_47 (rfl) (hP)
  · exact absurd ((h0).symm.trans c_1) (by decide)
set_option maxHeartbeats 4000000 in
set_option maxRecDepth 100000 in
theorem c_X3_generation_ok (l : Launch) (hI : zIn Rs np ng) (i : Nat) (y : Int32) (te : Int32) (hG30 : ng ≤ 30) (h0 : fIn y 0 40 = 1) (h1 : fIn te 2 20 = 1) (hf : xF (XI 11) (XI 12) y te ng 0 = some i) (hi : i < ng) : zMR l yX3_generation cX3_generation 4 ((some .int)) 2 (42) D ks [.ref (ad 13), .int y, .int te] (zP D Rs ad (gS ks ad np ng G MI MJ XI XJ)) (some (.int (Int64.toInt32 (XJ 8 i)))) := by
  refine zMR.of (by decide +kernel) (Nat.le_of_ble_eq_true rfl) ?_
  intro p e s m below meth c ls hx hb hr hml hown hlk hT hP hK hl
  have hl : lv_has ls 4 [(0, .ref (ad 13)), (1, .int y), (2, .int te)] := hl
  refine lv_iload_n hx hb dX3_generation_0 rfl (lv_at hl 1 rfl) ?_
  refine lv_iconst (v := 0) hx hb dX3_generation_1 (by decide) ?_
  refine lv_bipush (v := 40) hx hb dX3_generation_2 (by decide) ?_
  refine z_backR1 (z_runS ⟨hx, hb, hml, hown, hT⟩ (rest := []) (As := [.int y, .int 0, .int 40]) (c_X3_isWithin l D ks y 0 40 ) k_X3_50 (z_preR hK trivial) rfl ⟨Nat.le_of_ble_eq_true rfl, Nat.le_of_ble_eq_true rfl⟩ hl.1 rfl (Nat.le_of_ble_eq_true rfl) dX3_generation_4 ⟨Nat.le_of_ble_eq_true rfl, Nat.le_of_ble_eq_true rfl⟩) ?_
  refine lv_if_eq (tgt := 17) hx hb dX3_generation_7 (by decide) (fun c_1 => ?_) (fun c_1 => ?_)
  · exact absurd ((h0).symm.trans c_1) (by decide)
  · refine lv_iload_n hx hb dX3_generation_10 rfl (lv_at hl 2 rfl) ?_
    refine z_backR1 (z_runS ⟨hx, hb, hml, hown, hT⟩ (rest := []) (As := [.int te]) (c_X3_isTerm l D ks te ) k_X3_46 (z_preR hK trivial) rfl ⟨Nat.le_of_ble_eq_true rfl, Nat.le_of_ble_eq_true rfl⟩ hl.1 rfl (Nat.le_of_ble_eq_true rfl) dX3_generation_11 ⟨Nat.le_of_ble_eq_true rfl, Nat.le_of_ble_eq_true rfl⟩) ?_
    refine lv_if_ne (tgt := 27) hx hb dX3_generation_14 (by decide) (fun c_2 => ?_) (fun c_2 => ?_)
    · refine lv_aload_n hx hb dX3_generation_27 rfl (lv_at hl 0 rfl) ?_
      refine lv_iload_n hx hb dX3_generation_28 rfl (lv_at hl 1 rfl) ?_
      refine lv_iload_n hx hb dX3_generation_29 rfl (lv_at hl 2 rfl) ?_
      refine z_backR1 (z_runV ⟨hx, hb, hml, hown, hT⟩ (rest := []) (As := [.int y, .int te]) (c_X3_findGeneration (MI := MI) (MJ := MJ) (XI := XI) (XJ := XJ) l hI y te (hG30)) k_X3_158 (z_preRV hK hP (hP.at (hI.1 13 (by decide)) rfl) rfl) rfl ⟨Nat.le_of_ble_eq_true rfl, Nat.le_of_ble_eq_true rfl⟩ hl.1 rfl (Nat.le_of_ble_eq_true rfl) dX3_generation_30 ⟨Nat.le_of_ble_eq_true rfl, Nat.le_of_ble_eq_true rfl⟩) ?_
      rw [show xF (XI 11) (XI 12) y te ng 0 = some i from hf]
      show W _ _ _ _ _ _ _ _ _ _ _ _ _ _ _ (F0 m 33 ls [.ref (ad (20 + 4 * i))])
      refine lv_astore_n (lv' := [(3, .ref (ad (20 + 4 * i))), (0, .ref (ad 13)), (1, .int y), (2, .int te)]) hx hb dX3_generation_33 rfl hl (by decide) rfl (fun ls hl => ?_)
      refine lv_aload_n hx hb dX3_generation_34 rfl (lv_at hl 0 rfl) ?_
      refine lv_ifnonnull (tgt := 42) hx hb dX3_generation_35 (by decide) ?_
      refine lv_aload_n hx hb dX3_generation_42 rfl (lv_at hl 0 rfl) ?_
      refine gf_X3_161 hx hb hT hown hK (hP.at (hI.2.1 i hi).1 gS_0) rfl dX3_generation_43 ?_
      refine gf_X3_151 hx hb hT hown hK (hP.at (hI.2.1 i hi).2 gS_1) rfl dX3_generation_46 ?_
      refine lv_l2i hx hb dX3_generation_49 rfl ?_
      exact zR_i hx hb hr hlk dX3_generation_50 (rfl)
    · exact absurd ((h1).symm.trans c_2) (by decide)
set_option maxHeartbeats 4000000 in
set_option maxRecDepth 100000 in
theorem c_X3_generation_none (l : Launch) (hI : zIn Rs np ng) (y : Int32) (te : Int32) (hG30 : ng ≤ 30) (h0 : fIn y 0 40 = 1) (h1 : fIn te 2 20 = 1) (hf : xF (XI 11) (XI 12) y te ng 0 = none) : zMR l yX3_generation cX3_generation 4 ((some .int)) 2 (42) D ks [.ref (ad 13), .int y, .int te] (zP D Rs ad (gS ks ad np ng G MI MJ XI XJ)) (some (.int (0))) := by
  refine zMR.of (by decide +kernel) (Nat.le_of_ble_eq_true rfl) ?_
  intro p e s m below meth c ls hx hb hr hml hown hlk hT hP hK hl
  have hl : lv_has ls 4 [(0, .ref (ad 13)), (1, .int y), (2, .int te)] := hl
  refine lv_iload_n hx hb dX3_generation_0 rfl (lv_at hl 1 rfl) ?_
  refine lv_iconst (v := 0) hx hb dX3_generation_1 (by decide) ?_
  refine lv_bipush (v := 40) hx hb dX3_generation_2 (by decide) ?_
  refine z_backR1 (z_runS ⟨hx, hb, hml, hown, hT⟩ (rest := []) (As := [.int y, .int 0, .int 40]) (c_X3_isWithin l D ks y 0 40 ) k_X3_50 (z_preR hK trivial) rfl ⟨Nat.le_of_ble_eq_true rfl, Nat.le_of_ble_eq_true rfl⟩ hl.1 rfl (Nat.le_of_ble_eq_true rfl) dX3_generation_4 ⟨Nat.le_of_ble_eq_true rfl, Nat.le_of_ble_eq_true rfl⟩) ?_
  refine lv_if_eq (tgt := 17) hx hb dX3_generation_7 (by decide) (fun c_1 => ?_) (fun c_1 => ?_)
  · exact absurd ((h0).symm.trans c_1) (by decide)
  · refine lv_iload_n hx hb dX3_generation_10 rfl (lv_at hl 2 rfl) ?_
    refine z_backR1 (z_runS ⟨hx, hb, hml, hown, hT⟩ (rest := []) (As := [.int te]) (c_X3_isTerm l D ks te ) k_X3_46 (z_preR hK trivial) rfl ⟨Nat.le_of_ble_eq_true rfl, Nat.le_of_ble_eq_true rfl⟩ hl.1 rfl (Nat.le_of_ble_eq_true rfl) dX3_generation_11 ⟨Nat.le_of_ble_eq_true rfl, Nat.le_of_ble_eq_true rfl⟩) ?_
    refine lv_if_ne (tgt := 27) hx hb dX3_generation_14 (by decide) (fun c_2 => ?_) (fun c_2 => ?_)
    · refine lv_aload_n hx hb dX3_generation_27 rfl (lv_at hl 0 rfl) ?_
      refine lv_iload_n hx hb dX3_generation_28 rfl (lv_at hl 1 rfl) ?_
      refine lv_iload_n hx hb dX3_generation_29 rfl (lv_at hl 2 rfl) ?_
      refine z_backR1 (z_runV ⟨hx, hb, hml, hown, hT⟩ (rest := []) (As := [.int y, .int te]) (c_X3_findGeneration (MI := MI) (MJ := MJ) (XI := XI) (XJ := XJ) l hI y te (hG30)) k_X3_158 (z_preRV hK hP (hP.at (hI.1 13 (by decide)) rfl) rfl) rfl ⟨Nat.le_of_ble_eq_true rfl, Nat.le_of_ble_eq_true rfl⟩ hl.1 rfl (Nat.le_of_ble_eq_true rfl) dX3_generation_30 ⟨Nat.le_of_ble_eq_true rfl, Nat.le_of_ble_eq_true rfl⟩) ?_
      rw [show xF (XI 11) (XI 12) y te ng 0 = none from hf]
      show W _ _ _ _ _ _ _ _ _ _ _ _ _ _ _ (F0 m 33 ls [.null])
      refine lv_astore_nN (lv' := [(3, .null), (0, .ref (ad 13)), (1, .int y), (2, .int te)]) hx hb dX3_generation_33 rfl hl (by decide) rfl (fun ls hl => ?_)
      refine lv_aload_nN hx hb dX3_generation_34 rfl (lv_at hl 0 rfl) ?_
      refine lv_ifnonnullN hx hb dX3_generation_35 ?_
      refine lv_iconst (v := 0) hx hb dX3_generation_38 (by decide) ?_
      refine lv_goto (tgt := 50) hx hb dX3_generation_39 (by decide) ?_
      exact zR_i hx hb hr hlk dX3_generation_50 (rfl)
    · exact absurd ((h1).symm.trans c_2) (by decide)
set_option maxHeartbeats 4000000 in
set_option maxRecDepth 100000 in
theorem c_X3_lastRatio_ok (l : Launch) (hI : zIn Rs np ng) (te : Int32) (h0 : fIn te 2 20 = 1) : zMR l yX3_lastRatio cX3_lastRatio 2 ((some .int)) 2 (42) D ks [.ref (ad 13), .int te] (zP D Rs ad (gS ks ad np ng G MI MJ XI XJ)) (some (.int (Int64.toInt32 (fRat (XJ 5) te)))) := by
  refine zMR.of (by decide +kernel) (Nat.le_of_ble_eq_true rfl) ?_
  intro p e s m below meth c ls hx hb hr hml hown hlk hT hP hK hl
  have hl : lv_has ls 2 [(0, .ref (ad 13)), (1, .int te)] := hl
  refine lv_iload_n hx hb dX3_lastRatio_0 rfl (lv_at hl 1 rfl) ?_
  refine z_backR1 (z_runS ⟨hx, hb, hml, hown, hT⟩ (rest := []) (As := [.int te]) (c_X3_isTerm l D ks te ) k_X3_46 (z_preR hK trivial) rfl ⟨Nat.le_of_ble_eq_true rfl, Nat.le_of_ble_eq_true rfl⟩ hl.1 rfl (Nat.le_of_ble_eq_true rfl) dX3_lastRatio_1 ⟨Nat.le_of_ble_eq_true rfl, Nat.le_of_ble_eq_true rfl⟩) ?_
  refine lv_if_ne (tgt := 17) hx hb dX3_lastRatio_4 (by decide) (fun c_1 => ?_) (fun c_1 => ?_)
  · refine lv_aload_n hx hb dX3_lastRatio_17 rfl (lv_at hl 0 rfl) ?_
    refine gf_X3_21 hx hb hT hown hK (hP.at (hI.1 13 (by decide)) rfl) rfl dX3_lastRatio_18 ?_
    refine lv_iload_n hx hb dX3_lastRatio_21 rfl (lv_at hl 1 rfl) ?_
    refine z_backR1 (z_runS ⟨hx, hb, hml, hown, hT⟩ (rest := []) (As := [.ref (ad 16), .int te]) (c_X3_ratioIn l 16 (hI.1 16 (by decide)) (XJ 5) rfl te) k_X3_169 (z_preR hK hP) rfl ⟨Nat.le_of_ble_eq_true rfl, Nat.le_of_ble_eq_true rfl⟩ hl.1 rfl (Nat.le_of_ble_eq_true rfl) dX3_lastRatio_22 ⟨Nat.le_of_ble_eq_true rfl, Nat.le_of_ble_eq_true rfl⟩) ?_
    refine lv_l2i hx hb dX3_lastRatio_25 rfl ?_
    exact zR_i hx hb hr hlk dX3_lastRatio_26 (rfl)
  · exact absurd ((h0).symm.trans c_1) (by decide)
set_option maxHeartbeats 4000000 in
set_option maxRecDepth 100000 in
theorem c_X3_year (l : Launch) (hI : zIn Rs np ng)  : zMR l yX3_year cX3_year 1 ((some .int)) 0 (0) D ks [.ref (ad 13)] (zP D Rs ad (gS ks ad np ng G MI MJ XI XJ)) (some (.int (XI 10 2))) := by
  refine zMR.of (by decide +kernel) (Nat.le_of_ble_eq_true rfl) ?_
  intro p e s m below meth c ls hx hb hr hml hown hlk hT hP hK hl
  have hl : lv_has ls 1 [(0, .ref (ad 13))] := hl
  refine lv_aload_n hx hb dX3_year_0 rfl (lv_at hl 0 rfl) ?_
  refine gf_X3_110 hx hb hT hown hK (hP.at (hI.1 13 (by decide)) rfl) rfl dX3_year_1 ?_
  exact zR_i hx hb hr hlk dX3_year_4 (rfl)
set_option maxHeartbeats 4000000 in
set_option maxRecDepth 100000 in
theorem c_X3_policies (l : Launch) (hI : zIn Rs np ng)  : zMR l yX3_policies cX3_policies 1 ((some .int)) 0 (0) D ks [.ref (ad 13)] (zP D Rs ad (gS ks ad np ng G MI MJ XI XJ)) (some (.int (XI 10 0))) := by
  refine zMR.of (by decide +kernel) (Nat.le_of_ble_eq_true rfl) ?_
  intro p e s m below meth c ls hx hb hr hml hown hlk hT hP hK hl
  have hl : lv_has ls 1 [(0, .ref (ad 13))] := hl
  refine lv_aload_n hx hb dX3_policies_0 rfl (lv_at hl 0 rfl) ?_
  refine gf_X3_62 hx hb hT hown hK (hP.at (hI.1 13 (by decide)) rfl) rfl dX3_policies_1 ?_
  exact zR_i hx hb hr hlk dX3_policies_4 (rfl)
set_option maxHeartbeats 4000000 in
set_option maxRecDepth 100000 in
theorem c_X3_estate (l : Launch) (hI : zIn Rs np ng)  : zMR l yX3_estate cX3_estate 1 ((some .long)) 0 (0) D ks [.ref (ad 13)] (zP D Rs ad (gS ks ad np ng G MI MJ XI XJ)) (some (.long (XJ 4 0))) := by
  refine zMR.of (by decide +kernel) (Nat.le_of_ble_eq_true rfl) ?_
  intro p e s m below meth c ls hx hb hr hml hown hlk hT hP hK hl
  have hl : lv_has ls 1 [(0, .ref (ad 13))] := hl
  refine lv_aload_n hx hb dX3_estate_0 rfl (lv_at hl 0 rfl) ?_
  refine gf_X3_101 hx hb hT hown hK (hP.at (hI.1 13 (by decide)) rfl) rfl dX3_estate_1 ?_
  exact zR_l hx hb hr hlk dX3_estate_4 (rfl)
set_option maxHeartbeats 4000000 in
set_option maxRecDepth 100000 in
theorem c_X3_assets (l : Launch) (hI : zIn Rs np ng)  : zMR l yX3_assets cX3_assets 1 ((some .long)) 0 (0) D ks [.ref (ad 13)] (zP D Rs ad (gS ks ad np ng G MI MJ XI XJ)) (some (.long (XJ 4 1))) := by
  refine zMR.of (by decide +kernel) (Nat.le_of_ble_eq_true rfl) ?_
  intro p e s m below meth c ls hx hb hr hml hown hlk hT hP hK hl
  have hl : lv_has ls 1 [(0, .ref (ad 13))] := hl
  refine lv_aload_n hx hb dX3_assets_0 rfl (lv_at hl 0 rfl) ?_
  refine gf_X3_105 hx hb hT hown hK (hP.at (hI.1 13 (by decide)) rfl) rfl dX3_assets_1 ?_
  exact zR_l hx hb hr hlk dX3_assets_4 (rfl)
def xSh (XJ : Nat → Nat → Int64) (ng : Nat) : Nat → Int64
  | 0 => XJ 4 0
  | k + 1 => if k < ng then xSh XJ ng k + XJ 8 k else xSh XJ ng k
def xSf1 (XI : Nat → Nat → Int32) (XJ : Nat → Nat → Int64) (G : Nat → Nat) (k : Nat) : Int64 := fMax 0 (Int32.toInt64 (XI 14 k) + XJ 10 k - fAsset (XI 15 k) (XJ 8 (G k)) (XI 13 k) (XJ 7 (G k)))
def xSf (XI : Nat → Nat → Int32) (XJ : Nat → Nat → Int64) (G : Nat → Nat) (np : Nat) : Nat → Int64
  | 0 => 0
  | k + 1 => if k < np ∧ XI 15 k = 0 then xSf XI XJ G np k + xSf1 XI XJ G k else xSf XI XJ G np k
set_option maxHeartbeats 4000000 in
set_option maxRecDepth 100000 in
theorem c_X3_sharesAndEstate (l : Launch) (hI : zIn Rs np ng) (hok : xOK XI G np ng) : zMR l yX3_sharesAndEstate cX3_sharesAndEstate 5 ((some .long)) 0 (0) D ks [.ref (ad 13)] (zP D Rs ad (gS ks ad np ng G MI MJ XI XJ)) (some (.long (xSh XJ ng 30))) := by
  refine zMR.of (by decide +kernel) (Nat.le_of_ble_eq_true rfl) ?_
  intro p e s m below meth c ls hx hb hr hml hown hlk hT hP hK hl
  have hl : lv_has ls 5 [(0, .ref (ad 13))] := hl
  have L : ∀ (n k : Nat) (f : Int64) (ls : Array Slot), k + n = 30 → f = xSh XJ ng k → lv_has ls 5 [(3, .int (nI k)), (1, .long f), (0, .ref (ad 13))] → W p l e (zRm 0 (0) 0 0) s m ([.ref (ad 13)] : List Value).toArray below meth c s.heap [] 0 0 (MQ below (zQR (some (.long (xSh XJ ng 30)))) ([.ref (ad 13)] : List Value).toArray s 0 0 (fun _ => False)) (F0 m 7 ls []) := by
    intro n
    induction n with
    | zero =>
      intro k f ls hkn hf hl
      have hk0 : k = 30 := by omega
      refine lv_iload_n hx hb dX3_sharesAndEstate_7 rfl (lv_at hl 0 rfl) ?_
      refine lv_aload_n hx hb dX3_sharesAndEstate_8 rfl (lv_at hl 2 rfl) ?_
      refine gf_X3_17 hx hb hT hown hK (hP.at (hI.1 13 (by decide)) rfl) rfl dX3_sharesAndEstate_9 ?_
      refine z_glen hx hb hK (hP.at (hI.1 15 (by decide)) rfl) (v := 30) rfl dX3_sharesAndEstate_12 ?_
      refine lv_icmp_ge (tgt := 46) hx hb dX3_sharesAndEstate_13 (by decide) (fun c_1 => ?_) (fun c_1 => ?_)
      · refine lv_lload_n hx hb dX3_sharesAndEstate_46 rfl (lv_at hl 1 rfl) ?_
        exact zR_l hx hb hr hlk dX3_sharesAndEstate_47 (by rw [hf, hk0])
      · exact absurd (nI_le (a := 30) (b := k) (by omega) (by omega)) c_1
    | succ n ih =>
      intro k f ls hkn hf hl
      have hk : k < 30 := by omega
      refine lv_iload_n hx hb dX3_sharesAndEstate_7 rfl (lv_at hl 0 rfl) ?_
      refine lv_aload_n hx hb dX3_sharesAndEstate_8 rfl (lv_at hl 2 rfl) ?_
      refine gf_X3_17 hx hb hT hown hK (hP.at (hI.1 13 (by decide)) rfl) rfl dX3_sharesAndEstate_9 ?_
      refine z_glen hx hb hK (hP.at (hI.1 15 (by decide)) rfl) (v := 30) rfl dX3_sharesAndEstate_12 ?_
      refine lv_icmp_ge (tgt := 46) hx hb dX3_sharesAndEstate_13 (by decide) (fun c_2 => ?_) (fun c_2 => ?_)
      · exact absurd c_2 (nI_ge (a := k) (b := 30) hk (by decide))
      · refine lv_aload_n hx hb dX3_sharesAndEstate_16 rfl (lv_at hl 2 rfl) ?_
        refine gf_X3_17 hx hb hT hown hK (hP.at (hI.1 13 (by decide)) rfl) rfl dX3_sharesAndEstate_17 ?_
        refine lv_iload_n hx hb dX3_sharesAndEstate_20 rfl (lv_at hl 0 rfl) ?_
        refine z_galdN hx hb hK (hP.at (hI.1 15 (by decide)) rfl) (hk) (by decide) rfl dX3_sharesAndEstate_21 ?_
        rcases Nat.lt_or_ge k ng with hg | hg
        · rw [show rGen ad ng k = some (ad (20 + 4 * k)) from if_pos hg]
          show W _ _ _ _ _ _ _ _ _ _ _ _ _ _ _ (F0 m 22 ls (.ref (ad (20 + 4 * k)) :: []))
          refine lv_astore (lv' := [(4, .ref (ad (20 + 4 * k))), (3, .int (nI k)), (1, .long f), (0, .ref (ad 13))]) hx hb dX3_sharesAndEstate_22 hl (by decide) rfl (fun ls hl => ?_)
          refine lv_aload hx hb dX3_sharesAndEstate_24 (lv_at hl 0 rfl) ?_
          refine lv_ifnull hx hb dX3_sharesAndEstate_26 ?_
          refine lv_lload_n hx hb dX3_sharesAndEstate_29 rfl (lv_at hl 2 rfl) ?_
          refine lv_aload hx hb dX3_sharesAndEstate_30 (lv_at hl 0 rfl) ?_
          refine gf_X3_161 hx hb hT hown hK (hP.at (hI.2.1 k hg).1 gS_0) rfl dX3_sharesAndEstate_32 ?_
          refine gf_X3_151 hx hb hT hown hK (hP.at (hI.2.1 k hg).2 gS_1) rfl dX3_sharesAndEstate_35 ?_
          refine lv_ladd hx hb dX3_sharesAndEstate_38 ?_
          refine lv_lstore_n (lv' := [(1, .long (f + (XJ 8 k))), (4, .ref (ad (20 + 4 * k))), (3, .int (nI k)), (0, .ref (ad 13))]) hx hb dX3_sharesAndEstate_39 rfl hl (by decide) rfl (fun ls hl => ?_)
          refine lv_iinc (v := nI (k + 1)) (lv' := [(3, .int (nI (k + 1))), (1, .long (f + (XJ 8 k))), (4, .ref (ad (20 + 4 * k))), (0, .ref (ad 13))]) hx hb dX3_sharesAndEstate_40 hl (k := 2) rfl (nI_1 k) (by decide) rfl (fun ls hl => ?_)
          refine lv_goto (tgt := 7) hx hb dX3_sharesAndEstate_43 (by decide) ?_
          exact ih (k + 1) (f + (XJ 8 k)) _ (by omega) (by simp only [xSh]; rw [hf]; exact (if_pos hg).symm) (lv_sub hl [0, 1, 3] rfl)
        · have hg : ¬ k < ng := Nat.not_lt.mpr hg
          rw [show rGen ad ng k = none from if_neg hg]
          show W _ _ _ _ _ _ _ _ _ _ _ _ _ _ _ (F0 m 22 ls (.null :: []))
          refine lv_astoreN (lv' := [(4, .null), (3, .int (nI k)), (1, .long f), (0, .ref (ad 13))]) hx hb dX3_sharesAndEstate_22 hl (by decide) rfl (fun ls hl => ?_)
          refine lv_aloadN hx hb dX3_sharesAndEstate_24 (lv_at hl 0 rfl) ?_
          refine lv_ifnullN (tgt := 40) hx hb dX3_sharesAndEstate_26 (by decide) ?_
          refine lv_iinc (v := nI (k + 1)) (lv' := [(3, .int (nI (k + 1))), (4, .null), (1, .long f), (0, .ref (ad 13))]) hx hb dX3_sharesAndEstate_40 hl (k := 1) rfl (nI_1 k) (by decide) rfl (fun ls hl => ?_)
          refine lv_goto (tgt := 7) hx hb dX3_sharesAndEstate_43 (by decide) ?_
          exact ih (k + 1) (f) _ (by omega) (by simp only [xSh]; rw [hf]; exact (if_neg hg).symm) (lv_sub hl [0, 2, 3] rfl)
  refine lv_aload_n hx hb dX3_sharesAndEstate_0 rfl (lv_at hl 0 rfl) ?_
  refine gf_X3_101 hx hb hT hown hK (hP.at (hI.1 13 (by decide)) rfl) rfl dX3_sharesAndEstate_1 ?_
  refine lv_lstore_n (lv' := [(1, .long (XJ 4 0)), (0, .ref (ad 13))]) hx hb dX3_sharesAndEstate_4 rfl hl (by decide) rfl (fun ls hl => ?_)
  refine lv_iconst (v := 0) hx hb dX3_sharesAndEstate_5 (by decide) ?_
  refine lv_istore_n (lv' := [(3, .int 0), (1, .long (XJ 4 0)), (0, .ref (ad 13))]) hx hb dX3_sharesAndEstate_6 rfl hl (by decide) rfl (fun ls hl => ?_)
  have hl := (show lv_has ls 5 [(3, .int (nI 0)), (1, .long (XJ 4 0)), (0, .ref (ad 13))] from (lv_sub hl [0, 1, 2] rfl))
  exact L 30 0 _ _ (by omega) rfl hl
set_option maxHeartbeats 4000000 in
set_option maxRecDepth 100000 in
theorem c_X3_shortfall (l : Launch) (hI : zIn Rs np ng) (hok : xOK XI G np ng) : zMR l yX3_shortfall cX3_shortfall 5 ((some .int)) 3 (64) D ks [.ref (ad 13)] (zP D Rs ad (gS ks ad np ng G MI MJ XI XJ)) (some (.int (Int64.toInt32 (xSf XI XJ G np 30)))) := by
  refine zMR.of (by decide +kernel) (Nat.le_of_ble_eq_true rfl) ?_
  intro p e s m below meth c ls hx hb hr hml hown hlk hT hP hK hl
  have hl : lv_has ls 5 [(0, .ref (ad 13))] := hl
  have L : ∀ (n k : Nat) (f : Int64) (ls : Array Slot), k + n = 30 → f = xSf XI XJ G np k → lv_has ls 5 [(3, .int (nI k)), (1, .long f), (0, .ref (ad 13))] → W p l e (zRm 3 (64) 0 0) s m ([.ref (ad 13)] : List Value).toArray below meth c s.heap [] 0 0 (MQ below (zQR (some (.int (Int64.toInt32 (xSf XI XJ G np 30))))) ([.ref (ad 13)] : List Value).toArray s 0 0 (fun _ => False)) (F0 m 4 ls []) := by
    intro n
    induction n with
    | zero =>
      intro k f ls hkn hf hl
      have hk0 : k = 30 := by omega
      refine lv_iload_n hx hb dX3_shortfall_4 rfl (lv_at hl 0 rfl) ?_
      refine lv_aload_n hx hb dX3_shortfall_5 rfl (lv_at hl 2 rfl) ?_
      refine gf_X3_11 hx hb hT hown hK (hP.at (hI.1 13 (by decide)) rfl) rfl dX3_shortfall_6 ?_
      refine z_plen hx hb hK (hP.at (hI.1 14 (by decide)) rfl) (v := 30) rfl dX3_shortfall_9 ?_
      refine lv_icmp_ge (tgt := 58) hx hb dX3_shortfall_10 (by decide) (fun c_1 => ?_) (fun c_1 => ?_)
      · refine lv_lload_n hx hb dX3_shortfall_58 rfl (lv_at hl 1 rfl) ?_
        refine lv_l2i hx hb dX3_shortfall_59 rfl ?_
        exact zR_i hx hb hr hlk dX3_shortfall_60 (by rw [hf, hk0])
      · exact absurd (nI_le (a := 30) (b := k) (by omega) (by omega)) c_1
    | succ n ih =>
      intro k f ls hkn hf hl
      have hk : k < 30 := by omega
      refine lv_iload_n hx hb dX3_shortfall_4 rfl (lv_at hl 0 rfl) ?_
      refine lv_aload_n hx hb dX3_shortfall_5 rfl (lv_at hl 2 rfl) ?_
      refine gf_X3_11 hx hb hT hown hK (hP.at (hI.1 13 (by decide)) rfl) rfl dX3_shortfall_6 ?_
      refine z_plen hx hb hK (hP.at (hI.1 14 (by decide)) rfl) (v := 30) rfl dX3_shortfall_9 ?_
      refine lv_icmp_ge (tgt := 58) hx hb dX3_shortfall_10 (by decide) (fun c_2 => ?_) (fun c_2 => ?_)
      · exact absurd c_2 (nI_ge (a := k) (b := 30) hk (by decide))
      · refine lv_aload_n hx hb dX3_shortfall_13 rfl (lv_at hl 2 rfl) ?_
        refine gf_X3_11 hx hb hT hown hK (hP.at (hI.1 13 (by decide)) rfl) rfl dX3_shortfall_14 ?_
        refine lv_iload_n hx hb dX3_shortfall_17 rfl (lv_at hl 0 rfl) ?_
        refine z_paldN hx hb hK (hP.at (hI.1 14 (by decide)) rfl) (hk) (by decide) rfl dX3_shortfall_18 ?_
        rcases Nat.lt_or_ge k np with hg | hg
        · rw [show rPol ad np k = some (ad (22 + 4 * k)) from if_pos hg]
          show W _ _ _ _ _ _ _ _ _ _ _ _ _ _ _ (F0 m 19 ls (.ref (ad (22 + 4 * k)) :: []))
          refine lv_astore (lv' := [(4, .ref (ad (22 + 4 * k))), (3, .int (nI k)), (1, .long f), (0, .ref (ad 13))]) hx hb dX3_shortfall_19 hl (by decide) rfl (fun ls hl => ?_)
          refine lv_aload hx hb dX3_shortfall_21 (lv_at hl 0 rfl) ?_
          refine lv_ifnull hx hb dX3_shortfall_23 ?_
          refine lv_aload hx hb dX3_shortfall_26 (lv_at hl 0 rfl) ?_
          refine z_backR1 (z_runVN ⟨hx, hb, hml, hown, hT⟩ hK (rest := []) (As := []) (c_X2_isInForce (MI := MI) (MJ := MJ) (XI := XI) (XJ := XJ) l hI k (hg)) k_X3_143 (z_preRV hK hP (hP.at (hI.2.2 k hg).1 gS_2) rfl) rfl ⟨Nat.le_of_ble_eq_true rfl, Nat.le_of_ble_eq_true rfl⟩ hl.1 rfl (Nat.le_of_ble_eq_true rfl) dX3_shortfall_28 ⟨Nat.le_of_ble_eq_true rfl, Nat.le_of_ble_eq_true rfl⟩) ?_
          refine lv_if_eq (tgt := 52) hx hb dX3_shortfall_31 (by decide) (fun c_3 => ?_) (fun c_3 => ?_)
          · refine lv_iinc (v := nI (k + 1)) (lv' := [(3, .int (nI (k + 1))), (4, .ref (ad (22 + 4 * k))), (1, .long f), (0, .ref (ad 13))]) hx hb dX3_shortfall_52 hl (k := 1) rfl (nI_1 k) (by decide) rfl (fun ls hl => ?_)
            refine lv_goto (tgt := 4) hx hb dX3_shortfall_55 (by decide) ?_
            exact ih (k + 1) (f) _ (by omega) (by simp only [xSf]; rw [hf]; exact (if_neg (fun h => absurd ((if_pos h.2).symm.trans c_3 : (1 : Int32) = 0) (by decide))).symm) (lv_sub hl [0, 2, 3] rfl)
          · refine lv_lload_n hx hb dX3_shortfall_34 rfl (lv_at hl 2 rfl) ?_
            refine lv_lconst (v := 0) hx hb dX3_shortfall_35 (by decide) ?_
            refine lv_aload hx hb dX3_shortfall_36 (lv_at hl 0 rfl) ?_
            refine z_backR1 (z_runVN ⟨hx, hb, hml, hown, hT⟩ hK (rest := [.long 0, .long f]) (As := []) (c_X2_guaranteed (MI := MI) (MJ := MJ) (XI := XI) (XJ := XJ) l hI k (hg)) k_X3_173 (z_preRV hK hP (hP.at (hI.2.2 k hg).1 gS_2) rfl) rfl ⟨Nat.le_of_ble_eq_true rfl, Nat.le_of_ble_eq_true rfl⟩ hl.1 rfl (Nat.le_of_ble_eq_true rfl) dX3_shortfall_38 ⟨Nat.le_of_ble_eq_true rfl, Nat.le_of_ble_eq_true rfl⟩) ?_
            refine lv_aload hx hb dX3_shortfall_41 (lv_at hl 0 rfl) ?_
            refine z_backR1 (z_runVN ⟨hx, hb, hml, hown, hT⟩ hK (rest := [.long (Int32.toInt64 (XI 14 k) + XJ 10 k), .long 0, .long f]) (As := []) (c_X2_assetShare (MI := MI) (MJ := MJ) (XI := XI) (XJ := XJ) l hI k (hg) (hok.2.2.1 k hg)) k_X3_139 (z_preRV hK hP (hP.at (hI.2.2 k hg).1 gS_2) rfl) rfl ⟨Nat.le_of_ble_eq_true rfl, Nat.le_of_ble_eq_true rfl⟩ hl.1 rfl (Nat.le_of_ble_eq_true rfl) dX3_shortfall_43 ⟨Nat.le_of_ble_eq_true rfl, Nat.le_of_ble_eq_true rfl⟩) ?_
            refine lv_lsub hx hb dX3_shortfall_46 ?_
            refine va_mmax_long hx hb (hml.trans hl.1.symm) hown (hT _ ml_X3_176) (hT _ sm_yJ9_max_f86c9) (hT _ in_J9) (hT _ co_yJ9_max_f86c9) (Nat.le_of_ble_eq_true rfl) (Nat.le_of_ble_eq_true rfl) (Nat.le_of_ble_eq_true rfl) (Nat.le_of_ble_eq_true rfl) dX3_shortfall_47 ?_
            refine lv_ladd hx hb dX3_shortfall_50 ?_
            refine lv_topl (fun v4 ev4 => ?_)
            refine lv_lstore_n (lv' := [(1, .long v4), (4, .ref (ad (22 + 4 * k))), (3, .int (nI k)), (0, .ref (ad 13))]) hx hb dX3_shortfall_51 rfl hl (by decide) rfl (fun ls hl => ?_)
            refine lv_iinc (v := nI (k + 1)) (lv' := [(3, .int (nI (k + 1))), (1, .long v4), (4, .ref (ad (22 + 4 * k))), (0, .ref (ad 13))]) hx hb dX3_shortfall_52 hl (k := 2) rfl (nI_1 k) (by decide) rfl (fun ls hl => ?_)
            refine lv_goto (tgt := 4) hx hb dX3_shortfall_55 (by decide) ?_
            exact ih (k + 1) (v4) _ (by omega) (by subst ev4; simp only [xSf]; rw [hf]; exact (if_pos ⟨hg, Decidable.byContradiction fun h9 => c_3 (if_neg h9)⟩).symm) (lv_sub hl [0, 1, 3] rfl)
        · have hg : ¬ k < np := Nat.not_lt.mpr hg
          rw [show rPol ad np k = none from if_neg hg]
          show W _ _ _ _ _ _ _ _ _ _ _ _ _ _ _ (F0 m 19 ls (.null :: []))
          refine lv_astoreN (lv' := [(4, .null), (3, .int (nI k)), (1, .long f), (0, .ref (ad 13))]) hx hb dX3_shortfall_19 hl (by decide) rfl (fun ls hl => ?_)
          refine lv_aloadN hx hb dX3_shortfall_21 (lv_at hl 0 rfl) ?_
          refine lv_ifnullN (tgt := 52) hx hb dX3_shortfall_23 (by decide) ?_
          refine lv_iinc (v := nI (k + 1)) (lv' := [(3, .int (nI (k + 1))), (4, .null), (1, .long f), (0, .ref (ad 13))]) hx hb dX3_shortfall_52 hl (k := 1) rfl (nI_1 k) (by decide) rfl (fun ls hl => ?_)
          refine lv_goto (tgt := 4) hx hb dX3_shortfall_55 (by decide) ?_
          exact ih (k + 1) (f) _ (by omega) (by simp only [xSf]; rw [hf]; exact (if_neg (fun h => hg h.1)).symm) (lv_sub hl [0, 2, 3] rfl)
  refine lv_lconst (v := 0) hx hb dX3_shortfall_0 (by decide) ?_
  refine lv_lstore_n (lv' := [(1, .long 0), (0, .ref (ad 13))]) hx hb dX3_shortfall_1 rfl hl (by decide) rfl (fun ls hl => ?_)
  refine lv_iconst (v := 0) hx hb dX3_shortfall_2 (by decide) ?_
  refine lv_istore_n (lv' := [(3, .int 0), (1, .long 0), (0, .ref (ad 13))]) hx hb dX3_shortfall_3 rfl hl (by decide) rfl (fun ls hl => ?_)
  have hl := (show lv_has ls 5 [(3, .int (nI 0)), (1, .long (0)), (0, .ref (ad 13))] from (lv_sub hl [0, 1, 2] rfl))
  exact L 30 0 _ _ (by omega) rfl hl
def xJ3 (XI : Nat → Nat → Int32) (XJ : Nat → Nat → Int64) (rt : Int32) (np ng : Nat) : Nat → Nat → Int64 :=
  xGB XI np 30 (xPA XI np rt 30 (u2 (u2 (xGG XI ng rt 30 XJ) 4 0 (xGG XI ng rt 30 XJ 4 0 + fThou (XJ 4 0) (Int32.toInt64 rt))) 4 1 (xGG XI ng rt 30 XJ 4 1 + fThou (XJ 4 0) (Int32.toInt64 rt))))
def xS0 (XI : Nat → Nat → Int32) (XJ : Nat → Nat → Int64) (rt : Int32) (np ng : Nat) : xST := (XI, xCpy 21 (xJ3 XI XJ rt np ng))
def xRunI (XI : Nat → Nat → Int32) (XJ : Nat → Nat → Int64) (G : Nat → Nat) (rt : Int32) (np ng : Nat) : Nat → Nat → Int32 := u2 (xMtS np G 30 (xS0 XI XJ rt np ng)).1 10 2 ((xMtS np G 30 (xS0 XI XJ rt np ng)).1 10 2 + 1)
def xRunJ (XI : Nat → Nat → Int32) (XJ : Nat → Nat → Int64) (G : Nat → Nat) (rt : Int32) (np ng : Nat) : Nat → Nat → Int64 := (xMtS np G 30 (xS0 XI XJ rt np ng)).2
set_option maxHeartbeats 4000000 in
set_option maxRecDepth 100000 in
theorem c_X3_run_ok (l : Launch) (hD0 : zD (fun _ => True) Rs ad) (hI : zIn Rs np ng) (rt : Int32) (hok : xOK XI G np ng) (h0 : fIn rt (-200) 200 = 1) (hy : XI 10 2 < 40) (sz : Nat) : zMW l yX3_run cX3_run 5 ((some .int)) 6 (144) 0 0 D ks sz [.ref (ad 13), .int rt] (zP D Rs ad (gS ks ad np ng G MI MJ XI XJ)) (some (.int (nI (xMtN np G 30 (xS0 XI XJ rt np ng))))) (zP D Rs ad (gS ks ad np ng G MI MJ (xRunI XI XJ G rt np ng) (xRunJ XI XJ G rt np ng))) (zA Rs ad sz) := by
  refine zMW.of (by decide +kernel) (Nat.le_of_ble_eq_true rfl) ?_
  intro p e s m below meth c ls hx hb hr hml hown hlk hT hsz hP hK hl hin
  have hl : lv_has ls 5 [(0, .ref (ad 13)), (1, .int rt)] := hl
  subst hsz
  have hD := hD0.self (sz := s.heap.size)
  have hA : ∀ q : Nat, s.heap.size ≤ q → zA Rs ad s.heap.size q := fun q h => Or.inr h
  have hS : va_S (zA Rs ad s.heap.size) s.heap s.heap [] := va_S.rf
  refine lv_iload_n hx hb dX3_run_0 rfl (lv_at hl 1 rfl) ?_
  refine lv_sipush (v := (-200)) hx hb dX3_run_1 (by decide) ?_
  refine lv_sipush (v := 200) hx hb dX3_run_4 (by decide) ?_
  refine z_backR1 (z_runS ⟨hx, hb, hml, hown, hT⟩ (rest := []) (As := [.int rt, .int (-200), .int 200]) (c_X3_isWithin l D ks rt (-200) 200 ) k_X3_50 (z_preR hK trivial) rfl ⟨Nat.le_of_ble_eq_true rfl, Nat.le_of_ble_eq_true rfl⟩ hl.1 rfl (Nat.le_of_ble_eq_true rfl) dX3_run_7 ⟨Nat.le_of_ble_eq_true rfl, Nat.le_of_ble_eq_true rfl⟩) ?_
  refine lv_if_ne (tgt := 23) hx hb dX3_run_10 (by decide) (fun c_1 => ?_) (fun c_1 => ?_)
  · refine lv_aload_n hx hb dX3_run_23 rfl (lv_at hl 0 rfl) ?_
    refine gf_X3_110 hx hb hT hown hK (hP.at (hI.1 13 (by decide)) rfl) rfl dX3_run_24 ?_
    refine lv_bipush (v := 40) hx hb dX3_run_27 (by decide) ?_
    refine lv_icmp_lt (tgt := 42) hx hb dX3_run_29 (by decide) (fun c_2 => ?_) (fun c_2 => ?_)
    · refine lv_aload_n hx hb dX3_run_42 rfl (lv_at hl 0 rfl) ?_
      refine gf_X3_101 hx hb hT hown hK (hP.at (hI.1 13 (by decide)) rfl) rfl dX3_run_43 ?_
      refine lv_iload_n hx hb dX3_run_46 rfl (lv_at hl 1 rfl) ?_
      refine lv_i2l hx hb dX3_run_47 rfl ?_
      refine z_backR1 (z_runS ⟨hx, hb, hml, hown, hT⟩ (rest := []) (As := [.long (XJ 4 0), .long (Int32.toInt64 rt)]) (c_X3_thousandths l D ks (XJ 4 0) (Int32.toInt64 rt) ) k_X3_115 (z_preR hK trivial) rfl ⟨Nat.le_of_ble_eq_true rfl, Nat.le_of_ble_eq_true rfl⟩ hl.1 rfl (Nat.le_of_ble_eq_true rfl) dX3_run_48 ⟨Nat.le_of_ble_eq_true rfl, Nat.le_of_ble_eq_true rfl⟩) ?_
      refine lv_lstore_n (lv' := [(2, .long (fThou (XJ 4 0) (Int32.toInt64 rt))), (0, .ref (ad 13)), (1, .int rt)]) hx hb dX3_run_51 rfl hl (by decide) rfl (fun ls hl => ?_)
      refine lv_aload_n hx hb dX3_run_52 rfl (lv_at hl 1 rfl) ?_
      refine lv_iload_n hx hb dX3_run_53 rfl (lv_at hl 2 rfl) ?_
      refine z_backW0 (z_runV ⟨hx, hb, hml, hown, hT⟩ (rest := []) (As := [.int rt]) (c_X3_growGenerations (MI := MI) (MJ := MJ) (XI := XI) (XJ := XJ) l hD0 hI rt (hok) _) k_X3_119 (z_preWV hK hP (hP.at (hI.1 13 (by decide)) rfl) rfl) rfl ⟨Nat.le_of_ble_eq_true rfl, Nat.le_of_ble_eq_true rfl⟩ hl.1 rfl (Nat.le_of_ble_eq_true rfl) dX3_run_54 ⟨Nat.le_of_ble_eq_true rfl, Nat.le_of_ble_eq_true rfl⟩) hS (hD.free (fun q hq => hA q (Nat.le_trans hS.1 hq))) (fun H locs hP hz1 hk1 hS => ?_)
      have hP : zP D Rs ad (gS ks ad np ng G MI MJ XI (xGG XI ng rt 30 XJ)) H := hP
      refine lv_aload_n hx hb dX3_run_57 rfl (lv_at hl 1 rfl) ?_
      refine lv_dup hx hb dX3_run_58 rfl ?_
      refine gf_X3_101 hx hb hT hown hK (hP.at (hI.1 13 (by decide)) rfl) rfl dX3_run_59 ?_
      refine lv_lload_n hx hb dX3_run_62 rfl (lv_at hl 0 rfl) ?_
      refine lv_ladd hx hb dX3_run_63 ?_
      refine lv_topl (fun v3 ev3 => ?_)
      refine pf_X3_101 hx hb hT hown hK hP hD hS (hI.1 13 (by decide)) (v := v3) dX3_run_64 (fun H locs hP hS => ?_)
      refine lv_aload_n hx hb dX3_run_67 rfl (lv_at hl 1 rfl) ?_
      refine lv_dup hx hb dX3_run_68 rfl ?_
      refine gf_X3_105 hx hb hT hown hK (v := .long ((xGG XI ng rt 30 XJ) 4 1)) (hP.at (hI.1 13 (by decide)) rfl) rfl dX3_run_69 ?_
      refine lv_lload_n hx hb dX3_run_72 rfl (lv_at hl 0 rfl) ?_
      refine lv_ladd hx hb dX3_run_73 ?_
      refine lv_topl (fun v4 ev4 => ?_)
      refine pf_X3_105 hx hb hT hown hK hP hD hS (hI.1 13 (by decide)) (v := v4) dX3_run_74 (fun H locs hP hS => ?_)
      refine lv_aload_n hx hb dX3_run_77 rfl (lv_at hl 1 rfl) ?_
      refine lv_iload_n hx hb dX3_run_78 rfl (lv_at hl 2 rfl) ?_
      refine z_backW0 (z_runV ⟨hx, hb, hml, hown, hT⟩ (rest := []) (As := [.int rt]) (c_X3_growPoliciesAlone (MI := MI) (MJ := MJ) (XI := XI) (XJ := u2 (u2 (xGG XI ng rt 30 XJ) 4 0 v3) 4 1 v4) l hD0 hI rt (hok) _) k_X3_123 (z_preWV hK hP (hP.at (hI.1 13 (by decide)) rfl) rfl) rfl ⟨Nat.le_of_ble_eq_true rfl, Nat.le_of_ble_eq_true rfl⟩ hl.1 rfl (Nat.le_of_ble_eq_true rfl) dX3_run_79 ⟨Nat.le_of_ble_eq_true rfl, Nat.le_of_ble_eq_true rfl⟩) hS (hD.free (fun q hq => hA q (Nat.le_trans hS.1 hq))) (fun H locs hP hz1 hk1 hS => ?_)
      have hP : zP D Rs ad (gS ks ad np ng G MI MJ XI (xPA XI np rt 30 (u2 (u2 (xGG XI ng rt 30 XJ) 4 0 v3) 4 1 v4))) H := hP
      refine lv_aload_n hx hb dX3_run_82 rfl (lv_at hl 1 rfl) ?_
      refine z_backW0 (z_runV ⟨hx, hb, hml, hown, hT⟩ (rest := []) (As := []) (c_X3_giveBonuses (MI := MI) (MJ := MJ) (XI := XI) (XJ := (xPA XI np rt 30 (u2 (u2 (xGG XI ng rt 30 XJ) 4 0 v3) 4 1 v4))) l hD0 hI (hok) _) k_X3_126 (z_preWV hK hP (hP.at (hI.1 13 (by decide)) rfl) rfl) rfl ⟨Nat.le_of_ble_eq_true rfl, Nat.le_of_ble_eq_true rfl⟩ hl.1 rfl (Nat.le_of_ble_eq_true rfl) dX3_run_83 ⟨Nat.le_of_ble_eq_true rfl, Nat.le_of_ble_eq_true rfl⟩) hS (hD.free (fun q hq => hA q (Nat.le_trans hS.1 hq))) (fun H locs hP hz1 hk1 hS => ?_)
      have hP : zP D Rs ad (gS ks ad np ng G MI MJ XI (xGB XI np 30 (xPA XI np rt 30 (u2 (u2 (xGG XI ng rt 30 XJ) 4 0 v3) 4 1 v4)))) H := hP
      refine lv_aload_n hx hb dX3_run_86 rfl (lv_at hl 1 rfl) ?_
      refine z_backW1 (z_runV ⟨hx, hb, hml, hown, hT⟩ (rest := []) (As := []) (c_X3_maturePolicies (MI := MI) (MJ := MJ) (XI := XI) (XJ := (xGB XI np 30 (xPA XI np rt 30 (u2 (u2 (xGG XI ng rt 30 XJ) 4 0 v3) 4 1 v4)))) l hD0 hI (hok) _) k_X3_129 (z_preWV hK hP (hP.at (hI.1 13 (by decide)) rfl) rfl) rfl ⟨Nat.le_of_ble_eq_true rfl, Nat.le_of_ble_eq_true rfl⟩ hl.1 rfl (Nat.le_of_ble_eq_true rfl) dX3_run_87 ⟨Nat.le_of_ble_eq_true rfl, Nat.le_of_ble_eq_true rfl⟩) hS (hD.free (fun q hq => hA q (Nat.le_trans hS.1 hq))) (fun H locs hP hz1 hk1 hS => ?_)
      have hP : zP D Rs ad (gS ks ad np ng G MI MJ ((xMtS np G 30 (XI, xCpy 21 (xGB XI np 30 (xPA XI np rt 30 (u2 (u2 (xGG XI ng rt 30 XJ) 4 0 v3) 4 1 v4))))).1) ((xMtS np G 30 (XI, xCpy 21 (xGB XI np 30 (xPA XI np rt 30 (u2 (u2 (xGG XI ng rt 30 XJ) 4 0 v3) 4 1 v4))))).2)) H := hP
      refine lv_topi (fun v5 ev5 => ?_)
      refine lv_istore (lv' := [(4, .int v5), (2, .long (fThou (XJ 4 0) (Int32.toInt64 rt))), (0, .ref (ad 13)), (1, .int rt)]) hx hb dX3_run_90 hl (by decide) rfl (fun ls hl => ?_)
      refine lv_aload_n hx hb dX3_run_92 rfl (lv_at hl 2 rfl) ?_
      refine lv_dup hx hb dX3_run_93 rfl ?_
      refine gf_X3_110 hx hb hT hown hK (hP.at (hI.1 13 (by decide)) rfl) rfl dX3_run_94 ?_
      refine lv_iconst (v := 1) hx hb dX3_run_97 (by decide) ?_
      refine lv_iadd hx hb dX3_run_98 ?_
      refine lv_topi (fun v6 ev6 => ?_)
      refine pf_X3_110 hx hb hT hown hK hP hD hS (hI.1 13 (by decide)) (v := v6) dX3_run_99 (fun H locs hP hS => ?_)
      refine lv_iload hx hb dX3_run_102 (lv_at hl 0 rfl) ?_
      exact zW_i hx hb hr hlk hS (Nat.le_of_ble_eq_true rfl) (Nat.le_of_ble_eq_true rfl) dX3_run_104 (by subst ev6 ev5 ev4 ev3; rfl) (by subst ev6 ev5 ev4 ev3; exact hP)
    · exact absurd hy c_2
  · exact absurd ((h0).symm.trans c_1) (by decide)
end ZX3
end
section
/-! calls that throw -/
section ZT
variable {D : va_G} {ks : Nat → ClassId} {ad : Nat → Nat} {np ng : Nat} {G : Nat → Nat} {MI : Nat → Nat → Int32} {MJ : Nat → Nat → Int64} {XI : Nat → Nat → Int32} {XJ : Nat → Nat → Int64} {Rs : List Nat}
abbrev xNm : List String := ["java/lang/RuntimeException", "java/lang/Exception"]
def xDs : List String := ["java/lang/RuntimeException", "java/lang/Exception", "java/lang/Throwable"]
def xStr : List (Nat × String) := [(57, "term, premium or sum is out of range"), (67, "there are 30 policies"), (183, "there is no such policy"), (190, "the policy has not been in force for a year, or is not any more"), (93, "bonus or charge is out of range"), (95, "scale, step or floor is out of range"), (99, "amount is out of range"), (108, "rate is out of range"), (113, "it is the year 40"), (156, "year or term is out of range"), (167, "term is out of range")]
def zZ (U : State) : Prop := (∀ q ∈ xStr, ∃ a, vk_R RX3 q.1 q.2 a U) ∧ (va_Nw (.castable "java/lang/IllegalArgumentException" "java/lang/IllegalArgumentException") U ∧ va_Nw (.castable "java/lang/IllegalStateException" "java/lang/IllegalStateException") U ∧ va_Nw (.castable "java/lang/IndexOutOfBoundsException" "java/lang/IndexOutOfBoundsException") U) ∧ (True ∧ True) ∧ ∀ Y ∈ xDs, va_Nw (.declares (Bundle.initS Y)) U
def zUn (A : Nat → Prop) (U : State) (H : Heap) : Prop := vx_Zq Bundle.tN "UNASSIGNED_STACK" Bundle.steD A U H ∧ vx_Zq Bundle.tN "SUPPRESSED_SENTINEL" Bundle.listD A U H
def zX (D : va_G) (ks : Nat → ClassId) (U : State) : Prop := zK D ks U ∧ zZ U ∧ zUn (fun q => U.heap.size ≤ q) U U.heap
theorem zZ.calling {U : State} {g : JFrame} {mk : MethodId} {a : Array Value} (h : zZ U) : zZ (U.calling g mk a) := by
  obtain ⟨h1, ⟨h2, h3, h4⟩, ⟨h5, h6⟩, h7⟩ := h
  refine ⟨fun q hq => ?_, ⟨va_Nw.same (u := U) rfl rfl h2, va_Nw.same (u := U) rfl rfl h3, va_Nw.same (u := U) rfl rfl h4⟩, ⟨h5, h6⟩, fun Y hY => va_Nw.same (u := U) rfl rfl (h7 Y hY)⟩
  obtain ⟨a, ha⟩ := h1 q hq
  exact ⟨a, vk_R.same (u := U) rfl ha⟩
theorem zZ.warm {s U : State} (hW : s.WarmedH U.vm) (h : zZ s) : zZ U := by
  obtain ⟨h1, ⟨h2, h3, h4⟩, ⟨h5, h6⟩, h7⟩ := h
  refine ⟨fun q hq => ?_, ⟨va_Nw.warmC hW h2, va_Nw.warmC hW h3, va_Nw.warmC hW h4⟩, ⟨h5, h6⟩, fun Y hY => va_Nw.warmD hW (h7 Y hY)⟩
  obtain ⟨a, ha⟩ := h1 q hq
  exact ⟨a, vk_R.warm hW ha⟩
theorem zUn.moved {A : Nat → Prop} {u U : State} {H : Heap} (hvm : u.vm.Alike U.vm) (h : zUn A u H) : zUn A U H := ⟨vx_Zq.moved hvm h.1, vx_Zq.moved hvm h.2⟩
theorem zUn.kept {A : Nat → Prop} {U : State} {H H1 : Heap} (h : zUn A U H) (hq : ∀ a : Nat, a < H.size → ¬ A a → H1[a]? = H[a]?) : zUn A U H1 := ⟨vx_Zq.kept h.1 hq, vx_Zq.kept h.2 hq⟩
theorem zUn.narrow {A B : Nat → Prop} {U : State} {H : Heap} (h : zUn A U H) (hAB : ∀ q, B q → A q) : zUn B U H := ⟨vx_Zq.narrow h.1 hAB, vx_Zq.narrow h.2 hAB⟩
theorem zX.calling {D : va_G} {ks : Nat → ClassId} {U : State} {g : JFrame} {mk : MethodId} {a : Array Value} (h : zX D ks U) : zX D ks (U.calling g mk a) := ⟨h.1.calling, h.2.1.calling, zUn.moved (u := U) (U := U.calling g mk a) (Vm.Alike.refl U.vm) h.2.2⟩
theorem zX.warm {D : va_G} {ks : Nat → ClassId} {s U : State} (hW : s.WarmedH U.vm) (hh : U.heap = s.heap) (h : zX D ks s) : zX D ks U := ⟨h.1.warm hW, h.2.1.warm hW, by rw [hh]; exact zUn.moved hW.alike h.2.2⟩
def zQF : Array Value → State → Outcome → State → Prop := fun _ _ _ _ => False
def zXC (E : String) : String → State → State → Prop := fun E' st t => E' = E ∧ st.heap.size ≤ t.heap.size ∧ ∀ q : Nat, q < st.heap.size → t.heap[q]? = st.heap[q]?
def zPX (D : va_G) (ks : Nat → ClassId) (As : List Value) (P : Heap → Prop) : Array Value → State → Prop := va_Pc As (fun U => P U.heap ∧ zX D ks U)
theorem zPX.blind {D : va_G} {ks : Nat → ClassId} {As : List Value} {P : Heap → Prop} : FrameBlind (zPX D ks As P) := fun a U g mk q => ⟨q.1, q.2.1, q.2.2.calling⟩
/-- a call that throws E, and changes nothing -/
def zMX (l : Launch) (y : MethodName) (cc : ByteArray) (n : Nat) (ret : Option FieldType) (fr lo : Nat) (D : va_G) (ks : Nat → ClassId) (As : List Value) (P : Heap → Prop) (E : String) : Prop :=
  vx_Met l y (Cond.code y cc n ret :: WS) (zRm fr lo 1 6) (zPX D ks As P) zQF (zXC E) 1 6 (fun _ => False)
theorem zMX.of {l : Launch} {y : MethodName} {cc : ByteArray} {n : Nat} {ret : Option FieldType} {fr lo : Nat} {As : List Value} {P : Heap → Prop} {E : String} (hy : plainName y.cls = true) (hn : (lg_sl As).length ≤ n)
    (body : ∀ (p : Program) (e : Env) (s : State) (m : MethodId) (below : List Frame) (meth : Method) (c : Code) (ls : Array Slot), p.tables.exec = Jvm.exec → c.code = cc → meth.sig.returnType = ret → c.maxLocals = n → s.vm.findClass y.cls = some m.cls → meth.locks = false → (∀ w ∈ WS, w.before As.toArray s = true) → P s.heap → zX D ks s → (∀ x ∈ c.exceptionTable.toList, False) → lv_has ls n (lv_args 0 As) →
      W p l e (zRm fr lo 1 6) s m As.toArray below meth c s.heap [] 0 0 (vx_MQ below zQF (zXC E) As.toArray s 1 6 (fun _ => False)) (F0 m 0 ls [])) : zMX l y cc n ret fr lo D ks As P E := by
  refine vx_ofW (cc := cc) (maxL := n) (ret := ret) hy rfl ?_
  intro p e s m args below meth c s₁ B hml hex hv
  obtain ⟨rfl, hP, hK⟩ := hv
  rw [lg_entry_eq]
  exact body p e s m below meth c _ B.exec B.bytes B.returns hml (findClass_of_methodNamed B.named) B.notSynchronized (fun w hw => atoms_spec (ws := Cond.code y cc n ret :: WS) B.pre w (List.mem_cons_of_mem _ hw)) hP hK hex (lv_entry As hn)
theorem at_a_good : ∀ w ∈ (vx_atS RX3 59 "java/lang/IllegalArgumentException" xNm).filter goodWord, w ∈ WS := by
  intro w hw
  refine ws_in ?_ (List.mem_filter.mp hw).2
  revert w
  decide +kernel
theorem at_a_rest : ∀ w ∈ (vx_atS RX3 59 "java/lang/IllegalArgumentException" xNm).filter (fun w => !goodWord w), w ∈ Cond.castable "java/lang/IllegalArgumentException" "java/lang/IllegalArgumentException" :: xDs.map (fun Y => Cond.declares (Bundle.initS Y)) := by decide +kernel
theorem at_a_ot : ∀ w ∈ vx_atS RX3 59 "java/lang/IllegalArgumentException" xNm, vx_ot w = true := by decide +kernel
theorem at_s_good : ∀ w ∈ (vx_atS RX3 69 "java/lang/IllegalStateException" xNm).filter goodWord, w ∈ WS := by
  intro w hw
  refine ws_in ?_ (List.mem_filter.mp hw).2
  revert w
  decide +kernel
theorem at_s_rest : ∀ w ∈ (vx_atS RX3 69 "java/lang/IllegalStateException" xNm).filter (fun w => !goodWord w), w ∈ Cond.castable "java/lang/IllegalStateException" "java/lang/IllegalStateException" :: xDs.map (fun Y => Cond.declares (Bundle.initS Y)) := by decide +kernel
theorem at_s_ot : ∀ w ∈ vx_atS RX3 69 "java/lang/IllegalStateException" xNm, vx_ot w = true := by decide +kernel
theorem at_b_good : ∀ w ∈ (vx_atS RX3 185 "java/lang/IndexOutOfBoundsException" xNm).filter goodWord, w ∈ WS := by
  intro w hw
  refine ws_in ?_ (List.mem_filter.mp hw).2
  revert w
  decide +kernel
theorem at_b_rest : ∀ w ∈ (vx_atS RX3 185 "java/lang/IndexOutOfBoundsException" xNm).filter (fun w => !goodWord w), w ∈ Cond.castable "java/lang/IndexOutOfBoundsException" "java/lang/IndexOutOfBoundsException" :: xDs.map (fun Y => Cond.declares (Bundle.initS Y)) := by decide +kernel
theorem at_b_ot : ∀ w ∈ vx_atS RX3 185 "java/lang/IndexOutOfBoundsException" xNm, vx_ot w = true := by decide +kernel
section
variable {p : Program} {l : Launch} {e : Env} {R : Room} {s : State} {m : MethodId} {args : Array Value} {below : List Frame} {meth : Method} {c : Code} {cells slots : Nat} {Q : State → Prop}
variable {cc : ByteArray} {pc : Nat} {ls : Array Slot} {rest st0 : List Value} {A : Nat → Prop} {b nL : Nat} {E : String}
theorem z_throw_a (hx : p.tables.exec = Jvm.exec) (hb : c.code = cc) (hst : l.stackTraces = false) (hown : s.vm.findClass RX3 = some m.cls) (hT : ∀ w ∈ WS, w.before args s = true) (hX : zX D ks s) (hex : ∀ x ∈ c.exceptionTable.toList, False) (hlk : meth.locks = false) (hml : c.maxLocals = nL) (hsz : ls.size = nL) {ik is : Nat} {text : String} (hq : (is, text) ∈ xStr) (hcl : Cond.classLink RX3 ik "java/lang/IllegalArgumentException" ∈ WS)
    (d0 : decode cc pc = .ok (.new ik, 3)) (d3 : decode cc (pc + 3) = .ok (.dup, 1)) (d4 : decode cc (pc + 4) = .ok (.ldc is, 2)) (d6 : decode cc (pc + 6) = .ok (.invokespecial 59, 3)) (d9 : decode cc (pc + 9) = .ok (.athrow, 1))
    (hf : 5 < R.frames) (hlo : (rest.map fun v => v.category).sum + 82 ≤ R.locals) (hc : 1 ≤ R.cells) (hs : 6 ≤ R.slots) :
    W p l e R s m args below meth c s.heap [] 0 0 (vx_MQ below zQF (zXC "java/lang/IllegalArgumentException") args s 1 6 (fun _ => False)) (F0 m pc ls rest) := by
  obtain ⟨sa, hstr⟩ := hX.2.1.1 _ hq
  refine vx_throwS (cls := "java/lang/IllegalArgumentException") (names := xNm) (A := fun q => s.heap.size ≤ q) hx hb hst hown (by decide +kernel) (by decide +kernel) (hT _ hcl) (hT _ in_IllegalArgumentException) hstr (vx_hat (B := Cond.castable "java/lang/IllegalArgumentException" "java/lang/IllegalArgumentException" :: xDs.map (fun Y => Cond.declares (Bundle.initS Y))) (fun w hw => hT w (at_a_good w hw)) at_a_rest (vx_c (va_Nw.use rfl hX.2.1.2.1.1) (fun w hw => by obtain ⟨Y, hY, rfl⟩ := List.mem_map.mp hw; exact va_Nw.use rfl (hX.2.1.2.2.2 Y hY)))) ?_ hX.2.2.1 hX.2.2.2 va_S.rf (hsz.trans hml.symm) d0 d3 d4 d6 d9 (fun x hx => (hex x hx).elim) hf hlo (by omega) (by omega) hlk ?_ (fun _ h => nomatch h) (by omega) (by omega)
  · intro w hw
    rcases List.mem_cons.mp hw with rfl | hw
    · rfl
    · rcases List.mem_cons.mp hw with rfl | hw
      · rfl
      · exact at_a_ot w hw
  · intro t _ hz hk
    exact ⟨rfl, hz, hk⟩
theorem z_throw_s (hx : p.tables.exec = Jvm.exec) (hb : c.code = cc) (hst : l.stackTraces = false) (hown : s.vm.findClass RX3 = some m.cls) (hT : ∀ w ∈ WS, w.before args s = true) (hX : zX D ks s) (hex : ∀ x ∈ c.exceptionTable.toList, False) (hlk : meth.locks = false) (hml : c.maxLocals = nL) (hsz : ls.size = nL) {ik is : Nat} {text : String} (hq : (is, text) ∈ xStr) (hcl : Cond.classLink RX3 ik "java/lang/IllegalStateException" ∈ WS)
    (d0 : decode cc pc = .ok (.new ik, 3)) (d3 : decode cc (pc + 3) = .ok (.dup, 1)) (d4 : decode cc (pc + 4) = .ok (.ldc is, 2)) (d6 : decode cc (pc + 6) = .ok (.invokespecial 69, 3)) (d9 : decode cc (pc + 9) = .ok (.athrow, 1))
    (hf : 5 < R.frames) (hlo : (rest.map fun v => v.category).sum + 82 ≤ R.locals) (hc : 1 ≤ R.cells) (hs : 6 ≤ R.slots) :
    W p l e R s m args below meth c s.heap [] 0 0 (vx_MQ below zQF (zXC "java/lang/IllegalStateException") args s 1 6 (fun _ => False)) (F0 m pc ls rest) := by
  obtain ⟨sa, hstr⟩ := hX.2.1.1 _ hq
  refine vx_throwS (cls := "java/lang/IllegalStateException") (names := xNm) (A := fun q => s.heap.size ≤ q) hx hb hst hown (by decide +kernel) (by decide +kernel) (hT _ hcl) (hT _ in_IllegalStateException) hstr (vx_hat (B := Cond.castable "java/lang/IllegalStateException" "java/lang/IllegalStateException" :: xDs.map (fun Y => Cond.declares (Bundle.initS Y))) (fun w hw => hT w (at_s_good w hw)) at_s_rest (vx_c (va_Nw.use rfl hX.2.1.2.1.2.1) (fun w hw => by obtain ⟨Y, hY, rfl⟩ := List.mem_map.mp hw; exact va_Nw.use rfl (hX.2.1.2.2.2 Y hY)))) ?_ hX.2.2.1 hX.2.2.2 va_S.rf (hsz.trans hml.symm) d0 d3 d4 d6 d9 (fun x hx => (hex x hx).elim) hf hlo (by omega) (by omega) hlk ?_ (fun _ h => nomatch h) (by omega) (by omega)
  · intro w hw
    rcases List.mem_cons.mp hw with rfl | hw
    · rfl
    · rcases List.mem_cons.mp hw with rfl | hw
      · rfl
      · exact at_s_ot w hw
  · intro t _ hz hk
    exact ⟨rfl, hz, hk⟩
theorem z_throw_b (hx : p.tables.exec = Jvm.exec) (hb : c.code = cc) (hst : l.stackTraces = false) (hown : s.vm.findClass RX3 = some m.cls) (hT : ∀ w ∈ WS, w.before args s = true) (hX : zX D ks s) (hex : ∀ x ∈ c.exceptionTable.toList, False) (hlk : meth.locks = false) (hml : c.maxLocals = nL) (hsz : ls.size = nL) {ik is : Nat} {text : String} (hq : (is, text) ∈ xStr) (hcl : Cond.classLink RX3 ik "java/lang/IndexOutOfBoundsException" ∈ WS)
    (d0 : decode cc pc = .ok (.new ik, 3)) (d3 : decode cc (pc + 3) = .ok (.dup, 1)) (d4 : decode cc (pc + 4) = .ok (.ldc is, 2)) (d6 : decode cc (pc + 6) = .ok (.invokespecial 185, 3)) (d9 : decode cc (pc + 9) = .ok (.athrow, 1))
    (hf : 5 < R.frames) (hlo : (rest.map fun v => v.category).sum + 82 ≤ R.locals) (hc : 1 ≤ R.cells) (hs : 6 ≤ R.slots) :
    W p l e R s m args below meth c s.heap [] 0 0 (vx_MQ below zQF (zXC "java/lang/IndexOutOfBoundsException") args s 1 6 (fun _ => False)) (F0 m pc ls rest) := by
  obtain ⟨sa, hstr⟩ := hX.2.1.1 _ hq
  refine vx_throwS (cls := "java/lang/IndexOutOfBoundsException") (names := xNm) (A := fun q => s.heap.size ≤ q) hx hb hst hown (by decide +kernel) (by decide +kernel) (hT _ hcl) (hT _ in_IndexOutOfBoundsException) hstr (vx_hat (B := Cond.castable "java/lang/IndexOutOfBoundsException" "java/lang/IndexOutOfBoundsException" :: xDs.map (fun Y => Cond.declares (Bundle.initS Y))) (fun w hw => hT w (at_b_good w hw)) at_b_rest (vx_c (va_Nw.use rfl hX.2.1.2.1.2.2) (fun w hw => by obtain ⟨Y, hY, rfl⟩ := List.mem_map.mp hw; exact va_Nw.use rfl (hX.2.1.2.2.2 Y hY)))) ?_ hX.2.2.1 hX.2.2.2 va_S.rf (hsz.trans hml.symm) d0 d3 d4 d6 d9 (fun x hx => (hex x hx).elim) hf hlo (by omega) (by omega) hlk ?_ (fun _ h => nomatch h) (by omega) (by omega)
  · intro w hw
    rcases List.mem_cons.mp hw with rfl | hw
    · rfl
    · rcases List.mem_cons.mp hw with rfl | hw
      · rfl
      · exact at_b_ot w hw
  · intro t _ hz hk
    exact ⟨rfl, hz, hk⟩
/-- a call in between: it goes on to the caller -/
theorem z_thru {H0 : Heap} (hr : vx_Run p l e R s m args below meth c s.heap [] 0 0 1 6 (F0 m pc ls st0) rest (zQF #[]) (zXC E) (fun _ => False)) (hex : ∀ x ∈ c.exceptionTable.toList, False) (hlk : meth.locks = false) : W p l e R s m args below meth c s.heap [] 0 0 (vx_MQ below zQF (zXC E) args s 1 6 (fun _ => False)) (F0 m pc ls st0) := by
  intro T hT X
  rcases hr T hT X with ⟨_, _, _, _, _, _, _, _, _, _, h, _⟩ | ⟨q, st₀, t, T', L, E', ce, h0, X', hL, e1, e2, ⟨hE, hz, hk⟩, hce, hcv, hcl, st⟩
  · exact h.elim
  · subst hE
    have X2 := Stand.forget (locs := []) X' (fun z h => (hL z h).elim)
    obtain ⟨t2, a1, b1⟩ := vx_out (locs := []) (Qc := zQF) (XC := zXC E') (free := fun _ => False) (mc := 1) (ms := 6) (pc := pc) (ls := ls) (rest := rest) (H := T'.heap) (fun x hx => (hex x hx).elim) hlk (by rw [e1]; exact hce) hcv hcl (fun u hu _ => ⟨rfl, by rw [hu, e1, ← h0]; exact hz, fun q h => by rw [hu, e1, ← h0]; exact hk q (by rw [h0]; exact h)⟩) (fun _ h => nomatch h) (by omega) (by omega) T' rfl X2
    exact ⟨t2, st.trans a1, b1⟩
theorem z_preX {As : List Value} {P : Heap → Prop} (hX : zX D ks s) (hP : P s.heap) : PreS s s.heap (zPX D ks As P) As := ⟨zPX.blind, fun U hU hW => ⟨rfl, by rw [hU]; exact hP, hX.warm hW hU⟩⟩
theorem z_preXV {As : List Value} {P : Heap → Prop} {C : String} (hX : zX D ks s) (hP : P s.heap) {ci : Nat} {T : u_T} {N : Nat} {fs : List Value} (hat : va_at D vwCl (b, .inr (ci, fs)) s.heap) (hc : vwCl[ci]? = some (C, T, N)) : PreV s s.heap C b (zPX D ks (.ref b :: As) P) As := ⟨zPX.blind, z_recv hX.1 hat hc, fun U hU hW => ⟨rfl, by rw [hU]; exact hP, hX.warm hW hU⟩⟩
theorem z_runXV {own : String} {index n2 k : Nat} {y : MethodName} {cy : ByteArray} {ret2 : Option FieldType} {fr lo : Nat} {As : List Value} {Pc : Array Value → State → Prop} {H : Heap} {locs : List Loc} (F : zFx p m c cc nL s args own) (hM : vx_Met l y (Cond.code y cy n2 ret2 :: WS) (zRm fr lo 1 6) Pc zQF (zXC E) 1 6 (fun _ => False)) (w : zcV own index y cy n2 ret2 k) (hp : PreV s H y.cls b Pc As) (hn : As.length = k) (hR : fr + 1 ≤ R.frames ∧ 8 + (n2 + 11) + lo ≤ R.locals) (hsz : ls.size = nL) (hst : st0 = As.reverse ++ .ref b :: rest) (hW : (rest.map fun v => v.category).sum ≤ 8) (hdg : decode cc pc = .ok (.invokevirtual index, 3)) (hf : cells + 1 ≤ R.cells ∧ slots + 6 ≤ R.slots) :
    vx_Run p l e R s m args below meth c H locs cells slots 1 6 (F0 m pc ls st0) rest (zQF #[]) (zXC E) (fun _ => False) :=
  vx_runV F hM ⟨callB_of k F.2.2.2.2 (z_good w.2.2.2.2.1) rfl rfl rfl (F.2.2.2.2 _ w.2.2.2.1) (F.2.2.2.2 _ w.1) w.2.2.2.2.2 hR, F.2.2.2.2 _ w.2.1, F.2.2.2.2 _ w.2.2.1⟩ hp rfl hn hsz hst (lv_room hW) hdg hf
end
set_option maxHeartbeats 4000000 in
set_option maxRecDepth 100000 in
theorem c_X3_knownPolicy_bad (l : Launch) (hst : l.stackTraces = false) (hI : zIn Rs np ng) (q : Int32) (hq : ¬ ∃ j, j < np ∧ q = nI j) : zMX l yX3_knownPolicy cX3_knownPolicy 3 ((some (.object "ProfitsOffice$Policy"))) 6 (82) D ks [.ref (ad 13), .int q] (zP D Rs ad (gS ks ad np ng G MI MJ XI XJ)) "java/lang/IndexOutOfBoundsException" := by
  refine zMX.of (by decide +kernel) (Nat.le_of_ble_eq_true rfl) ?_
  intro p e s m below meth c ls hx hb hr hml hown hlk hT hP hX hex hl
  have hK := hX.1
  have hl : lv_has ls 3 [(0, .ref (ad 13)), (1, .int q)] := hl
  refine lv_iload_n hx hb dX3_knownPolicy_0 rfl (lv_at hl 1 rfl) ?_
  refine lv_if_lt (tgt := 13) hx hb dX3_knownPolicy_1 (by decide) (fun c_1 => ?_) (fun c_1 => ?_)
  · exact z_throw_b hx hb hst hown hT hX hex hlk hml hl.1 (text := "there is no such policy") (by decide) cl_X3_181 dX3_knownPolicy_13 dX3_knownPolicy_16 dX3_knownPolicy_17 dX3_knownPolicy_19 dX3_knownPolicy_22 (Nat.le_of_ble_eq_true rfl) (Nat.le_of_ble_eq_true rfl) (Nat.le_of_ble_eq_true rfl) (Nat.le_of_ble_eq_true rfl)
  · refine lv_iload_n hx hb dX3_knownPolicy_4 rfl (lv_at hl 1 rfl) ?_
    refine lv_aload_n hx hb dX3_knownPolicy_5 rfl (lv_at hl 0 rfl) ?_
    refine gf_X3_11 hx hb hT hown hK (hP.at (hI.1 13 (by decide)) rfl) rfl dX3_knownPolicy_6 ?_
    refine z_plen hx hb hK (hP.at (hI.1 14 (by decide)) rfl) (v := 30) rfl dX3_knownPolicy_9 ?_
    refine lv_icmp_lt (tgt := 23) hx hb dX3_knownPolicy_10 (by decide) (fun c_2 => ?_) (fun c_2 => ?_)
    · refine lv_aload_n hx hb dX3_knownPolicy_23 rfl (lv_at hl 0 rfl) ?_
      refine gf_X3_11 hx hb hT hown hK (hP.at (hI.1 13 (by decide)) rfl) rfl dX3_knownPolicy_24 ?_
      refine lv_iload_n hx hb dX3_knownPolicy_27 rfl (lv_at hl 1 rfl) ?_
      refine z_pald hx hb hK (hP.at (hI.1 14 (by decide)) rfl) (z_vpin c_1 (Int32.not_le.mpr c_2) rfl) dX3_knownPolicy_28 ?_
      have hno : ¬ q.toNatClampNeg < np := fun h => hq (by obtain ⟨j, hj, rfl⟩ := vp_in_of (z_vpin c_1 (Int32.not_le.mpr c_2) rfl : vp_in q 30) (by decide); rw [nI_clamp (by omega)] at h; exact ⟨j, h, rfl⟩)
      rw [show rPol ad np q.toNatClampNeg = none from if_neg hno]
      show W _ _ _ _ _ _ _ _ _ _ _ _ _ _ _ (F0 m 29 ls [.null])
      refine lv_astore_nN (lv' := [(2, .null), (0, .ref (ad 13)), (1, .int q)]) hx hb dX3_knownPolicy_29 rfl hl (by decide) rfl (fun ls hl => ?_)
      refine lv_aload_nN hx hb dX3_knownPolicy_30 rfl (lv_at hl 0 rfl) ?_
      refine lv_ifnonnullN hx hb dX3_knownPolicy_31 ?_
      exact z_throw_b hx hb hst hown hT hX hex hlk hml hl.1 (text := "there is no such policy") (by decide) cl_X3_181 dX3_knownPolicy_34 dX3_knownPolicy_37 dX3_knownPolicy_38 dX3_knownPolicy_40 dX3_knownPolicy_43 (Nat.le_of_ble_eq_true rfl) (Nat.le_of_ble_eq_true rfl) (Nat.le_of_ble_eq_true rfl) (Nat.le_of_ble_eq_true rfl)
    · exact z_throw_b hx hb hst hown hT hX hex hlk hml hl.1 (text := "there is no such policy") (by decide) cl_X3_181 dX3_knownPolicy_13 dX3_knownPolicy_16 dX3_knownPolicy_17 dX3_knownPolicy_19 dX3_knownPolicy_22 (Nat.le_of_ble_eq_true rfl) (Nat.le_of_ble_eq_true rfl) (Nat.le_of_ble_eq_true rfl) (Nat.le_of_ble_eq_true rfl)
set_option maxHeartbeats 4000000 in
set_option maxRecDepth 100000 in
theorem c_X3_checkSurrenderable_no (l : Launch) (hst : l.stackTraces = false) (hI : zIn Rs np ng) (j : Nat) (hj : j < np) (hN : np ≤ 30) (hG : G j < ng) (hno : ¬ (XI 15 j = 0 ∧ 1 ≤ XI 10 2 - XI 11 (G j))) : zMX l yX3_checkSurrenderable cX3_checkSurrenderable 2 ((none : Option FieldType)) 6 (82) D ks [.ref (ad 13), .ref (ad (22 + 4 * j))] (zP D Rs ad (gS ks ad np ng G MI MJ XI XJ)) "java/lang/IllegalStateException" := by
  refine zMX.of (by decide +kernel) (Nat.le_of_ble_eq_true rfl) ?_
  intro p e s m below meth c ls hx hb hr hml hown hlk hT hP hX hex hl
  have hK := hX.1
  have hl : lv_has ls 2 [(0, .ref (ad 13)), (1, .ref (ad (22 + 4 * j)))] := hl
  refine lv_aload_n hx hb dX3_checkSurrenderable_0 rfl (lv_at hl 1 rfl) ?_
  refine z_backR1 (z_runVN ⟨hx, hb, hml, hown, hT⟩ hK (rest := []) (As := []) (c_X2_isInForce (MI := MI) (MJ := MJ) (XI := XI) (XJ := XJ) l hI j (hj)) k_X3_143 (z_preRV hK hP (hP.at (hI.2.2 j hj).1 gS_2) rfl) rfl ⟨Nat.le_of_ble_eq_true rfl, Nat.le_of_ble_eq_true rfl⟩ hl.1 rfl (Nat.le_of_ble_eq_true rfl) dX3_checkSurrenderable_1 ⟨Nat.le_of_ble_eq_true rfl, Nat.le_of_ble_eq_true rfl⟩) ?_
  refine lv_if_eq (tgt := 16) hx hb dX3_checkSurrenderable_4 (by decide) (fun c_1 => ?_) (fun c_1 => ?_)
  · exact z_throw_s hx hb hst hown hT hX hex hlk hml hl.1 (text := "the policy has not been in force for a year, or is not any more") (by decide) cl_X3_65 dX3_checkSurrenderable_16 dX3_checkSurrenderable_19 dX3_checkSurrenderable_20 dX3_checkSurrenderable_22 dX3_checkSurrenderable_25 (Nat.le_of_ble_eq_true rfl) (Nat.le_of_ble_eq_true rfl) (Nat.le_of_ble_eq_true rfl) (Nat.le_of_ble_eq_true rfl)
  · refine lv_aload_n hx hb dX3_checkSurrenderable_7 rfl (lv_at hl 0 rfl) ?_
    refine lv_aload_n hx hb dX3_checkSurrenderable_8 rfl (lv_at hl 1 rfl) ?_
    refine z_backR1 (z_runV ⟨hx, hb, hml, hown, hT⟩ (rest := []) (As := [.ref (ad (22 + 4 * j))]) (c_X3_yearsRun (MI := MI) (MJ := MJ) (XI := XI) (XJ := XJ) l hI j (hj) (hG)) k_X3_186 (z_preRV hK hP (hP.at (hI.1 13 (by decide)) rfl) rfl) rfl ⟨Nat.le_of_ble_eq_true rfl, Nat.le_of_ble_eq_true rfl⟩ hl.1 rfl (Nat.le_of_ble_eq_true rfl) dX3_checkSurrenderable_9 ⟨Nat.le_of_ble_eq_true rfl, Nat.le_of_ble_eq_true rfl⟩) ?_
    refine lv_iconst (v := 1) hx hb dX3_checkSurrenderable_12 (by decide) ?_
    refine lv_icmp_ge (tgt := 26) hx hb dX3_checkSurrenderable_13 (by decide) (fun c_2 => ?_) (fun c_2 => ?_)
    · exact absurd ⟨Decidable.byContradiction (fun h9 => c_1 (if_neg h9)), c_2⟩ hno
    · exact z_throw_s hx hb hst hown hT hX hex hlk hml hl.1 (text := "the policy has not been in force for a year, or is not any more") (by decide) cl_X3_65 dX3_checkSurrenderable_16 dX3_checkSurrenderable_19 dX3_checkSurrenderable_20 dX3_checkSurrenderable_22 dX3_checkSurrenderable_25 (Nat.le_of_ble_eq_true rfl) (Nat.le_of_ble_eq_true rfl) (Nat.le_of_ble_eq_true rfl) (Nat.le_of_ble_eq_true rfl)
set_option maxHeartbeats 4000000 in
set_option maxRecDepth 100000 in
theorem c_X3_stateOf_bad (l : Launch) (hst : l.stackTraces = false) (hI : zIn Rs np ng) (q : Int32) (hq : ¬ ∃ j, j < np ∧ q = nI j) : zMX l yX3_stateOf cX3_stateOf 2 ((some .int)) 7 (104) D ks [.ref (ad 13), .int q] (zP D Rs ad (gS ks ad np ng G MI MJ XI XJ)) "java/lang/IndexOutOfBoundsException" := by
  refine zMX.of (by decide +kernel) (Nat.le_of_ble_eq_true rfl) ?_
  intro p e s m below meth c ls hx hb hr hml hown hlk hT hP hX hex hl
  have hK := hX.1
  have hl : lv_has ls 2 [(0, .ref (ad 13)), (1, .int q)] := hl
  refine lv_aload_n hx hb dX3_stateOf_0 rfl (lv_at hl 0 rfl) ?_
  refine lv_iload_n hx hb dX3_stateOf_1 rfl (lv_at hl 1 rfl) ?_
  exact z_thru (H0 := s.heap) (z_runXV ⟨hx, hb, hml, hown, hT⟩ (rest := []) (As := [.int q]) (c_X3_knownPolicy_bad l hst hI q (hq)) k_X3_77 (z_preXV hX hP (hP.at (hI.1 13 (by decide)) rfl) rfl) rfl ⟨Nat.le_of_ble_eq_true rfl, Nat.le_of_ble_eq_true rfl⟩ hl.1 rfl (Nat.le_of_ble_eq_true rfl) dX3_stateOf_2 ⟨Nat.le_of_ble_eq_true rfl, Nat.le_of_ble_eq_true rfl⟩) hex hlk
set_option maxHeartbeats 4000000 in
set_option maxRecDepth 100000 in
theorem c_X3_bonuses_bad (l : Launch) (hst : l.stackTraces = false) (hI : zIn Rs np ng) (q : Int32) (hq : ¬ ∃ j, j < np ∧ q = nI j) : zMX l yX3_bonuses cX3_bonuses 2 ((some .int)) 7 (104) D ks [.ref (ad 13), .int q] (zP D Rs ad (gS ks ad np ng G MI MJ XI XJ)) "java/lang/IndexOutOfBoundsException" := by
  refine zMX.of (by decide +kernel) (Nat.le_of_ble_eq_true rfl) ?_
  intro p e s m below meth c ls hx hb hr hml hown hlk hT hP hX hex hl
  have hK := hX.1
  have hl : lv_has ls 2 [(0, .ref (ad 13)), (1, .int q)] := hl
  refine lv_aload_n hx hb dX3_bonuses_0 rfl (lv_at hl 0 rfl) ?_
  refine lv_iload_n hx hb dX3_bonuses_1 rfl (lv_at hl 1 rfl) ?_
  exact z_thru (H0 := s.heap) (z_runXV ⟨hx, hb, hml, hown, hT⟩ (rest := []) (As := [.int q]) (c_X3_knownPolicy_bad l hst hI q (hq)) k_X3_77 (z_preXV hX hP (hP.at (hI.1 13 (by decide)) rfl) rfl) rfl ⟨Nat.le_of_ble_eq_true rfl, Nat.le_of_ble_eq_true rfl⟩ hl.1 rfl (Nat.le_of_ble_eq_true rfl) dX3_bonuses_2 ⟨Nat.le_of_ble_eq_true rfl, Nat.le_of_ble_eq_true rfl⟩) hex hlk
set_option maxHeartbeats 4000000 in
set_option maxRecDepth 100000 in
theorem c_X3_shareOf_bad (l : Launch) (hst : l.stackTraces = false) (hI : zIn Rs np ng) (q : Int32) (hq : ¬ ∃ j, j < np ∧ q = nI j) : zMX l yX3_shareOf cX3_shareOf 2 ((some .int)) 7 (104) D ks [.ref (ad 13), .int q] (zP D Rs ad (gS ks ad np ng G MI MJ XI XJ)) "java/lang/IndexOutOfBoundsException" := by
  refine zMX.of (by decide +kernel) (Nat.le_of_ble_eq_true rfl) ?_
  intro p e s m below meth c ls hx hb hr hml hown hlk hT hP hX hex hl
  have hK := hX.1
  have hl : lv_has ls 2 [(0, .ref (ad 13)), (1, .int q)] := hl
  refine lv_aload_n hx hb dX3_shareOf_0 rfl (lv_at hl 0 rfl) ?_
  refine lv_iload_n hx hb dX3_shareOf_1 rfl (lv_at hl 1 rfl) ?_
  exact z_thru (H0 := s.heap) (z_runXV ⟨hx, hb, hml, hown, hT⟩ (rest := []) (As := [.int q]) (c_X3_knownPolicy_bad l hst hI q (hq)) k_X3_77 (z_preXV hX hP (hP.at (hI.1 13 (by decide)) rfl) rfl) rfl ⟨Nat.le_of_ble_eq_true rfl, Nat.le_of_ble_eq_true rfl⟩ hl.1 rfl (Nat.le_of_ble_eq_true rfl) dX3_shareOf_2 ⟨Nat.le_of_ble_eq_true rfl, Nat.le_of_ble_eq_true rfl⟩) hex hlk
set_option maxHeartbeats 4000000 in
set_option maxRecDepth 100000 in
theorem c_X3_shareAlone_bad (l : Launch) (hst : l.stackTraces = false) (hI : zIn Rs np ng) (q : Int32) (hq : ¬ ∃ j, j < np ∧ q = nI j) : zMX l yX3_shareAlone cX3_shareAlone 3 ((some .int)) 7 (104) D ks [.ref (ad 13), .int q] (zP D Rs ad (gS ks ad np ng G MI MJ XI XJ)) "java/lang/IndexOutOfBoundsException" := by
  refine zMX.of (by decide +kernel) (Nat.le_of_ble_eq_true rfl) ?_
  intro p e s m below meth c ls hx hb hr hml hown hlk hT hP hX hex hl
  have hK := hX.1
  have hl : lv_has ls 3 [(0, .ref (ad 13)), (1, .int q)] := hl
  refine lv_aload_n hx hb dX3_shareAlone_0 rfl (lv_at hl 0 rfl) ?_
  refine lv_iload_n hx hb dX3_shareAlone_1 rfl (lv_at hl 1 rfl) ?_
  exact z_thru (H0 := s.heap) (z_runXV ⟨hx, hb, hml, hown, hT⟩ (rest := []) (As := [.int q]) (c_X3_knownPolicy_bad l hst hI q (hq)) k_X3_77 (z_preXV hX hP (hP.at (hI.1 13 (by decide)) rfl) rfl) rfl ⟨Nat.le_of_ble_eq_true rfl, Nat.le_of_ble_eq_true rfl⟩ hl.1 rfl (Nat.le_of_ble_eq_true rfl) dX3_shareAlone_2 ⟨Nat.le_of_ble_eq_true rfl, Nat.le_of_ble_eq_true rfl⟩) hex hlk
set_option maxHeartbeats 4000000 in
set_option maxRecDepth 100000 in
theorem c_X3_paid_bad (l : Launch) (hst : l.stackTraces = false) (hI : zIn Rs np ng) (q : Int32) (hq : ¬ ∃ j, j < np ∧ q = nI j) : zMX l yX3_paid cX3_paid 2 ((some .int)) 7 (104) D ks [.ref (ad 13), .int q] (zP D Rs ad (gS ks ad np ng G MI MJ XI XJ)) "java/lang/IndexOutOfBoundsException" := by
  refine zMX.of (by decide +kernel) (Nat.le_of_ble_eq_true rfl) ?_
  intro p e s m below meth c ls hx hb hr hml hown hlk hT hP hX hex hl
  have hK := hX.1
  have hl : lv_has ls 2 [(0, .ref (ad 13)), (1, .int q)] := hl
  refine lv_aload_n hx hb dX3_paid_0 rfl (lv_at hl 0 rfl) ?_
  refine lv_iload_n hx hb dX3_paid_1 rfl (lv_at hl 1 rfl) ?_
  exact z_thru (H0 := s.heap) (z_runXV ⟨hx, hb, hml, hown, hT⟩ (rest := []) (As := [.int q]) (c_X3_knownPolicy_bad l hst hI q (hq)) k_X3_77 (z_preXV hX hP (hP.at (hI.1 13 (by decide)) rfl) rfl) rfl ⟨Nat.le_of_ble_eq_true rfl, Nat.le_of_ble_eq_true rfl⟩ hl.1 rfl (Nat.le_of_ble_eq_true rfl) dX3_paid_2 ⟨Nat.le_of_ble_eq_true rfl, Nat.le_of_ble_eq_true rfl⟩) hex hlk
set_option maxHeartbeats 4000000 in
set_option maxRecDepth 100000 in
theorem c_X3_worth_bad (l : Launch) (hst : l.stackTraces = false) (hI : zIn Rs np ng) (q : Int32) (hq : ¬ ∃ j, j < np ∧ q = nI j) : zMX l yX3_worth cX3_worth 3 ((some .int)) 7 (104) D ks [.ref (ad 13), .int q] (zP D Rs ad (gS ks ad np ng G MI MJ XI XJ)) "java/lang/IndexOutOfBoundsException" := by
  refine zMX.of (by decide +kernel) (Nat.le_of_ble_eq_true rfl) ?_
  intro p e s m below meth c ls hx hb hr hml hown hlk hT hP hX hex hl
  have hK := hX.1
  have hl : lv_has ls 3 [(0, .ref (ad 13)), (1, .int q)] := hl
  refine lv_aload_n hx hb dX3_worth_0 rfl (lv_at hl 0 rfl) ?_
  refine lv_iload_n hx hb dX3_worth_1 rfl (lv_at hl 1 rfl) ?_
  exact z_thru (H0 := s.heap) (z_runXV ⟨hx, hb, hml, hown, hT⟩ (rest := []) (As := [.int q]) (c_X3_knownPolicy_bad l hst hI q (hq)) k_X3_77 (z_preXV hX hP (hP.at (hI.1 13 (by decide)) rfl) rfl) rfl ⟨Nat.le_of_ble_eq_true rfl, Nat.le_of_ble_eq_true rfl⟩ hl.1 rfl (Nat.le_of_ble_eq_true rfl) dX3_worth_2 ⟨Nat.le_of_ble_eq_true rfl, Nat.le_of_ble_eq_true rfl⟩) hex hlk
set_option maxHeartbeats 4000000 in
set_option maxRecDepth 100000 in
theorem c_X3_surrender_bad (l : Launch) (hst : l.stackTraces = false) (hI : zIn Rs np ng) (q : Int32) (hq : ¬ ∃ j, j < np ∧ q = nI j) : zMX l yX3_surrender cX3_surrender 5 ((some .int)) 7 (104) D ks [.ref (ad 13), .int q] (zP D Rs ad (gS ks ad np ng G MI MJ XI XJ)) "java/lang/IndexOutOfBoundsException" := by
  refine zMX.of (by decide +kernel) (Nat.le_of_ble_eq_true rfl) ?_
  intro p e s m below meth c ls hx hb hr hml hown hlk hT hP hX hex hl
  have hK := hX.1
  have hl : lv_has ls 5 [(0, .ref (ad 13)), (1, .int q)] := hl
  refine lv_aload_n hx hb dX3_surrender_0 rfl (lv_at hl 0 rfl) ?_
  refine lv_iload_n hx hb dX3_surrender_1 rfl (lv_at hl 1 rfl) ?_
  exact z_thru (H0 := s.heap) (z_runXV ⟨hx, hb, hml, hown, hT⟩ (rest := []) (As := [.int q]) (c_X3_knownPolicy_bad l hst hI q (hq)) k_X3_77 (z_preXV hX hP (hP.at (hI.1 13 (by decide)) rfl) rfl) rfl ⟨Nat.le_of_ble_eq_true rfl, Nat.le_of_ble_eq_true rfl⟩ hl.1 rfl (Nat.le_of_ble_eq_true rfl) dX3_surrender_2 ⟨Nat.le_of_ble_eq_true rfl, Nat.le_of_ble_eq_true rfl⟩) hex hlk
set_option maxHeartbeats 4000000 in
set_option maxRecDepth 100000 in
theorem c_X3_worth_no (l : Launch) (hst : l.stackTraces = false) (hI : zIn Rs np ng) (j : Nat) (hj : j < np) (hN : np ≤ 30) (hG : G j < ng) (hno : ¬ (XI 15 j = 0 ∧ 1 ≤ XI 10 2 - XI 11 (G j))) : zMX l yX3_worth cX3_worth 3 ((some .int)) 7 (103) D ks [.ref (ad 13), .int (nI j)] (zP D Rs ad (gS ks ad np ng G MI MJ XI XJ)) "java/lang/IllegalStateException" := by
  refine zMX.of (by decide +kernel) (Nat.le_of_ble_eq_true rfl) ?_
  intro p e s m below meth c ls hx hb hr hml hown hlk hT hP hX hex hl
  have hK := hX.1
  have hl : lv_has ls 3 [(0, .ref (ad 13)), (1, .int (nI j))] := hl
  refine lv_aload_n hx hb dX3_worth_0 rfl (lv_at hl 0 rfl) ?_
  refine lv_iload_n hx hb dX3_worth_1 rfl (lv_at hl 1 rfl) ?_
  refine z_backR1 (z_runV ⟨hx, hb, hml, hown, hT⟩ (rest := []) (As := [.int (nI j)]) (c_X3_knownPolicy_ok (MI := MI) (MJ := MJ) (XI := XI) (XJ := XJ) l hI j (hj) (hN)) k_X3_77 (z_preRV hK hP (hP.at (hI.1 13 (by decide)) rfl) rfl) rfl ⟨Nat.le_of_ble_eq_true rfl, Nat.le_of_ble_eq_true rfl⟩ hl.1 rfl (Nat.le_of_ble_eq_true rfl) dX3_worth_2 ⟨Nat.le_of_ble_eq_true rfl, Nat.le_of_ble_eq_true rfl⟩) ?_
  refine lv_astore_n (lv' := [(2, .ref (ad (22 + 4 * j))), (0, .ref (ad 13)), (1, .int (nI j))]) hx hb dX3_worth_5 rfl hl (by decide) rfl (fun ls hl => ?_)
  refine lv_aload_n hx hb dX3_worth_6 rfl (lv_at hl 1 rfl) ?_
  refine lv_aload_n hx hb dX3_worth_7 rfl (lv_at hl 0 rfl) ?_
  exact z_thru (H0 := s.heap) (z_runXV ⟨hx, hb, hml, hown, hT⟩ (rest := []) (As := [.ref (ad (22 + 4 * j))]) (c_X3_checkSurrenderable_no l hst hI j (hj) (hN) (hG) (hno)) k_X3_81 (z_preXV hX hP (hP.at (hI.1 13 (by decide)) rfl) rfl) rfl ⟨Nat.le_of_ble_eq_true rfl, Nat.le_of_ble_eq_true rfl⟩ hl.1 rfl (Nat.le_of_ble_eq_true rfl) dX3_worth_8 ⟨Nat.le_of_ble_eq_true rfl, Nat.le_of_ble_eq_true rfl⟩) hex hlk
set_option maxHeartbeats 4000000 in
set_option maxRecDepth 100000 in
theorem c_X3_surrender_no (l : Launch) (hst : l.stackTraces = false) (hI : zIn Rs np ng) (j : Nat) (hj : j < np) (hN : np ≤ 30) (hG : G j < ng) (hno : ¬ (XI 15 j = 0 ∧ 1 ≤ XI 10 2 - XI 11 (G j))) : zMX l yX3_surrender cX3_surrender 5 ((some .int)) 7 (103) D ks [.ref (ad 13), .int (nI j)] (zP D Rs ad (gS ks ad np ng G MI MJ XI XJ)) "java/lang/IllegalStateException" := by
  refine zMX.of (by decide +kernel) (Nat.le_of_ble_eq_true rfl) ?_
  intro p e s m below meth c ls hx hb hr hml hown hlk hT hP hX hex hl
  have hK := hX.1
  have hl : lv_has ls 5 [(0, .ref (ad 13)), (1, .int (nI j))] := hl
  refine lv_aload_n hx hb dX3_surrender_0 rfl (lv_at hl 0 rfl) ?_
  refine lv_iload_n hx hb dX3_surrender_1 rfl (lv_at hl 1 rfl) ?_
  refine z_backR1 (z_runV ⟨hx, hb, hml, hown, hT⟩ (rest := []) (As := [.int (nI j)]) (c_X3_knownPolicy_ok (MI := MI) (MJ := MJ) (XI := XI) (XJ := XJ) l hI j (hj) (hN)) k_X3_77 (z_preRV hK hP (hP.at (hI.1 13 (by decide)) rfl) rfl) rfl ⟨Nat.le_of_ble_eq_true rfl, Nat.le_of_ble_eq_true rfl⟩ hl.1 rfl (Nat.le_of_ble_eq_true rfl) dX3_surrender_2 ⟨Nat.le_of_ble_eq_true rfl, Nat.le_of_ble_eq_true rfl⟩) ?_
  refine lv_astore_n (lv' := [(2, .ref (ad (22 + 4 * j))), (0, .ref (ad 13)), (1, .int (nI j))]) hx hb dX3_surrender_5 rfl hl (by decide) rfl (fun ls hl => ?_)
  refine lv_aload_n hx hb dX3_surrender_6 rfl (lv_at hl 1 rfl) ?_
  refine lv_aload_n hx hb dX3_surrender_7 rfl (lv_at hl 0 rfl) ?_
  exact z_thru (H0 := s.heap) (z_runXV ⟨hx, hb, hml, hown, hT⟩ (rest := []) (As := [.ref (ad (22 + 4 * j))]) (c_X3_checkSurrenderable_no l hst hI j (hj) (hN) (hG) (hno)) k_X3_81 (z_preXV hX hP (hP.at (hI.1 13 (by decide)) rfl) rfl) rfl ⟨Nat.le_of_ble_eq_true rfl, Nat.le_of_ble_eq_true rfl⟩ hl.1 rfl (Nat.le_of_ble_eq_true rfl) dX3_surrender_8 ⟨Nat.le_of_ble_eq_true rfl, Nat.le_of_ble_eq_true rfl⟩) hex hlk
set_option maxHeartbeats 4000000 in
set_option maxRecDepth 100000 in
theorem c_X3_setRates_bad (l : Launch) (hst : l.stackTraces = false) (hI : zIn Rs np ng) (bo : Int32) (ch : Int32) (hq : fIn bo 0 200 = 0 ∨ fIn ch 0 100 = 0) : zMX l yX3_setRates cX3_setRates 4 ((some .int)) 6 (82) D ks [.ref (ad 13), .int bo, .int ch] (zP D Rs ad (gS ks ad np ng G MI MJ XI XJ)) "java/lang/IllegalArgumentException" := by
  refine zMX.of (by decide +kernel) (Nat.le_of_ble_eq_true rfl) ?_
  intro p e s m below meth c ls hx hb hr hml hown hlk hT hP hX hex hl
  have hK := hX.1
  have hl : lv_has ls 4 [(0, .ref (ad 13)), (1, .int bo), (2, .int ch)] := hl
  refine lv_iload_n hx hb dX3_setRates_0 rfl (lv_at hl 1 rfl) ?_
  refine lv_iconst (v := 0) hx hb dX3_setRates_1 (by decide) ?_
  refine lv_sipush (v := 200) hx hb dX3_setRates_2 (by decide) ?_
  refine z_backR1 (z_runS ⟨hx, hb, hml, hown, hT⟩ (rest := []) (As := [.int bo, .int 0, .int 200]) (c_X3_isWithin l D ks bo 0 200 ) k_X3_50 (z_preR hK trivial) rfl ⟨Nat.le_of_ble_eq_true rfl, Nat.le_of_ble_eq_true rfl⟩ hl.1 rfl (Nat.le_of_ble_eq_true rfl) dX3_setRates_5 ⟨Nat.le_of_ble_eq_true rfl, Nat.le_of_ble_eq_true rfl⟩) ?_
  refine lv_if_eq (tgt := 21) hx hb dX3_setRates_8 (by decide) (fun c_1 => ?_) (fun c_1 => ?_)
  · exact z_throw_a hx hb hst hown hT hX hex hlk hml hl.1 (text := "bonus or charge is out of range") (by decide) cl_X3_55 dX3_setRates_21 dX3_setRates_24 dX3_setRates_25 dX3_setRates_27 dX3_setRates_30 (Nat.le_of_ble_eq_true rfl) (Nat.le_of_ble_eq_true rfl) (Nat.le_of_ble_eq_true rfl) (Nat.le_of_ble_eq_true rfl)
  · refine lv_iload_n hx hb dX3_setRates_11 rfl (lv_at hl 2 rfl) ?_
    refine lv_iconst (v := 0) hx hb dX3_setRates_12 (by decide) ?_
    refine lv_bipush (v := 100) hx hb dX3_setRates_13 (by decide) ?_
    refine z_backR1 (z_runS ⟨hx, hb, hml, hown, hT⟩ (rest := []) (As := [.int ch, .int 0, .int 100]) (c_X3_isWithin l D ks ch 0 100 ) k_X3_50 (z_preR hK trivial) rfl ⟨Nat.le_of_ble_eq_true rfl, Nat.le_of_ble_eq_true rfl⟩ hl.1 rfl (Nat.le_of_ble_eq_true rfl) dX3_setRates_15 ⟨Nat.le_of_ble_eq_true rfl, Nat.le_of_ble_eq_true rfl⟩) ?_
    refine lv_if_ne (tgt := 31) hx hb dX3_setRates_18 (by decide) (fun c_2 => ?_) (fun c_2 => ?_)
    · exact absurd hq (not_or.mpr ⟨c_1, c_2⟩)
    · exact z_throw_a hx hb hst hown hT hX hex hlk hml hl.1 (text := "bonus or charge is out of range") (by decide) cl_X3_55 dX3_setRates_21 dX3_setRates_24 dX3_setRates_25 dX3_setRates_27 dX3_setRates_30 (Nat.le_of_ble_eq_true rfl) (Nat.le_of_ble_eq_true rfl) (Nat.le_of_ble_eq_true rfl) (Nat.le_of_ble_eq_true rfl)
set_option maxHeartbeats 4000000 in
set_option maxRecDepth 100000 in
theorem c_X3_setScale_bad (l : Launch) (hst : l.stackTraces = false) (hI : zIn Rs np ng) (sc : Int32) (sp : Int32) (fl : Int32) (hq : fIn sc 500 1500 = 0 ∨ fIn sp 0 1000 = 0 ∨ fIn fl 0 1000 = 0) : zMX l yX3_setScale cX3_setScale 5 ((some .int)) 6 (82) D ks [.ref (ad 13), .int sc, .int sp, .int fl] (zP D Rs ad (gS ks ad np ng G MI MJ XI XJ)) "java/lang/IllegalArgumentException" := by
  refine zMX.of (by decide +kernel) (Nat.le_of_ble_eq_true rfl) ?_
  intro p e s m below meth c ls hx hb hr hml hown hlk hT hP hX hex hl
  have hK := hX.1
  have hl : lv_has ls 5 [(0, .ref (ad 13)), (1, .int sc), (2, .int sp), (3, .int fl)] := hl
  refine lv_iload_n hx hb dX3_setScale_0 rfl (lv_at hl 1 rfl) ?_
  refine lv_sipush (v := 500) hx hb dX3_setScale_1 (by decide) ?_
  refine lv_sipush (v := 1500) hx hb dX3_setScale_4 (by decide) ?_
  refine z_backR1 (z_runS ⟨hx, hb, hml, hown, hT⟩ (rest := []) (As := [.int sc, .int 500, .int 1500]) (c_X3_isWithin l D ks sc 500 1500 ) k_X3_50 (z_preR hK trivial) rfl ⟨Nat.le_of_ble_eq_true rfl, Nat.le_of_ble_eq_true rfl⟩ hl.1 rfl (Nat.le_of_ble_eq_true rfl) dX3_setScale_7 ⟨Nat.le_of_ble_eq_true rfl, Nat.le_of_ble_eq_true rfl⟩) ?_
  refine lv_if_eq (tgt := 35) hx hb dX3_setScale_10 (by decide) (fun c_1 => ?_) (fun c_1 => ?_)
  · exact z_throw_a hx hb hst hown hT hX hex hlk hml hl.1 (text := "scale, step or floor is out of range") (by decide) cl_X3_55 dX3_setScale_35 dX3_setScale_38 dX3_setScale_39 dX3_setScale_41 dX3_setScale_44 (Nat.le_of_ble_eq_true rfl) (Nat.le_of_ble_eq_true rfl) (Nat.le_of_ble_eq_true rfl) (Nat.le_of_ble_eq_true rfl)
  · refine lv_iload_n hx hb dX3_setScale_13 rfl (lv_at hl 2 rfl) ?_
    refine lv_iconst (v := 0) hx hb dX3_setScale_14 (by decide) ?_
    refine lv_sipush (v := 1000) hx hb dX3_setScale_15 (by decide) ?_
    refine z_backR1 (z_runS ⟨hx, hb, hml, hown, hT⟩ (rest := []) (As := [.int sp, .int 0, .int 1000]) (c_X3_isWithin l D ks sp 0 1000 ) k_X3_50 (z_preR hK trivial) rfl ⟨Nat.le_of_ble_eq_true rfl, Nat.le_of_ble_eq_true rfl⟩ hl.1 rfl (Nat.le_of_ble_eq_true rfl) dX3_setScale_18 ⟨Nat.le_of_ble_eq_true rfl, Nat.le_of_ble_eq_true rfl⟩) ?_
    refine lv_if_eq (tgt := 35) hx hb dX3_setScale_21 (by decide) (fun c_2 => ?_) (fun c_2 => ?_)
    · exact z_throw_a hx hb hst hown hT hX hex hlk hml hl.1 (text := "scale, step or floor is out of range") (by decide) cl_X3_55 dX3_setScale_35 dX3_setScale_38 dX3_setScale_39 dX3_setScale_41 dX3_setScale_44 (Nat.le_of_ble_eq_true rfl) (Nat.le_of_ble_eq_true rfl) (Nat.le_of_ble_eq_true rfl) (Nat.le_of_ble_eq_true rfl)
    · refine lv_iload_n hx hb dX3_setScale_24 rfl (lv_at hl 3 rfl) ?_
      refine lv_iconst (v := 0) hx hb dX3_setScale_25 (by decide) ?_
      refine lv_sipush (v := 1000) hx hb dX3_setScale_26 (by decide) ?_
      refine z_backR1 (z_runS ⟨hx, hb, hml, hown, hT⟩ (rest := []) (As := [.int fl, .int 0, .int 1000]) (c_X3_isWithin l D ks fl 0 1000 ) k_X3_50 (z_preR hK trivial) rfl ⟨Nat.le_of_ble_eq_true rfl, Nat.le_of_ble_eq_true rfl⟩ hl.1 rfl (Nat.le_of_ble_eq_true rfl) dX3_setScale_29 ⟨Nat.le_of_ble_eq_true rfl, Nat.le_of_ble_eq_true rfl⟩) ?_
      refine lv_if_ne (tgt := 45) hx hb dX3_setScale_32 (by decide) (fun c_3 => ?_) (fun c_3 => ?_)
      · exact absurd hq (not_or.mpr ⟨c_1, not_or.mpr ⟨c_2, c_3⟩⟩)
      · exact z_throw_a hx hb hst hown hT hX hex hlk hml hl.1 (text := "scale, step or floor is out of range") (by decide) cl_X3_55 dX3_setScale_35 dX3_setScale_38 dX3_setScale_39 dX3_setScale_41 dX3_setScale_44 (Nat.le_of_ble_eq_true rfl) (Nat.le_of_ble_eq_true rfl) (Nat.le_of_ble_eq_true rfl) (Nat.le_of_ble_eq_true rfl)
set_option maxHeartbeats 4000000 in
set_option maxRecDepth 100000 in
theorem c_X3_endow_bad (l : Launch) (hst : l.stackTraces = false) (hI : zIn Rs np ng) (am : Int32) (hq : fIn am (-1000000) 1000000 = 0) : zMX l yX3_endow cX3_endow 2 ((some .long)) 6 (82) D ks [.ref (ad 13), .int am] (zP D Rs ad (gS ks ad np ng G MI MJ XI XJ)) "java/lang/IllegalArgumentException" := by
  refine zMX.of (by decide +kernel) (Nat.le_of_ble_eq_true rfl) ?_
  intro p e s m below meth c ls hx hb hr hml hown hlk hT hP hX hex hl
  have hK := hX.1
  have hl : lv_has ls 2 [(0, .ref (ad 13)), (1, .int am)] := hl
  refine lv_iload_n hx hb dX3_endow_0 rfl (lv_at hl 1 rfl) ?_
  refine lv_ldc (v := (-1000000)) hx hb hown (hT _ ki_X3_97) dX3_endow_1 ?_
  refine lv_ldc (v := 1000000) hx hb hown (hT _ ki_X3_98) dX3_endow_3 ?_
  refine z_backR1 (z_runS ⟨hx, hb, hml, hown, hT⟩ (rest := []) (As := [.int am, .int (-1000000), .int 1000000]) (c_X3_isWithin l D ks am (-1000000) 1000000 ) k_X3_50 (z_preR hK trivial) rfl ⟨Nat.le_of_ble_eq_true rfl, Nat.le_of_ble_eq_true rfl⟩ hl.1 rfl (Nat.le_of_ble_eq_true rfl) dX3_endow_5 ⟨Nat.le_of_ble_eq_true rfl, Nat.le_of_ble_eq_true rfl⟩) ?_
  refine lv_if_ne (tgt := 21) hx hb dX3_endow_8 (by decide) (fun c_1 => ?_) (fun c_1 => ?_)
  · exact absurd hq (c_1)
  · exact z_throw_a hx hb hst hown hT hX hex hlk hml hl.1 (text := "amount is out of range") (by decide) cl_X3_55 dX3_endow_11 dX3_endow_14 dX3_endow_15 dX3_endow_17 dX3_endow_20 (Nat.le_of_ble_eq_true rfl) (Nat.le_of_ble_eq_true rfl) (Nat.le_of_ble_eq_true rfl) (Nat.le_of_ble_eq_true rfl)
set_option maxHeartbeats 4000000 in
set_option maxRecDepth 100000 in
theorem c_X3_run_bad (l : Launch) (hst : l.stackTraces = false) (hI : zIn Rs np ng) (rt : Int32) (hq : fIn rt (-200) 200 = 0) : zMX l yX3_run cX3_run 5 ((some .int)) 6 (82) D ks [.ref (ad 13), .int rt] (zP D Rs ad (gS ks ad np ng G MI MJ XI XJ)) "java/lang/IllegalArgumentException" := by
  refine zMX.of (by decide +kernel) (Nat.le_of_ble_eq_true rfl) ?_
  intro p e s m below meth c ls hx hb hr hml hown hlk hT hP hX hex hl
  have hK := hX.1
  have hl : lv_has ls 5 [(0, .ref (ad 13)), (1, .int rt)] := hl
  refine lv_iload_n hx hb dX3_run_0 rfl (lv_at hl 1 rfl) ?_
  refine lv_sipush (v := (-200)) hx hb dX3_run_1 (by decide) ?_
  refine lv_sipush (v := 200) hx hb dX3_run_4 (by decide) ?_
  refine z_backR1 (z_runS ⟨hx, hb, hml, hown, hT⟩ (rest := []) (As := [.int rt, .int (-200), .int 200]) (c_X3_isWithin l D ks rt (-200) 200 ) k_X3_50 (z_preR hK trivial) rfl ⟨Nat.le_of_ble_eq_true rfl, Nat.le_of_ble_eq_true rfl⟩ hl.1 rfl (Nat.le_of_ble_eq_true rfl) dX3_run_7 ⟨Nat.le_of_ble_eq_true rfl, Nat.le_of_ble_eq_true rfl⟩) ?_
  refine lv_if_ne (tgt := 23) hx hb dX3_run_10 (by decide) (fun c_1 => ?_) (fun c_1 => ?_)
  · exact absurd hq (c_1)
  · exact z_throw_a hx hb hst hown hT hX hex hlk hml hl.1 (text := "rate is out of range") (by decide) cl_X3_55 dX3_run_13 dX3_run_16 dX3_run_17 dX3_run_19 dX3_run_22 (Nat.le_of_ble_eq_true rfl) (Nat.le_of_ble_eq_true rfl) (Nat.le_of_ble_eq_true rfl) (Nat.le_of_ble_eq_true rfl)
set_option maxHeartbeats 4000000 in
set_option maxRecDepth 100000 in
theorem c_X3_generation_bad (l : Launch) (hst : l.stackTraces = false) (hI : zIn Rs np ng) (y : Int32) (te : Int32) (hq : fIn y 0 40 = 0 ∨ fIn te 2 20 = 0) : zMX l yX3_generation cX3_generation 4 ((some .int)) 6 (82) D ks [.ref (ad 13), .int y, .int te] (zP D Rs ad (gS ks ad np ng G MI MJ XI XJ)) "java/lang/IllegalArgumentException" := by
  refine zMX.of (by decide +kernel) (Nat.le_of_ble_eq_true rfl) ?_
  intro p e s m below meth c ls hx hb hr hml hown hlk hT hP hX hex hl
  have hK := hX.1
  have hl : lv_has ls 4 [(0, .ref (ad 13)), (1, .int y), (2, .int te)] := hl
  refine lv_iload_n hx hb dX3_generation_0 rfl (lv_at hl 1 rfl) ?_
  refine lv_iconst (v := 0) hx hb dX3_generation_1 (by decide) ?_
  refine lv_bipush (v := 40) hx hb dX3_generation_2 (by decide) ?_
  refine z_backR1 (z_runS ⟨hx, hb, hml, hown, hT⟩ (rest := []) (As := [.int y, .int 0, .int 40]) (c_X3_isWithin l D ks y 0 40 ) k_X3_50 (z_preR hK trivial) rfl ⟨Nat.le_of_ble_eq_true rfl, Nat.le_of_ble_eq_true rfl⟩ hl.1 rfl (Nat.le_of_ble_eq_true rfl) dX3_generation_4 ⟨Nat.le_of_ble_eq_true rfl, Nat.le_of_ble_eq_true rfl⟩) ?_
  refine lv_if_eq (tgt := 17) hx hb dX3_generation_7 (by decide) (fun c_1 => ?_) (fun c_1 => ?_)
  · exact z_throw_a hx hb hst hown hT hX hex hlk hml hl.1 (text := "year or term is out of range") (by decide) cl_X3_55 dX3_generation_17 dX3_generation_20 dX3_generation_21 dX3_generation_23 dX3_generation_26 (Nat.le_of_ble_eq_true rfl) (Nat.le_of_ble_eq_true rfl) (Nat.le_of_ble_eq_true rfl) (Nat.le_of_ble_eq_true rfl)
  · refine lv_iload_n hx hb dX3_generation_10 rfl (lv_at hl 2 rfl) ?_
    refine z_backR1 (z_runS ⟨hx, hb, hml, hown, hT⟩ (rest := []) (As := [.int te]) (c_X3_isTerm l D ks te ) k_X3_46 (z_preR hK trivial) rfl ⟨Nat.le_of_ble_eq_true rfl, Nat.le_of_ble_eq_true rfl⟩ hl.1 rfl (Nat.le_of_ble_eq_true rfl) dX3_generation_11 ⟨Nat.le_of_ble_eq_true rfl, Nat.le_of_ble_eq_true rfl⟩) ?_
    refine lv_if_ne (tgt := 27) hx hb dX3_generation_14 (by decide) (fun c_2 => ?_) (fun c_2 => ?_)
    · exact absurd hq (not_or.mpr ⟨c_1, c_2⟩)
    · exact z_throw_a hx hb hst hown hT hX hex hlk hml hl.1 (text := "year or term is out of range") (by decide) cl_X3_55 dX3_generation_17 dX3_generation_20 dX3_generation_21 dX3_generation_23 dX3_generation_26 (Nat.le_of_ble_eq_true rfl) (Nat.le_of_ble_eq_true rfl) (Nat.le_of_ble_eq_true rfl) (Nat.le_of_ble_eq_true rfl)
set_option maxHeartbeats 4000000 in
set_option maxRecDepth 100000 in
theorem c_X3_lastRatio_bad (l : Launch) (hst : l.stackTraces = false) (hI : zIn Rs np ng) (te : Int32) (hq : fIn te 2 20 = 0) : zMX l yX3_lastRatio cX3_lastRatio 2 ((some .int)) 6 (82) D ks [.ref (ad 13), .int te] (zP D Rs ad (gS ks ad np ng G MI MJ XI XJ)) "java/lang/IllegalArgumentException" := by
  refine zMX.of (by decide +kernel) (Nat.le_of_ble_eq_true rfl) ?_
  intro p e s m below meth c ls hx hb hr hml hown hlk hT hP hX hex hl
  have hK := hX.1
  have hl : lv_has ls 2 [(0, .ref (ad 13)), (1, .int te)] := hl
  refine lv_iload_n hx hb dX3_lastRatio_0 rfl (lv_at hl 1 rfl) ?_
  refine z_backR1 (z_runS ⟨hx, hb, hml, hown, hT⟩ (rest := []) (As := [.int te]) (c_X3_isTerm l D ks te ) k_X3_46 (z_preR hK trivial) rfl ⟨Nat.le_of_ble_eq_true rfl, Nat.le_of_ble_eq_true rfl⟩ hl.1 rfl (Nat.le_of_ble_eq_true rfl) dX3_lastRatio_1 ⟨Nat.le_of_ble_eq_true rfl, Nat.le_of_ble_eq_true rfl⟩) ?_
  refine lv_if_ne (tgt := 17) hx hb dX3_lastRatio_4 (by decide) (fun c_1 => ?_) (fun c_1 => ?_)
  · exact absurd hq (c_1)
  · exact z_throw_a hx hb hst hown hT hX hex hlk hml hl.1 (text := "term is out of range") (by decide) cl_X3_55 dX3_lastRatio_7 dX3_lastRatio_10 dX3_lastRatio_11 dX3_lastRatio_13 dX3_lastRatio_16 (Nat.le_of_ble_eq_true rfl) (Nat.le_of_ble_eq_true rfl) (Nat.le_of_ble_eq_true rfl) (Nat.le_of_ble_eq_true rfl)
set_option maxHeartbeats 4000000 in
set_option maxRecDepth 100000 in
theorem c_X3_begin_bad (l : Launch) (hst : l.stackTraces = false) (hI : zIn Rs np ng) (te : Int32) (pr : Int32) (su : Int32) (hq : fIn te 2 20 = 0 ∨ fIn pr 1 1000 = 0 ∨ fIn su 0 100000 = 0) : zMX l yX3_begin cX3_begin 5 ((some .int)) 6 (82) D ks [.ref (ad 13), .int te, .int pr, .int su] (zP D Rs ad (gS ks ad np ng G MI MJ XI XJ)) "java/lang/IllegalArgumentException" := by
  refine zMX.of (by decide +kernel) (Nat.le_of_ble_eq_true rfl) ?_
  intro p e s m below meth c ls hx hb hr hml hown hlk hT hP hX hex hl
  have hK := hX.1
  have hl : lv_has ls 5 [(0, .ref (ad 13)), (1, .int te), (2, .int pr), (3, .int su)] := hl
  refine lv_iload_n hx hb dX3_begin_0 rfl (lv_at hl 1 rfl) ?_
  refine z_backR1 (z_runS ⟨hx, hb, hml, hown, hT⟩ (rest := []) (As := [.int te]) (c_X3_isTerm l D ks te ) k_X3_46 (z_preR hK trivial) rfl ⟨Nat.le_of_ble_eq_true rfl, Nat.le_of_ble_eq_true rfl⟩ hl.1 rfl (Nat.le_of_ble_eq_true rfl) dX3_begin_1 ⟨Nat.le_of_ble_eq_true rfl, Nat.le_of_ble_eq_true rfl⟩) ?_
  refine lv_if_eq (tgt := 28) hx hb dX3_begin_4 (by decide) (fun c_1 => ?_) (fun c_1 => ?_)
  · exact z_throw_a hx hb hst hown hT hX hex hlk hml hl.1 (text := "term, premium or sum is out of range") (by decide) cl_X3_55 dX3_begin_28 dX3_begin_31 dX3_begin_32 dX3_begin_34 dX3_begin_37 (Nat.le_of_ble_eq_true rfl) (Nat.le_of_ble_eq_true rfl) (Nat.le_of_ble_eq_true rfl) (Nat.le_of_ble_eq_true rfl)
  · refine lv_iload_n hx hb dX3_begin_7 rfl (lv_at hl 2 rfl) ?_
    refine lv_iconst (v := 1) hx hb dX3_begin_8 (by decide) ?_
    refine lv_sipush (v := 1000) hx hb dX3_begin_9 (by decide) ?_
    refine z_backR1 (z_runS ⟨hx, hb, hml, hown, hT⟩ (rest := []) (As := [.int pr, .int 1, .int 1000]) (c_X3_isWithin l D ks pr 1 1000 ) k_X3_50 (z_preR hK trivial) rfl ⟨Nat.le_of_ble_eq_true rfl, Nat.le_of_ble_eq_true rfl⟩ hl.1 rfl (Nat.le_of_ble_eq_true rfl) dX3_begin_12 ⟨Nat.le_of_ble_eq_true rfl, Nat.le_of_ble_eq_true rfl⟩) ?_
    refine lv_if_eq (tgt := 28) hx hb dX3_begin_15 (by decide) (fun c_2 => ?_) (fun c_2 => ?_)
    · exact z_throw_a hx hb hst hown hT hX hex hlk hml hl.1 (text := "term, premium or sum is out of range") (by decide) cl_X3_55 dX3_begin_28 dX3_begin_31 dX3_begin_32 dX3_begin_34 dX3_begin_37 (Nat.le_of_ble_eq_true rfl) (Nat.le_of_ble_eq_true rfl) (Nat.le_of_ble_eq_true rfl) (Nat.le_of_ble_eq_true rfl)
    · refine lv_iload_n hx hb dX3_begin_18 rfl (lv_at hl 3 rfl) ?_
      refine lv_iconst (v := 0) hx hb dX3_begin_19 (by decide) ?_
      refine lv_ldc (v := 100000) hx hb hown (hT _ ki_X3_54) dX3_begin_20 ?_
      refine z_backR1 (z_runS ⟨hx, hb, hml, hown, hT⟩ (rest := []) (As := [.int su, .int 0, .int 100000]) (c_X3_isWithin l D ks su 0 100000 ) k_X3_50 (z_preR hK trivial) rfl ⟨Nat.le_of_ble_eq_true rfl, Nat.le_of_ble_eq_true rfl⟩ hl.1 rfl (Nat.le_of_ble_eq_true rfl) dX3_begin_22 ⟨Nat.le_of_ble_eq_true rfl, Nat.le_of_ble_eq_true rfl⟩) ?_
      refine lv_if_ne (tgt := 38) hx hb dX3_begin_25 (by decide) (fun c_3 => ?_) (fun c_3 => ?_)
      · exact absurd hq (not_or.mpr ⟨c_1, not_or.mpr ⟨c_2, c_3⟩⟩)
      · exact z_throw_a hx hb hst hown hT hX hex hlk hml hl.1 (text := "term, premium or sum is out of range") (by decide) cl_X3_55 dX3_begin_28 dX3_begin_31 dX3_begin_32 dX3_begin_34 dX3_begin_37 (Nat.le_of_ble_eq_true rfl) (Nat.le_of_ble_eq_true rfl) (Nat.le_of_ble_eq_true rfl) (Nat.le_of_ble_eq_true rfl)
set_option maxHeartbeats 4000000 in
set_option maxRecDepth 100000 in
theorem c_X3_run_late (l : Launch) (hst : l.stackTraces = false) (hI : zIn Rs np ng) (rt : Int32) (h0 : fIn rt (-200) 200 = 1) (hy : 40 ≤ XI 10 2) : zMX l yX3_run cX3_run 5 ((some .int)) 6 (82) D ks [.ref (ad 13), .int rt] (zP D Rs ad (gS ks ad np ng G MI MJ XI XJ)) "java/lang/IllegalStateException" := by
  refine zMX.of (by decide +kernel) (Nat.le_of_ble_eq_true rfl) ?_
  intro p e s m below meth c ls hx hb hr hml hown hlk hT hP hX hex hl
  have hK := hX.1
  have hl : lv_has ls 5 [(0, .ref (ad 13)), (1, .int rt)] := hl
  refine lv_iload_n hx hb dX3_run_0 rfl (lv_at hl 1 rfl) ?_
  refine lv_sipush (v := (-200)) hx hb dX3_run_1 (by decide) ?_
  refine lv_sipush (v := 200) hx hb dX3_run_4 (by decide) ?_
  refine z_backR1 (z_runS ⟨hx, hb, hml, hown, hT⟩ (rest := []) (As := [.int rt, .int (-200), .int 200]) (c_X3_isWithin l D ks rt (-200) 200 ) k_X3_50 (z_preR hK trivial) rfl ⟨Nat.le_of_ble_eq_true rfl, Nat.le_of_ble_eq_true rfl⟩ hl.1 rfl (Nat.le_of_ble_eq_true rfl) dX3_run_7 ⟨Nat.le_of_ble_eq_true rfl, Nat.le_of_ble_eq_true rfl⟩) ?_
  refine lv_if_ne (tgt := 23) hx hb dX3_run_10 (by decide) (fun c_1 => ?_) (fun c_1 => ?_)
  · refine lv_aload_n hx hb dX3_run_23 rfl (lv_at hl 0 rfl) ?_
    refine gf_X3_110 hx hb hT hown hK (hP.at (hI.1 13 (by decide)) rfl) rfl dX3_run_24 ?_
    refine lv_bipush (v := 40) hx hb dX3_run_27 (by decide) ?_
    refine lv_icmp_lt (tgt := 42) hx hb dX3_run_29 (by decide) (fun c_2 => ?_) (fun c_2 => ?_)
    · exact absurd c_2 (Int32.not_lt.mpr hy)
    · exact z_throw_s hx hb hst hown hT hX hex hlk hml hl.1 (text := "it is the year 40") (by decide) cl_X3_65 dX3_run_32 dX3_run_35 dX3_run_36 dX3_run_38 dX3_run_41 (Nat.le_of_ble_eq_true rfl) (Nat.le_of_ble_eq_true rfl) (Nat.le_of_ble_eq_true rfl) (Nat.le_of_ble_eq_true rfl)
  · exact absurd ((h0).symm.trans c_1) (by decide)
set_option maxHeartbeats 4000000 in
set_option maxRecDepth 100000 in
theorem c_X3_begin_full (l : Launch) (hst : l.stackTraces = false) (hI : zIn Rs np ng) (te : Int32) (pr : Int32) (su : Int32) (hf : XI 10 0 = 30) (h0 : fIn te 2 20 = 1) (h1 : fIn pr 1 1000 = 1) (h2 : fIn su 0 100000 = 1) : zMX l yX3_begin cX3_begin 5 ((some .int)) 6 (82) D ks [.ref (ad 13), .int te, .int pr, .int su] (zP D Rs ad (gS ks ad np ng G MI MJ XI XJ)) "java/lang/IllegalStateException" := by
  refine zMX.of (by decide +kernel) (Nat.le_of_ble_eq_true rfl) ?_
  intro p e s m below meth c ls hx hb hr hml hown hlk hT hP hX hex hl
  have hK := hX.1
  have hl : lv_has ls 5 [(0, .ref (ad 13)), (1, .int te), (2, .int pr), (3, .int su)] := hl
  refine lv_iload_n hx hb dX3_begin_0 rfl (lv_at hl 1 rfl) ?_
  refine z_backR1 (z_runS ⟨hx, hb, hml, hown, hT⟩ (rest := []) (As := [.int te]) (c_X3_isTerm l D ks te ) k_X3_46 (z_preR hK trivial) rfl ⟨Nat.le_of_ble_eq_true rfl, Nat.le_of_ble_eq_true rfl⟩ hl.1 rfl (Nat.le_of_ble_eq_true rfl) dX3_begin_1 ⟨Nat.le_of_ble_eq_true rfl, Nat.le_of_ble_eq_true rfl⟩) ?_
  refine lv_if_eq (tgt := 28) hx hb dX3_begin_4 (by decide) (fun c_1 => ?_) (fun c_1 => ?_)
  · exact absurd ((h0).symm.trans c_1) (by decide)
  · refine lv_iload_n hx hb dX3_begin_7 rfl (lv_at hl 2 rfl) ?_
    refine lv_iconst (v := 1) hx hb dX3_begin_8 (by decide) ?_
    refine lv_sipush (v := 1000) hx hb dX3_begin_9 (by decide) ?_
    refine z_backR1 (z_runS ⟨hx, hb, hml, hown, hT⟩ (rest := []) (As := [.int pr, .int 1, .int 1000]) (c_X3_isWithin l D ks pr 1 1000 ) k_X3_50 (z_preR hK trivial) rfl ⟨Nat.le_of_ble_eq_true rfl, Nat.le_of_ble_eq_true rfl⟩ hl.1 rfl (Nat.le_of_ble_eq_true rfl) dX3_begin_12 ⟨Nat.le_of_ble_eq_true rfl, Nat.le_of_ble_eq_true rfl⟩) ?_
    refine lv_if_eq (tgt := 28) hx hb dX3_begin_15 (by decide) (fun c_2 => ?_) (fun c_2 => ?_)
    · exact absurd ((h1).symm.trans c_2) (by decide)
    · refine lv_iload_n hx hb dX3_begin_18 rfl (lv_at hl 3 rfl) ?_
      refine lv_iconst (v := 0) hx hb dX3_begin_19 (by decide) ?_
      refine lv_ldc (v := 100000) hx hb hown (hT _ ki_X3_54) dX3_begin_20 ?_
      refine z_backR1 (z_runS ⟨hx, hb, hml, hown, hT⟩ (rest := []) (As := [.int su, .int 0, .int 100000]) (c_X3_isWithin l D ks su 0 100000 ) k_X3_50 (z_preR hK trivial) rfl ⟨Nat.le_of_ble_eq_true rfl, Nat.le_of_ble_eq_true rfl⟩ hl.1 rfl (Nat.le_of_ble_eq_true rfl) dX3_begin_22 ⟨Nat.le_of_ble_eq_true rfl, Nat.le_of_ble_eq_true rfl⟩) ?_
      refine lv_if_ne (tgt := 38) hx hb dX3_begin_25 (by decide) (fun c_3 => ?_) (fun c_3 => ?_)
      · refine lv_aload_n hx hb dX3_begin_38 rfl (lv_at hl 0 rfl) ?_
        refine gf_X3_62 hx hb hT hown hK (hP.at (hI.1 13 (by decide)) rfl) rfl dX3_begin_39 ?_
        refine lv_istore (lv' := [(4, .int (XI 10 0)), (0, .ref (ad 13)), (1, .int te), (2, .int pr), (3, .int su)]) hx hb dX3_begin_42 hl (by decide) rfl (fun ls hl => ?_)
        refine lv_iload hx hb dX3_begin_44 (lv_at hl 0 rfl) ?_
        refine lv_if_lt (tgt := 59) hx hb dX3_begin_46 (by decide) (fun c_4 => ?_) (fun c_4 => ?_)
        · exact z_throw_s hx hb hst hown hT hX hex hlk hml hl.1 (text := "there are 30 policies") (by decide) cl_X3_65 dX3_begin_59 dX3_begin_62 dX3_begin_63 dX3_begin_65 dX3_begin_68 (Nat.le_of_ble_eq_true rfl) (Nat.le_of_ble_eq_true rfl) (Nat.le_of_ble_eq_true rfl) (Nat.le_of_ble_eq_true rfl)
        · refine lv_iload hx hb dX3_begin_49 (lv_at hl 0 rfl) ?_
          refine lv_aload_n hx hb dX3_begin_51 rfl (lv_at hl 1 rfl) ?_
          refine gf_X3_11 hx hb hT hown hK (hP.at (hI.1 13 (by decide)) rfl) rfl dX3_begin_52 ?_
          refine z_plen hx hb hK (hP.at (hI.1 14 (by decide)) rfl) (v := 30) rfl dX3_begin_55 ?_
          refine lv_icmp_lt (tgt := 69) hx hb dX3_begin_56 (by decide) (fun c_5 => ?_) (fun c_5 => ?_)
          · exact absurd c_5 (by rw [hf]; decide)
          · exact z_throw_s hx hb hst hown hT hX hex hlk hml hl.1 (text := "there are 30 policies") (by decide) cl_X3_65 dX3_begin_59 dX3_begin_62 dX3_begin_63 dX3_begin_65 dX3_begin_68 (Nat.le_of_ble_eq_true rfl) (Nat.le_of_ble_eq_true rfl) (Nat.le_of_ble_eq_true rfl) (Nat.le_of_ble_eq_true rfl)
      · exact absurd ((h2).symm.trans c_3) (by decide)
end ZT
end
section
/-! what is made: funds, generations, policies -/
section ZB1
variable {D : va_G} {ks : Nat → ClassId} {ad : Nat → Nat} {np ng : Nat} {G : Nat → Nat} {MI : Nat → Nat → Int32} {MJ : Nat → Nat → Int64} {XI : Nat → Nat → Int32} {XJ : Nat → Nat → Int64} {Rs : List Nat}
theorem zP.push {g : Nat → va_E} {H : Heap} {q r : Nat} {e : va_E} (h : zP D Rs ad g H) (hq : va_at D vwCl (q, e) H) (hr : r ∉ Rs) : zP D (r :: Rs) (va_up ad r q) (va_up g r e) H := by
  intro x hx
  by_cases hxr : x = r
  · subst hxr
    rw [va_up_self, va_up_self]
    exact hq
  · rw [va_up_ne _ _ hxr, va_up_ne _ _ hxr]
    exact h x ((List.mem_cons.mp hx).resolve_left hxr)
theorem zD.push {A : Nat → Prop} {q r : Nat} (h : zD A Rs ad) (hr : r ∉ Rs) (hq : ∀ x ∈ Rs, ad x ≠ q) (hA : A q) : zD A (r :: Rs) (va_up ad r q) := by
  refine ⟨List.nodup_cons.mpr ⟨hr, h.1⟩, ?_, ?_⟩
  · intro x hx y hy e
    by_cases hxr : x = r <;> by_cases hyr : y = r
    · rw [hxr, hyr]
    · subst hxr
      rw [va_up_self, va_up_ne _ _ hyr] at e
      exact absurd e.symm (hq y ((List.mem_cons.mp hy).resolve_left hyr))
    · subst hyr
      rw [va_up_self, va_up_ne _ _ hxr] at e
      exact absurd e (hq x ((List.mem_cons.mp hx).resolve_left hxr))
    · rw [va_up_ne _ _ hxr, va_up_ne _ _ hyr] at e
      exact h.2.1 x ((List.mem_cons.mp hx).resolve_left hxr) y ((List.mem_cons.mp hy).resolve_left hyr) e
  · intro x hx
    by_cases hxr : x = r
    · subst hxr; rw [va_up_self]; exact hA
    · rw [va_up_ne _ _ hxr]; exact h.2.2 x ((List.mem_cons.mp hx).resolve_left hxr)
theorem zD.weak {A B : Nat → Prop} (h : zD A Rs ad) (hAB : ∀ q, A q → B q) : zD B Rs ad := ⟨h.1, h.2.1, fun r hr => hAB _ (h.2.2 r hr)⟩
theorem zA_cons {r q sz sz2 : Nat} (hs : sz ≤ sz2) (hq : sz ≤ q) : ∀ x, zA (r :: Rs) (va_up ad r q) sz2 x → zA Rs ad sz x := by
  rintro x (⟨y, hy, rfl⟩ | h)
  · by_cases hyr : y = r
    · subst hyr; rw [va_up_self]; exact Or.inr hq
    · rw [va_up_ne _ _ hyr]; exact Or.inl ⟨y, (List.mem_cons.mp hy).resolve_left hyr, rfl⟩
  · exact Or.inr (Nat.le_trans hs h)
section
variable {p : Program} {l : Launch} {e : Env} {R : Room} {s : State} {m : MethodId} {args : Array Value} {below : List Frame} {meth : Method} {c : Code} {H : Heap} {locs : List Loc} {cells slots : Nat} {Q : State → Prop}
variable {cc : ByteArray} {pc : Nat} {ls : Array Slot} {rest st0 : List Value} {A A1 : Nat → Prop} {g : Nat → va_E}
theorem z_new (hx : p.tables.exec = Jvm.exec) (hb : c.code = cc) (hT : ∀ w ∈ WS, w.before args s = true) {own C : String} {T : u_T} {N ci index : Nat} (hown : s.vm.findClass own = some m.cls) (hK : zK D ks s) (hin : ∀ w ∈ u_ws C T N, w ∈ WS) (ty : Nat → FieldType) (hty : ∀ k, k < N → parseFieldDescriptor (T k).2.2.1 = some (ty k)) (hcl : Cond.classLink own index C ∈ WS) (hinst : Cond.instantiable C N ∈ WS) (hini : Cond.initialized C ∈ WS)
    (hP : zP D Rs ad g H) (hD : zD A Rs ad) (hS : va_S A s.heap H locs) (hA : ∀ q : Nat, s.heap.size ≤ q → A q) (hc : vwCl[ci]? = some (C, T, N)) {fs : List Value} (hfs : ∀ j, j < N → defaultValue (ty j) = vp_V fs j) {r : Nat} (hr : r ∉ Rs) (hcells : cells + 1 ≤ R.cells) (hslots : slots + N ≤ R.slots) (hdg : decode cc pc = .ok (.new index, 3))
    (kk : ∀ (q : Nat) (H1 : Heap), zP D (r :: Rs) (va_up ad r q) (va_up g r (.inr (ci, fs))) H1 → zD A (r :: Rs) (va_up ad r q) → s.heap.size ≤ q → va_S A s.heap H1 locs → W p l e R s m args below meth c H1 locs (cells + 1) (slots + N) Q (F0 m (pc + 3) ls (.ref q :: rest))) : W p l e R s m args below meth c H locs cells slots Q (F0 m pc ls rest) := by
  have hKn := hK.1.1 ci _ hc
  refine W.newcK hx hb hown (hT _ hcl) (hT _ hinst) (hT _ hini) rfl hdg hcells hslots hKn.2.1 rfl fun H1 kC hkC e1 z1 o1 => ?_
  refine kk H.size H1 (zP.push (fun x hx => (hP x hx).kept (o1 _ (hP.lt hx))) ⟨_, hc, (u_born ty hT hin hKn hkC e1 hty).to hfs⟩ hr) (hD.push hr (fun x hx => Nat.ne_of_lt (hP.lt hx)) (hA _ hS.1)) hS.1 ⟨Nat.le_trans hS.1 (by omega), fun x h1 h2 => (o1 x (Nat.lt_of_lt_of_le h1 hS.1)).trans (hS.2.1 x h1 h2), hS.2.2⟩
/-- Object's constructor -/
theorem z_obj (hx : p.tables.exec = Jvm.exec) (hb : c.code = cc) (hT : ∀ w ∈ WS, w.before args s = true) {own : String} {idx nL a : Nat} (hown : s.vm.findClass own = some m.cls) (hl : Cond.methodLink own idx objectInit ∈ WS) (hml : c.maxLocals = nL) (hsz : ls.size = nL) (hdg : decode cc pc = .ok (.invokespecial idx, 3)) (hf : 1 ≤ R.frames) (hlo : (rest.map fun v => v.category).sum + 12 ≤ R.locals)
    (kk : W p l e R s m args below meth c H locs cells slots Q (F0 m (pc + 3) ls rest)) : W p l e R s m args below meth c H locs cells slots Q (F0 m pc ls (.ref a :: rest)) :=
  W.objInit hx hb hown (hT _ hl) (hT _ im_objectInit) (hT _ co_objectInit) rfl (hsz.trans hml.symm) rfl hdg hf (by show 2 * 0 + _ + 12 ≤ _; omega) kk
def zQA (B : Nat → Heap → Prop) (A : Nat → Prop) : Array Value → State → Outcome → State → Prop := fun _ st oc t => ∃ q : Nat, oc = .returned (some (.ref q)) ∧ B q t.heap ∧ va_F A st t
theorem z_backA {mc ms : Nat} {B : Nat → Heap → Prop} {a : Array Value} (hr : va_Run p l e R s m args below meth c H locs cells slots mc ms (F0 m pc ls st0) rest (zQA B A1 a) A1) (hS : va_S A s.heap H locs) (hA : ∀ q, A1 q → A q)
    (kk : ∀ (q : Nat) (H1 : Heap) (locs1 : List Loc), B q H1 → H.size ≤ H1.size → va_S A s.heap H1 locs1 → W p l e R s m args below meth c H1 locs1 (cells + mc) (slots + ms) Q (F0 m (pc + 3) ls (.ref q :: rest))) : W p l e R s m args below meth c H locs cells slots Q (F0 m pc ls st0) := by
  intro T hT X
  obtain ⟨v, st₀, t, T', L, h0, X', hL, e1, e2, ⟨q, hv, hB, hF⟩, st⟩ := hr T hT X
  cases hv
  obtain ⟨t2, a1, b1⟩ := kk q T'.heap (locs ++ L) (by rw [e1]; exact hB) (by rw [e1, ← h0]; exact hF.1) (z_keep h0 e1 hS hA hL hF) T' rfl X'
  exact ⟨t2, st t2 a1, b1⟩
theorem zA_a {mc ms : Nat} {B : Nat → Heap → Prop} {C : String} {q : Nat} (hx : p.tables.exec = Jvm.exec) (hb : c.code = cc) (hr : meth.sig.returnType = some (.object C)) (hlk : meth.locks = false) (hS : va_S A s.heap H locs) (hc : cells ≤ mc) (hs : slots ≤ ms) (hdg : decode cc pc = .ok (.areturn, 1)) (hB : B q H) : W p l e R s m args below meth c H locs cells slots (MQ below (zQA B A) args s mc ms A) (F0 m pc ls [.ref q]) :=
  W.widen hc hs (W.aret hx hb hr (Or.inl ⟨_, rfl⟩) (Or.inr ⟨_, rfl⟩) (fun t ht _ => ⟨q, rfl, by rw [ht]; exact hB, hS.F ht⟩) hS.2.2 hdg hlk)
end
theorem zMA.of {l : Launch} {y : MethodName} {cc : ByteArray} {n : Nat} {ret : Option FieldType} {fr lo mc ms : Nat} {As : List Value} {P : Heap → Prop} {Qc : Array Value → State → Outcome → State → Prop} {A : Nat → Prop} {sz : Nat} (hy : plainName y.cls = true) (hn : (lg_sl As).length ≤ n)
    (body : ∀ (p : Program) (e : Env) (s : State) (m : MethodId) (below : List Frame) (meth : Method) (c : Code) (ls : Array Slot), p.tables.exec = Jvm.exec → c.code = cc → meth.sig.returnType = ret → c.maxLocals = n → s.vm.findClass y.cls = some m.cls → meth.locks = false → (∀ w ∈ WS, w.before As.toArray s = true) → s.heap.size = sz → P s.heap → zK D ks s → lv_has ls n (lv_args 0 As) →
      W p l e (zRm fr lo mc ms) s m As.toArray below meth c s.heap [] 0 0 (MQ below Qc As.toArray s mc ms A) (F0 m 0 ls [])) : Met l y (Cond.code y cc n ret :: WS) (zRm fr lo mc ms) (zPW D ks sz As P) Qc mc ms A := by
  refine Met.ofW (cc := cc) (maxL := n) (ret := ret) hy rfl ?_
  intro p e s m args below meth c s₁ B hml hv
  obtain ⟨rfl, hsz, hP, hK⟩ := hv
  rw [lg_entry_eq]
  exact body p e s m below meth c _ B.exec B.bytes B.returns hml (findClass_of_methodNamed B.named) B.notSynchronized (fun w hw => atoms_spec (ws := Cond.code y cc n ret :: WS) B.pre w (List.mem_cons_of_mem _ hw)) hsz hP hK (lv_entry As hn)
section
variable {p : Program} {l : Launch} {e : Env} {R : Room} {s : State} {m : MethodId} {args : Array Value} {below : List Frame} {meth : Method} {c : Code} {H : Heap} {locs : List Loc} {cells slots : Nat} {Q : State → Prop}
variable {cc : ByteArray} {pc : Nat} {ls : Array Slot} {rest : List Value} {A : Nat → Prop} {g : Nat → va_E}
theorem pa_X3_62 {a : Nat} (hx : p.tables.exec = Jvm.exec) (hb : c.code = cc) (hT : ∀ w ∈ WS, w.before args s = true) (hown : s.vm.findClass RX3 = some m.cls) (hK : zK D ks s) (hP : zP D Rs ad g H) (hD : zD A Rs ad) (hS : va_S A s.heap H locs) {r : Nat} (hr : r ∈ Rs) (har : ad r = a) {fs : List Value} {v : Int32} (he : g r = .inr (3, fs)) (hl : 4 < fs.length) (hdg : decode cc pc = .ok (.putfield 62, 3)) (kk : ∀ (H1 : Heap) (locs1 : List Loc), zP D Rs ad (va_up g r (.inr (3, fs.set 4 (.int v)))) H1 → va_S A s.heap H1 locs1 → W p l e R s m args below meth c H1 locs1 cells slots Q (F0 m (pc + 3) ls rest)) : W p l e R s m args below meth c H locs cells slots Q (F0 m pc ls (.int v :: .ref a :: rest)) := by
  subst har
  exact pg_X3_62 hx hb hT hown hK hP hD hS hr he hl hdg kk
theorem pa_X3_205 {a : Nat} (hx : p.tables.exec = Jvm.exec) (hb : c.code = cc) (hT : ∀ w ∈ WS, w.before args s = true) (hown : s.vm.findClass RX3 = some m.cls) (hK : zK D ks s) (hP : zP D Rs ad g H) (hD : zD A Rs ad) (hS : va_S A s.heap H locs) {r : Nat} (hr : r ∈ Rs) (har : ad r = a) {fs : List Value} {v : Int32} (he : g r = .inr (3, fs)) (hl : 5 < fs.length) (hdg : decode cc pc = .ok (.putfield 205, 3)) (kk : ∀ (H1 : Heap) (locs1 : List Loc), zP D Rs ad (va_up g r (.inr (3, fs.set 5 (.int v)))) H1 → va_S A s.heap H1 locs1 → W p l e R s m args below meth c H1 locs1 cells slots Q (F0 m (pc + 3) ls rest)) : W p l e R s m args below meth c H locs cells slots Q (F0 m pc ls (.int v :: .ref a :: rest)) := by
  subst har
  exact pg_X3_205 hx hb hT hown hK hP hD hS hr he hl hdg kk
theorem pa_X3_208 {a : Nat} (hx : p.tables.exec = Jvm.exec) (hb : c.code = cc) (hT : ∀ w ∈ WS, w.before args s = true) (hown : s.vm.findClass RX3 = some m.cls) (hK : zK D ks s) (hP : zP D Rs ad g H) (hD : zD A Rs ad) (hS : va_S A s.heap H locs) {r : Nat} (hr : r ∈ Rs) (har : ad r = a) {fs : List Value} {v : Int64} (he : g r = .inr (1, fs)) (hl : 3 < fs.length) (hdg : decode cc pc = .ok (.putfield 208, 3)) (kk : ∀ (H1 : Heap) (locs1 : List Loc), zP D Rs ad (va_up g r (.inr (1, fs.set 3 (.long v)))) H1 → va_S A s.heap H1 locs1 → W p l e R s m args below meth c H1 locs1 cells slots Q (F0 m (pc + 3) ls rest)) : W p l e R s m args below meth c H locs cells slots Q (F0 m pc ls (.long v :: .ref a :: rest)) := by
  subst har
  exact pg_X3_208 hx hb hT hown hK hP hD hS hr he hl hdg kk
theorem pa_X1_7 {a : Nat} (hx : p.tables.exec = Jvm.exec) (hb : c.code = cc) (hT : ∀ w ∈ WS, w.before args s = true) (hown : s.vm.findClass RX1 = some m.cls) (hK : zK D ks s) (hin : meth.name = "<init>") (hP : zP D Rs ad g H) (hD : zD A Rs ad) (hS : va_S A s.heap H locs) {r : Nat} (hr : r ∈ Rs) (har : ad r = a) {fs : List Value} {v : Int32} (he : g r = .inr (1, fs)) (hl : 0 < fs.length) (hdg : decode cc pc = .ok (.putfield 7, 3)) (kk : ∀ (H1 : Heap) (locs1 : List Loc), zP D Rs ad (va_up g r (.inr (1, fs.set 0 (.int v)))) H1 → va_S A s.heap H1 locs1 → W p l e R s m args below meth c H1 locs1 cells slots Q (F0 m (pc + 3) ls rest)) : W p l e R s m args below meth c H locs cells slots Q (F0 m pc ls (.int v :: .ref a :: rest)) := by
  subst har
  exact pg_X1_7 hx hb hT hown hK hin hP hD hS hr he hl hdg kk
theorem pa_X1_13 {a : Nat} (hx : p.tables.exec = Jvm.exec) (hb : c.code = cc) (hT : ∀ w ∈ WS, w.before args s = true) (hown : s.vm.findClass RX1 = some m.cls) (hK : zK D ks s) (hin : meth.name = "<init>") (hP : zP D Rs ad g H) (hD : zD A Rs ad) (hS : va_S A s.heap H locs) {r : Nat} (hr : r ∈ Rs) (har : ad r = a) {fs : List Value} {v : Int32} (he : g r = .inr (1, fs)) (hl : 1 < fs.length) (hdg : decode cc pc = .ok (.putfield 13, 3)) (kk : ∀ (H1 : Heap) (locs1 : List Loc), zP D Rs ad (va_up g r (.inr (1, fs.set 1 (.int v)))) H1 → va_S A s.heap H1 locs1 → W p l e R s m args below meth c H1 locs1 cells slots Q (F0 m (pc + 3) ls rest)) : W p l e R s m args below meth c H locs cells slots Q (F0 m pc ls (.int v :: .ref a :: rest)) := by
  subst har
  exact pg_X1_13 hx hb hT hown hK hin hP hD hS hr he hl hdg kk
theorem pa_X1_19 {a : Nat} (hx : p.tables.exec = Jvm.exec) (hb : c.code = cc) (hT : ∀ w ∈ WS, w.before args s = true) (hown : s.vm.findClass RX1 = some m.cls) (hK : zK D ks s) (hin : meth.name = "<init>") (hP : zP D Rs ad g H) (hD : zD A Rs ad) (hS : va_S A s.heap H locs) {r : Nat} (hr : r ∈ Rs) (har : ad r = a) {fs : List Value} {v : Nat} (he : g r = .inr (1, fs)) (hl : 2 < fs.length) (hdg : decode cc pc = .ok (.putfield 19, 3)) (kk : ∀ (H1 : Heap) (locs1 : List Loc), zP D Rs ad (va_up g r (.inr (1, fs.set 2 (.ref v)))) H1 → va_S A s.heap H1 locs1 → W p l e R s m args below meth c H1 locs1 cells slots Q (F0 m (pc + 3) ls rest)) : W p l e R s m args below meth c H locs cells slots Q (F0 m pc ls (.ref v :: .ref a :: rest)) := by
  subst har
  exact pg_X1_19 hx hb hT hown hK hin hP hD hS hr he hl hdg kk
theorem pa_X2_9 {a : Nat} (hx : p.tables.exec = Jvm.exec) (hb : c.code = cc) (hT : ∀ w ∈ WS, w.before args s = true) (hown : s.vm.findClass RX2 = some m.cls) (hK : zK D ks s) (hin : meth.name = "<init>") (hP : zP D Rs ad g H) (hD : zD A Rs ad) (hS : va_S A s.heap H locs) {r : Nat} (hr : r ∈ Rs) (har : ad r = a) {fs : List Value} {v : Nat} (he : g r = .inr (2, fs)) (hl : 0 < fs.length) (hdg : decode cc pc = .ok (.putfield 9, 3)) (kk : ∀ (H1 : Heap) (locs1 : List Loc), zP D Rs ad (va_up g r (.inr (2, fs.set 0 (.ref v)))) H1 → va_S A s.heap H1 locs1 → W p l e R s m args below meth c H1 locs1 cells slots Q (F0 m (pc + 3) ls rest)) : W p l e R s m args below meth c H locs cells slots Q (F0 m pc ls (.ref v :: .ref a :: rest)) := by
  subst har
  exact pg_X2_9 hx hb hT hown hK hin hP hD hS hr he hl hdg kk
theorem pa_X2_15 {a : Nat} (hx : p.tables.exec = Jvm.exec) (hb : c.code = cc) (hT : ∀ w ∈ WS, w.before args s = true) (hown : s.vm.findClass RX2 = some m.cls) (hK : zK D ks s) (hin : meth.name = "<init>") (hP : zP D Rs ad g H) (hD : zD A Rs ad) (hS : va_S A s.heap H locs) {r : Nat} (hr : r ∈ Rs) (har : ad r = a) {fs : List Value} {v : Int32} (he : g r = .inr (2, fs)) (hl : 1 < fs.length) (hdg : decode cc pc = .ok (.putfield 15, 3)) (kk : ∀ (H1 : Heap) (locs1 : List Loc), zP D Rs ad (va_up g r (.inr (2, fs.set 1 (.int v)))) H1 → va_S A s.heap H1 locs1 → W p l e R s m args below meth c H1 locs1 cells slots Q (F0 m (pc + 3) ls rest)) : W p l e R s m args below meth c H locs cells slots Q (F0 m pc ls (.int v :: .ref a :: rest)) := by
  subst har
  exact pg_X2_15 hx hb hT hown hK hin hP hD hS hr he hl hdg kk
theorem pa_X2_19 {a : Nat} (hx : p.tables.exec = Jvm.exec) (hb : c.code = cc) (hT : ∀ w ∈ WS, w.before args s = true) (hown : s.vm.findClass RX2 = some m.cls) (hK : zK D ks s) (hin : meth.name = "<init>") (hP : zP D Rs ad g H) (hD : zD A Rs ad) (hS : va_S A s.heap H locs) {r : Nat} (hr : r ∈ Rs) (har : ad r = a) {fs : List Value} {v : Int32} (he : g r = .inr (2, fs)) (hl : 2 < fs.length) (hdg : decode cc pc = .ok (.putfield 19, 3)) (kk : ∀ (H1 : Heap) (locs1 : List Loc), zP D Rs ad (va_up g r (.inr (2, fs.set 2 (.int v)))) H1 → va_S A s.heap H1 locs1 → W p l e R s m args below meth c H1 locs1 cells slots Q (F0 m (pc + 3) ls rest)) : W p l e R s m args below meth c H locs cells slots Q (F0 m pc ls (.int v :: .ref a :: rest)) := by
  subst har
  exact pg_X2_19 hx hb hT hown hK hin hP hD hS hr he hl hdg kk
theorem pa_X2_25 {a : Nat} (hx : p.tables.exec = Jvm.exec) (hb : c.code = cc) (hT : ∀ w ∈ WS, w.before args s = true) (hown : s.vm.findClass RX2 = some m.cls) (hK : zK D ks s) (hin : meth.name = "<init>") (hP : zP D Rs ad g H) (hD : zD A Rs ad) (hS : va_S A s.heap H locs) {r : Nat} (hr : r ∈ Rs) (har : ad r = a) {fs : List Value} {v : Nat} (he : g r = .inr (2, fs)) (hl : 3 < fs.length) (hdg : decode cc pc = .ok (.putfield 25, 3)) (kk : ∀ (H1 : Heap) (locs1 : List Loc), zP D Rs ad (va_up g r (.inr (2, fs.set 3 (.ref v)))) H1 → va_S A s.heap H1 locs1 → W p l e R s m args below meth c H1 locs1 cells slots Q (F0 m (pc + 3) ls rest)) : W p l e R s m args below meth c H locs cells slots Q (F0 m pc ls (.ref v :: .ref a :: rest)) := by
  subst har
  exact pg_X2_25 hx hb hT hown hK hin hP hD hS hr he hl hdg kk
theorem pa_X2_29 {a : Nat} (hx : p.tables.exec = Jvm.exec) (hb : c.code = cc) (hT : ∀ w ∈ WS, w.before args s = true) (hown : s.vm.findClass RX2 = some m.cls) (hK : zK D ks s) (hP : zP D Rs ad g H) (hD : zD A Rs ad) (hS : va_S A s.heap H locs) {r : Nat} (hr : r ∈ Rs) (har : ad r = a) {fs : List Value} {v : Int32} (he : g r = .inr (2, fs)) (hl : 5 < fs.length) (hdg : decode cc pc = .ok (.putfield 29, 3)) (kk : ∀ (H1 : Heap) (locs1 : List Loc), zP D Rs ad (va_up g r (.inr (2, fs.set 5 (.int v)))) H1 → va_S A s.heap H1 locs1 → W p l e R s m args below meth c H1 locs1 cells slots Q (F0 m (pc + 3) ls rest)) : W p l e R s m args below meth c H locs cells slots Q (F0 m pc ls (.int v :: .ref a :: rest)) := by
  subst har
  exact pg_X2_29 hx hb hT hown hK hP hD hS hr he hl hdg kk
theorem pa_X2_34 {a : Nat} (hx : p.tables.exec = Jvm.exec) (hb : c.code = cc) (hT : ∀ w ∈ WS, w.before args s = true) (hown : s.vm.findClass RX2 = some m.cls) (hK : zK D ks s) (hP : zP D Rs ad g H) (hD : zD A Rs ad) (hS : va_S A s.heap H locs) {r : Nat} (hr : r ∈ Rs) (har : ad r = a) {fs : List Value} {v : Int64} (he : g r = .inr (2, fs)) (hl : 6 < fs.length) (hdg : decode cc pc = .ok (.putfield 34, 3)) (kk : ∀ (H1 : Heap) (locs1 : List Loc), zP D Rs ad (va_up g r (.inr (2, fs.set 6 (.long v)))) H1 → va_S A s.heap H1 locs1 → W p l e R s m args below meth c H1 locs1 cells slots Q (F0 m (pc + 3) ls rest)) : W p l e R s m args below meth c H locs cells slots Q (F0 m pc ls (.long v :: .ref a :: rest)) := by
  subst har
  exact pg_X2_34 hx hb hT hown hK hP hD hS hr he hl hdg kk
theorem pa_gast {a b : Nat} (hx : p.tables.exec = Jvm.exec) (hb : c.code = cc) (hK : zK D ks s) (hP : zP D Rs ad g H) (hD : zD A Rs ad) (hS : va_S A s.heap H locs) {r q : Nat} (hr : r ∈ Rs) (har : ad r = a) {f : Nat → Option Nat} (he : g r = .inl (ks 2, 30, .inr (.inr (.inr (.inr f))))) (hq : q ∈ Rs) (hbq : ad q = b) {vs : List Value} (hv : g q = .inr (1, vs)) {j : Nat} (hj : j < 30) (hdg : decode cc pc = .ok (.aastore, 1))
    (kk : ∀ (H1 : Heap) (locs1 : List Loc), zP D Rs ad (va_up g r (.inl (ks 2, 30, .inr (.inr (.inr (.inr (va_up f j (some b)))))))) H1 → va_S A s.heap H1 locs1 → W p l e R s m args below meth c H1 locs1 cells slots Q (F0 m (pc + 1) ls rest)) : W p l e R s m args below meth c H locs cells slots Q (F0 m pc ls (.ref b :: .int (nI j) :: .ref a :: rest)) := by
  subst har; subst hbq
  exact z_gast hx hb hK hP hD hS hr he hq hv (vp_in_nI hj (by decide)) hdg (by rw [nI_clamp (by omega)]; exact kk)
theorem pa_past {a b : Nat} (hx : p.tables.exec = Jvm.exec) (hb : c.code = cc) (hK : zK D ks s) (hP : zP D Rs ad g H) (hD : zD A Rs ad) (hS : va_S A s.heap H locs) {r q : Nat} (hr : r ∈ Rs) (har : ad r = a) {f : Nat → Option Nat} (he : g r = .inl (ks 3, 30, .inr (.inr (.inr (.inr f))))) (hq : q ∈ Rs) (hbq : ad q = b) {vs : List Value} (hv : g q = .inr (2, vs)) {j : Nat} (hj : j < 30) (hdg : decode cc pc = .ok (.aastore, 1))
    (kk : ∀ (H1 : Heap) (locs1 : List Loc), zP D Rs ad (va_up g r (.inl (ks 3, 30, .inr (.inr (.inr (.inr (va_up f j (some b)))))))) H1 → va_S A s.heap H1 locs1 → W p l e R s m args below meth c H1 locs1 cells slots Q (F0 m (pc + 1) ls rest)) : W p l e R s m args below meth c H locs cells slots Q (F0 m pc ls (.ref b :: .int (nI j) :: .ref a :: rest)) := by
  subst har; subst hbq
  exact z_past hx hb hK hP hD hS hr he hq hv (vp_in_nI hj (by decide)) hdg (by rw [nI_clamp (by omega)]; exact kk)
end
set_option maxHeartbeats 4000000 in
set_option maxRecDepth 100000 in
theorem c_X0_init (l : Launch) (a : Nat) : zMR l yX0_init cX0_init 1 none 1 12 D ks [.ref a] (fun _ => True) none := by
  refine zMR.of (by decide +kernel) (Nat.le_of_ble_eq_true rfl) ?_
  intro p e s m below meth c ls hx hb hr hml hown hlk hT hP hK hl
  have hl : lv_has ls 1 [(0, .ref a)] := hl
  refine lv_aload_n hx hb dX0_init_0 rfl (lv_at hl 0 rfl) ?_
  refine z_obj hx hb hT hown ml_X0_1 hml hl.1 dX0_init_1 (Nat.le_of_ble_eq_true rfl) (Nat.le_of_ble_eq_true rfl) ?_
  exact zR_v hx hb hr hlk dX0_init_4
set_option maxHeartbeats 4000000 in
set_option maxRecDepth 100000 in
theorem c_X1_init (l : Launch) (hD0 : zD (fun _ => True) Rs ad) {g : Nat → va_E} (r rN : Nat) (hr1 : r ∈ Rs) (hrN : rN ∉ Rs) (he : g r = .inr (1, [.int 0, .int 0, .null, .long 0])) (b t : Int32) (sz : Nat) :
    Met l yX1_init (Cond.code yX1_init cX1_init 3 none :: WS) (zRm 2 32 1 1) (zPW D ks sz [.ref (ad r), .int b, .int t] (zP D Rs ad g)) (zQW none (fun H => ∃ qf : Nat, sz ≤ qf ∧ zP D (rN :: Rs) (va_up ad rN qf) (va_up (va_up g r (.inr (1, [.int b, .int t, .ref qf, .long 0]))) rN (.inr (0, [.long 0]))) H ∧ zD (zA Rs ad sz) (rN :: Rs) (va_up ad rN qf)) (zA Rs ad sz)) 1 1 (zA Rs ad sz) := by
  refine Met.ofW (cc := cX1_init) (maxL := 3) (ret := none) (by decide +kernel) rfl ?_
  intro p e s m args below meth c s₁ B hml hv
  obtain ⟨rfl, hsz, hP, hK⟩ := hv
  rw [lg_entry_eq]
  have hx := B.exec
  have hb := B.bytes
  have hr := B.returns
  have hown : s.vm.findClass RX1 = some m.cls := findClass_of_methodNamed B.named
  have hlk := B.notSynchronized
  have hin : meth.name = "<init>" := (name_of_methodNamed B.named B.method).1
  have hT : ∀ w ∈ WS, w.before #[.ref (ad r), .int b, .int t] s = true := fun w hw => atoms_spec (ws := Cond.code yX1_init cX1_init 3 none :: WS) B.pre w (List.mem_cons_of_mem _ hw)
  have hl := lv_entry [.ref (ad r), .int b, .int t] (n := 3) (Nat.le_of_ble_eq_true rfl)
  generalize (lg_sl ([.ref (ad r), .int b, .int t]) ++ List.replicate (3 - (lg_sl ([.ref (ad r), .int b, .int t])).length) Slot.unset).toArray = ls at hl ⊢
  have hl : lv_has ls 3 [(0, .ref (ad r)), (1, .int b), (2, .int t)] := hl
  subst hsz
  have hD := hD0.self (sz := s.heap.size)
  have hA : ∀ q : Nat, s.heap.size ≤ q → zA Rs ad s.heap.size q := fun q h => Or.inr h
  have hS : va_S (zA Rs ad s.heap.size) s.heap s.heap [] := va_S.rf
  refine lv_aload_n hx hb dX1_init_0 rfl (lv_at hl 0 rfl) ?_
  refine z_obj hx hb hT hown ml_X1_1 hml hl.1 dX1_init_1 (Nat.le_of_ble_eq_true rfl) (Nat.le_of_ble_eq_true rfl) ?_
  refine lv_aload_n hx hb dX1_init_4 rfl (lv_at hl 0 rfl) ?_
  refine lv_iload_n hx hb dX1_init_5 rfl (lv_at hl 1 rfl) ?_
  refine pa_X1_7 hx hb hT hown hK hin hP hD hS hr1 rfl he (Nat.le_of_ble_eq_true rfl) dX1_init_6 (fun H locs hP hS => ?_)
  refine lv_aload_n hx hb dX1_init_9 rfl (lv_at hl 0 rfl) ?_
  refine lv_iload_n hx hb dX1_init_10 rfl (lv_at hl 2 rfl) ?_
  refine pa_X1_13 hx hb hT hown hK hin hP hD hS hr1 rfl (va_up_self _ _ _) (Nat.le_of_ble_eq_true rfl) dX1_init_11 (fun H locs hP hS => ?_)
  rw [bx_uu] at hP
  refine lv_aload_n hx hb dX1_init_14 rfl (lv_at hl 0 rfl) ?_
  refine z_new (ci := 0) (fs := [.long 0]) (r := rN) hx hb hT hown hK ly_X0 tyX0 tyX0_ok cl_X1_16 mk_X0 in_X0 hP hD hS hA rfl (fun j hj => by rcases (show j = 0 by omega) with rfl; rfl) hrN (Nat.le_of_ble_eq_true rfl) (Nat.le_of_ble_eq_true rfl) dX1_init_15 (fun qf H hP hD hqf hS => ?_)
  refine lv_dup hx hb dX1_init_18 rfl ?_
  refine z_backR0 (z_runIN ⟨hx, hb, hml, hown, hT⟩ hK (rest := [.ref qf, .ref (ad r)]) (As := []) (c_X0_init l qf) k_X1_18 (z_preR hK trivial) rfl ⟨Nat.le_of_ble_eq_true rfl, Nat.le_of_ble_eq_true rfl⟩ hl.1 rfl (Nat.le_of_ble_eq_true rfl) dX1_init_19 ⟨Nat.le_of_ble_eq_true rfl, Nat.le_of_ble_eq_true rfl⟩) ?_
  have hne : r ≠ rN := fun h => hrN (h ▸ hr1)
  refine pa_X1_19 hx hb hT hown hK hin hP hD hS (List.mem_cons_of_mem _ hr1) (va_up_ne _ _ hne) ((va_up_ne _ _ hne).trans (va_up_self _ _ _)) (Nat.le_of_ble_eq_true rfl) dX1_init_22 (fun H locs hP hS => ?_)
  refine zW_v hx hb hr hlk hS (Nat.le_of_ble_eq_true rfl) (Nat.le_of_ble_eq_true rfl) dX1_init_25 ⟨qf, hqf, hP.cast (fun x hx => ?_), hD⟩
  by_cases h1 : x = rN
  · subst h1
    rw [va_up_self, va_up_ne _ _ (Ne.symm hne), va_up_self]
  · by_cases h2 : x = r
    · subst h2
      rw [va_up_ne _ _ h1, va_up_self, va_up_self]; rfl
    · rw [va_up_ne _ _ h1, va_up_ne _ _ h2, va_up_ne _ _ h2, va_up_ne _ _ h1, va_up_ne _ _ h2]
set_option maxHeartbeats 4000000 in
set_option maxRecDepth 100000 in
theorem c_X2_init (l : Launch) (hD0 : zD (fun _ => True) Rs ad) {g : Nat → va_E} (r rN a : Nat) (hr1 : r ∈ Rs) (har : ad r = a) (hrN : rN ∉ Rs) (he : g r = .inr (2, [.null, .int 0, .int 0, .null, .long 0, .int 0, .long 0])) (gq : Nat) (pr su : Int32) (sz : Nat) :
    Met l yX2_init (Cond.code yX2_init cX2_init 4 none :: WS) (zRm 2 32 1 1) (zPW D ks sz [.ref a, .ref gq, .int pr, .int su] (zP D Rs ad g)) (zQW none (fun H => ∃ qf : Nat, sz ≤ qf ∧ zP D (rN :: Rs) (va_up ad rN qf) (va_up (va_up g r (.inr (2, [.ref gq, .int pr, .int su, .ref qf, .long 0, .int 0, .long (-1)]))) rN (.inr (0, [.long 0]))) H ∧ zD (zA Rs ad sz) (rN :: Rs) (va_up ad rN qf)) (zA Rs ad sz)) 1 1 (zA Rs ad sz) := by
  subst har
  refine Met.ofW (cc := cX2_init) (maxL := 4) (ret := none) (by decide +kernel) rfl ?_
  intro p e s m args below meth c s₁ B hml hv
  obtain ⟨rfl, hsz, hP, hK⟩ := hv
  rw [lg_entry_eq]
  have hx := B.exec
  have hb := B.bytes
  have hr := B.returns
  have hown : s.vm.findClass RX2 = some m.cls := findClass_of_methodNamed B.named
  have hlk := B.notSynchronized
  have hin : meth.name = "<init>" := (name_of_methodNamed B.named B.method).1
  have hT : ∀ w ∈ WS, w.before #[.ref (ad r), .ref gq, .int pr, .int su] s = true := fun w hw => atoms_spec (ws := Cond.code yX2_init cX2_init 4 none :: WS) B.pre w (List.mem_cons_of_mem _ hw)
  have hl := lv_entry [.ref (ad r), .ref gq, .int pr, .int su] (n := 4) (Nat.le_of_ble_eq_true rfl)
  generalize (lg_sl ([.ref (ad r), .ref gq, .int pr, .int su]) ++ List.replicate (4 - (lg_sl ([.ref (ad r), .ref gq, .int pr, .int su])).length) Slot.unset).toArray = ls at hl ⊢
  have hl : lv_has ls 4 [(0, .ref (ad r)), (1, .ref gq), (2, .int pr), (3, .int su)] := hl
  subst hsz
  have hD := hD0.self (sz := s.heap.size)
  have hA : ∀ q : Nat, s.heap.size ≤ q → zA Rs ad s.heap.size q := fun q h => Or.inr h
  have hS : va_S (zA Rs ad s.heap.size) s.heap s.heap [] := va_S.rf
  refine lv_aload_n hx hb dX2_init_0 rfl (lv_at hl 0 rfl) ?_
  refine z_obj hx hb hT hown ml_X2_3 hml hl.1 dX2_init_1 (Nat.le_of_ble_eq_true rfl) (Nat.le_of_ble_eq_true rfl) ?_
  refine lv_aload_n hx hb dX2_init_4 rfl (lv_at hl 0 rfl) ?_
  refine lv_aload_n hx hb dX2_init_5 rfl (lv_at hl 1 rfl) ?_
  refine pa_X2_9 hx hb hT hown hK hin hP hD hS hr1 rfl he (Nat.le_of_ble_eq_true rfl) dX2_init_6 (fun H locs hP hS => ?_)
  refine lv_aload_n hx hb dX2_init_9 rfl (lv_at hl 0 rfl) ?_
  refine lv_iload_n hx hb dX2_init_10 rfl (lv_at hl 2 rfl) ?_
  refine pa_X2_15 hx hb hT hown hK hin hP hD hS hr1 rfl (va_up_self _ _ _) (Nat.le_of_ble_eq_true rfl) dX2_init_11 (fun H locs hP hS => ?_)
  rw [bx_uu] at hP
  refine lv_aload_n hx hb dX2_init_14 rfl (lv_at hl 0 rfl) ?_
  refine lv_iload_n hx hb dX2_init_15 rfl (lv_at hl 3 rfl) ?_
  refine pa_X2_19 hx hb hT hown hK hin hP hD hS hr1 rfl (va_up_self _ _ _) (Nat.le_of_ble_eq_true rfl) dX2_init_16 (fun H locs hP hS => ?_)
  rw [bx_uu] at hP
  refine lv_aload_n hx hb dX2_init_19 rfl (lv_at hl 0 rfl) ?_
  refine z_new (ci := 0) (fs := [.long 0]) (r := rN) hx hb hT hown hK ly_X0 tyX0 tyX0_ok cl_X2_22 mk_X0 in_X0 hP hD hS hA rfl (fun j hj => by rcases (show j = 0 by omega) with rfl; rfl) hrN (Nat.le_of_ble_eq_true rfl) (Nat.le_of_ble_eq_true rfl) dX2_init_20 (fun qf H hP hD hqf hS => ?_)
  refine lv_dup hx hb dX2_init_23 rfl ?_
  refine z_backR0 (z_runIN ⟨hx, hb, hml, hown, hT⟩ hK (rest := [.ref qf, .ref (ad r)]) (As := []) (c_X0_init l qf) k_X2_24 (z_preR hK trivial) rfl ⟨Nat.le_of_ble_eq_true rfl, Nat.le_of_ble_eq_true rfl⟩ hl.1 rfl (Nat.le_of_ble_eq_true rfl) dX2_init_24 ⟨Nat.le_of_ble_eq_true rfl, Nat.le_of_ble_eq_true rfl⟩) ?_
  have hne : r ≠ rN := fun h => hrN (h ▸ hr1)
  refine pa_X2_25 hx hb hT hown hK hin hP hD hS (List.mem_cons_of_mem _ hr1) (va_up_ne _ _ hne) ((va_up_ne _ _ hne).trans (va_up_self _ _ _)) (Nat.le_of_ble_eq_true rfl) dX2_init_27 (fun H locs hP hS => ?_)
  refine lv_aload_n hx hb dX2_init_30 rfl (lv_at hl 0 rfl) ?_
  refine lv_iconst (v := 0) hx hb dX2_init_31 (by decide) ?_
  refine pa_X2_29 hx hb hT hown hK hP hD hS (List.mem_cons_of_mem _ hr1) (va_up_ne _ _ hne) (va_up_self _ _ _) (Nat.le_of_ble_eq_true rfl) dX2_init_32 (fun H locs hP hS => ?_)
  rw [bx_uu] at hP
  refine lv_aload_n hx hb dX2_init_35 rfl (lv_at hl 0 rfl) ?_
  refine lv_ldc2 (v := (-1)) hx hb hown (hT _ kl_X2_32) dX2_init_36 ?_
  refine pa_X2_34 hx hb hT hown hK hP hD hS (List.mem_cons_of_mem _ hr1) (va_up_ne _ _ hne) (va_up_self _ _ _) (Nat.le_of_ble_eq_true rfl) dX2_init_39 (fun H locs hP hS => ?_)
  rw [bx_uu] at hP
  refine zW_v hx hb hr hlk hS (Nat.le_of_ble_eq_true rfl) (Nat.le_of_ble_eq_true rfl) dX2_init_42 ⟨qf, hqf, hP.cast (fun x hx => ?_), hD⟩
  by_cases h1 : x = rN
  · subst h1
    rw [va_up_self, va_up_ne _ _ (Ne.symm hne), va_up_self]
  · by_cases h2 : x = r
    · subst h2
      rw [va_up_ne _ _ h1, va_up_self, va_up_self]; rfl
    · rw [va_up_ne _ _ h1, va_up_ne _ _ h2, va_up_ne _ _ h2, va_up_ne _ _ h1, va_up_ne _ _ h2]
end ZB1
end
section
/-! a policy begins -/
section ZB2
variable {D : va_G} {ks : Nat → ClassId} {ad : Nat → Nat} {np ng : Nat} {G : Nat → Nat} {MI : Nat → Nat → Int32} {MJ : Nat → Nat → Int64} {XI : Nat → Nat → Int32} {XJ : Nat → Nat → Int64} {Rs : List Nat}
theorem zA_cons_le {sz sz2 : Nat} (h : sz ≤ sz2) : ∀ x, zA Rs ad sz2 x → zA Rs ad sz x := by
  rintro x (h1 | h1)
  · exact Or.inl h1
  · exact Or.inr (Nat.le_trans h h1)
set_option maxHeartbeats 4000000 in
set_option maxRecDepth 100000 in
theorem c_X3_joinGeneration_old (l : Launch) (r2 : Nat) (hD0 : zD (fun _ => True) (r2 :: Rs) ad) (hI : zIn Rs np ng) {g : Nat → va_E} (hgS : ∀ r ∈ Rs, g r = gS ks ad np ng G MI MJ XI XJ r) (hG30 : ng ≤ 30) (te pr : Int32) (i : Nat) (hi : i < ng) (hf : xF (XI 11) (XI 12) (XI 10 2) te ng 0 = some i) (sz : Nat) :
    Met l yX3_joinGeneration (Cond.code yX3_joinGeneration cX3_joinGeneration 4 (some (.object "ProfitsOffice$Generation")) :: WS) (zRm 3 60 0 0) (zPW D ks sz [.ref (ad 13), .int te, .int pr] (zP D (r2 :: Rs) ad g)) (zQA (fun q H => q = ad (20 + 4 * i) ∧ zP D (r2 :: Rs) ad (va_up g (20 + 4 * i) (.inr (1, [.int (XI 11 i), .int (XI 12 i), .ref (ad (21 + 4 * i)), .long (XJ 7 i + Int32.toInt64 pr)]))) H) (zA (r2 :: Rs) ad sz)) 0 0 (zA (r2 :: Rs) ad sz) := by
  refine zMA.of (by decide +kernel) (Nat.le_of_ble_eq_true rfl) ?_
  intro p e s m below meth c ls hx hb hr hml hown hlk hT hsz hP hK hl
  have hl : lv_has ls 4 [(0, .ref (ad 13)), (1, .int te), (2, .int pr)] := hl
  subst hsz
  have hD := hD0.self (sz := s.heap.size)
  have hA : ∀ q : Nat, s.heap.size ≤ q → zA (r2 :: Rs) ad s.heap.size q := fun q h => Or.inr h
  have hS : va_S (zA (r2 :: Rs) ad s.heap.size) s.heap s.heap [] := va_S.rf
  have m13 : 13 ∈ r2 :: Rs := List.mem_cons_of_mem _ (hI.1 13 (by decide))
  have mi : 20 + 4 * i ∈ r2 :: Rs := List.mem_cons_of_mem _ (hI.2.1 i hi).1
  have hgi : g (20 + 4 * i) = gHi ad G XI XJ 0 i := (hgS _ (hI.2.1 i hi).1).trans gS_0
  refine lv_aload_n hx hb dX3_joinGeneration_0 rfl (lv_at hl 0 rfl) ?_
  refine lv_aload_n hx hb dX3_joinGeneration_1 rfl (lv_at hl 0 rfl) ?_
  refine gf_X3_110 hx hb hT hown hK (hP.at m13 (hgS 13 (hI.1 13 (by decide)))) rfl dX3_joinGeneration_2 ?_
  refine lv_iload_n hx hb dX3_joinGeneration_5 rfl (lv_at hl 1 rfl) ?_
  have hP0 : zP D Rs ad (gS ks ad np ng G MI MJ XI XJ) s.heap := fun x hx => by rw [← hgS x hx]; exact hP x (List.mem_cons_of_mem _ hx)
  refine z_backR1 (z_runV ⟨hx, hb, hml, hown, hT⟩ (rest := []) (As := [.int (XI 10 2), .int te]) (c_X3_findGeneration l hI (XI 10 2) te hG30) k_X3_158 (z_preRV hK hP0 (hP.at m13 (hgS 13 (hI.1 13 (by decide)))) rfl) rfl ⟨Nat.le_of_ble_eq_true rfl, Nat.le_of_ble_eq_true rfl⟩ hl.1 rfl (Nat.le_of_ble_eq_true rfl) dX3_joinGeneration_6 ⟨Nat.le_of_ble_eq_true rfl, Nat.le_of_ble_eq_true rfl⟩) ?_
  rw [hf]
  show W _ _ _ _ _ _ _ _ _ _ _ _ _ _ _ (F0 m 9 ls [.ref (ad (20 + 4 * i))])
  refine lv_astore_n (lv' := [(3, .ref (ad (20 + 4 * i))), (0, .ref (ad 13)), (1, .int te), (2, .int pr)]) hx hb dX3_joinGeneration_9 rfl hl (by decide) rfl (fun ls hl => ?_)
  refine lv_aload_n hx hb dX3_joinGeneration_10 rfl (lv_at hl 0 rfl) ?_
  refine lv_ifnonnull (tgt := 66) hx hb dX3_joinGeneration_11 (by decide) ?_
  refine lv_aload_n hx hb dX3_joinGeneration_66 rfl (lv_at hl 0 rfl) ?_
  refine lv_dup hx hb dX3_joinGeneration_67 rfl ?_
  refine gf_X3_208 hx hb hT hown hK (hP.at mi hgi) rfl dX3_joinGeneration_68 ?_
  refine lv_iload_n hx hb dX3_joinGeneration_71 rfl (lv_at hl 3 rfl) ?_
  refine lv_i2l hx hb dX3_joinGeneration_72 rfl ?_
  refine lv_ladd hx hb dX3_joinGeneration_73 ?_
  refine pa_X3_208 hx hb hT hown hK hP hD hS mi rfl hgi (Nat.le_of_ble_eq_true rfl) dX3_joinGeneration_74 (fun H locs hP hS => ?_)
  refine lv_aload_n hx hb dX3_joinGeneration_77 rfl (lv_at hl 0 rfl) ?_
  exact zA_a hx hb hr hlk hS (Nat.le_of_ble_eq_true rfl) (Nat.le_of_ble_eq_true rfl) dX3_joinGeneration_78 ⟨rfl, hP⟩
/-- what a joined generation makes of the world -/
def jG (ks : Nat → ClassId) (ad : Nat → Nat) (ng : Nat) (XI : Nat → Nat → Int32) (XJ : Nat → Nat → Int64) (te pr : Int32) (q qf : Nat) (g : Nat → va_E) : Nat → va_E :=
  va_up (va_up (va_up (va_up g (20 + 4 * ng) (.inr (1, [.int (XI 10 2), .int te, .ref qf, .long (0 + Int32.toInt64 pr)]))) (21 + 4 * ng) (.inr (0, [.long 0]))) 15 (.inl (ks 2, 30, .inr (.inr (.inr (.inr (va_up (rGen ad ng) ng (some q)))))))) 13 (.inr (3, [.ref (ad 14), .ref (ad 15), .ref (ad 16), .ref (ad 17), .int (XI 10 0), .int (nI (ng + 1)), .int (XI 10 2), .int (XI 10 3), .int (XI 10 4), .int (XI 10 5), .int (XI 10 6), .int (XI 10 7), .long (XJ 4 0), .long (XJ 4 1)]))
set_option maxHeartbeats 4000000 in
set_option maxRecDepth 100000 in
theorem c_X3_joinGeneration_new (l : Launch) (r2 : Nat) (hD0 : zD (fun _ => True) (r2 :: Rs) ad) (hI : zIn Rs np ng) {g : Nat → va_E} (hgS : ∀ r ∈ Rs, g r = gS ks ad np ng G MI MJ XI XJ r) (hG30 : ng ≤ 30) (te pr : Int32) (hg30 : ng < 30) (hcnt : XI 10 1 = nI ng) (hn0 : 20 + 4 * ng ∉ r2 :: Rs) (hn1 : 21 + 4 * ng ∉ r2 :: Rs) (hf : xF (XI 11) (XI 12) (XI 10 2) te ng 0 = none) (sz : Nat) :
    Met l yX3_joinGeneration (Cond.code yX3_joinGeneration cX3_joinGeneration 4 (some (.object "ProfitsOffice$Generation")) :: WS) (zRm 3 60 2 5) (zPW D ks sz [.ref (ad 13), .int te, .int pr] (zP D (r2 :: Rs) ad g)) (zQA (fun q H => sz ≤ q ∧ ∃ qf : Nat, sz ≤ qf ∧ zP D ((21 + 4 * ng) :: (20 + 4 * ng) :: r2 :: Rs) (va_up (va_up ad (20 + 4 * ng) q) (21 + 4 * ng) qf) (jG ks ad ng XI XJ te pr q qf g) H ∧ zD (zA (r2 :: Rs) ad sz) ((21 + 4 * ng) :: (20 + 4 * ng) :: r2 :: Rs) (va_up (va_up ad (20 + 4 * ng) q) (21 + 4 * ng) qf)) (zA (r2 :: Rs) ad sz)) 2 5 (zA (r2 :: Rs) ad sz) := by
  refine zMA.of (by decide +kernel) (Nat.le_of_ble_eq_true rfl) ?_
  intro p e s m below meth c ls hx hb hr hml hown hlk hT hsz hP hK hl
  have hl : lv_has ls 4 [(0, .ref (ad 13)), (1, .int te), (2, .int pr)] := hl
  subst hsz
  have hD := hD0.self (sz := s.heap.size)
  have hA : ∀ q : Nat, s.heap.size ≤ q → zA (r2 :: Rs) ad s.heap.size q := fun q h => Or.inr h
  have hS : va_S (zA (r2 :: Rs) ad s.heap.size) s.heap s.heap [] := va_S.rf
  have m13 : 13 ∈ r2 :: Rs := List.mem_cons_of_mem _ (hI.1 13 (by decide))
  refine lv_aload_n hx hb dX3_joinGeneration_0 rfl (lv_at hl 0 rfl) ?_
  refine lv_aload_n hx hb dX3_joinGeneration_1 rfl (lv_at hl 0 rfl) ?_
  refine gf_X3_110 hx hb hT hown hK (hP.at m13 (hgS 13 (hI.1 13 (by decide)))) rfl dX3_joinGeneration_2 ?_
  refine lv_iload_n hx hb dX3_joinGeneration_5 rfl (lv_at hl 1 rfl) ?_
  have hP0 : zP D Rs ad (gS ks ad np ng G MI MJ XI XJ) s.heap := fun x hx => by rw [← hgS x hx]; exact hP x (List.mem_cons_of_mem _ hx)
  refine z_backR1 (z_runV ⟨hx, hb, hml, hown, hT⟩ (rest := []) (As := [.int (XI 10 2), .int te]) (c_X3_findGeneration l hI (XI 10 2) te hG30) k_X3_158 (z_preRV hK hP0 (hP.at m13 (hgS 13 (hI.1 13 (by decide)))) rfl) rfl ⟨Nat.le_of_ble_eq_true rfl, Nat.le_of_ble_eq_true rfl⟩ hl.1 rfl (Nat.le_of_ble_eq_true rfl) dX3_joinGeneration_6 ⟨Nat.le_of_ble_eq_true rfl, Nat.le_of_ble_eq_true rfl⟩) ?_
  rw [hf]
  show W _ _ _ _ _ _ _ _ _ _ _ _ _ _ _ (F0 m 9 ls [.null])
  refine lv_astore_nN (lv' := [(3, .null), (0, .ref (ad 13)), (1, .int te), (2, .int pr)]) hx hb dX3_joinGeneration_9 rfl hl (by decide) rfl (fun ls hl => ?_)
  refine lv_aload_nN hx hb dX3_joinGeneration_10 rfl (lv_at hl 0 rfl) ?_
  refine lv_ifnonnullN hx hb dX3_joinGeneration_11 ?_
  refine z_new (ci := 1) (fs := [.int 0, .int 0, .null, .long 0]) (r := 20 + 4 * ng) hx hb hT hown hK ly_X1 tyX1 tyX1_ok cl_X3_15 mk_X1 in_X1 hP hD hS hA rfl (fun j hj => by rcases (show j = 0 ∨ j = 1 ∨ j = 2 ∨ j = 3 by omega) with rfl | rfl | rfl | rfl <;> rfl) hn0 (Nat.le_of_ble_eq_true rfl) (Nat.le_of_ble_eq_true rfl) dX3_joinGeneration_14 (fun q H hP1 hD1 hq hS => ?_)
  have hzH : s.heap.size ≤ H.size := hS.1
  have hr13 : (13 : Nat) ≠ 20 + 4 * ng := by omega
  have hr15 : (15 : Nat) ≠ 20 + 4 * ng := by omega
  have hf13 : (13 : Nat) ≠ 21 + 4 * ng := by omega
  have hf15 : (15 : Nat) ≠ 21 + 4 * ng := by omega
  have hff : 20 + 4 * ng ≠ 21 + 4 * ng := by omega
  have m15 : 15 ∈ r2 :: Rs := List.mem_cons_of_mem _ (hI.1 15 (by decide))
  refine lv_dup hx hb dX3_joinGeneration_17 rfl ?_
  refine lv_aload_n hx hb dX3_joinGeneration_18 rfl (lv_at hl 1 rfl) ?_
  have hat13 : va_at D vwCl (ad 13, gS ks ad np ng G MI MJ XI XJ 13) H := by
    have h1 := hP1.at (List.mem_cons_of_mem _ m13) ((va_up_ne _ _ hr13).trans (hgS 13 (hI.1 13 (by decide))))
    rw [va_up_ne _ _ hr13] at h1
    exact h1
  refine gf_X3_110 hx hb hT hown hK hat13 rfl dX3_joinGeneration_19 ?_
  refine lv_iload_n hx hb dX3_joinGeneration_22 rfl (lv_at hl 2 rfl) ?_
  have hDT : zD (fun _ => True) ((20 + 4 * ng) :: r2 :: Rs) (va_up ad (20 + 4 * ng) q) := hD1.weak (fun _ _ => trivial)
  have hn1' : 21 + 4 * ng ∉ (20 + 4 * ng) :: r2 :: Rs := fun h => (List.mem_cons.mp h).elim (fun e => hff e.symm) hn1
  have hqe : va_up ad (20 + 4 * ng) q (20 + 4 * ng) = q := va_up_self _ _ _
  have hM := c_X1_init (D := D) (ks := ks) (g := va_up g (20 + 4 * ng) (.inr (1, [.int 0, .int 0, .null, .long 0]))) l hDT (20 + 4 * ng) (21 + 4 * ng) List.mem_cons_self hn1' (va_up_self _ _ _) (XI 10 2) te H.size
  rw [hqe] at hM
  refine z_backW0 (z_runIN ⟨hx, hb, hml, hown, hT⟩ hK (rest := [.ref q]) (As := [.int (XI 10 2), .int te]) hM k_X3_202 (z_preW hK hP1) rfl ⟨Nat.le_of_ble_eq_true rfl, Nat.le_of_ble_eq_true rfl⟩ hl.1 rfl (Nat.le_of_ble_eq_true rfl) dX3_joinGeneration_23 ⟨Nat.le_of_ble_eq_true rfl, Nat.le_of_ble_eq_true rfl⟩) hS (fun x hx => zA_cons (Nat.le_refl _) hq x (zA_cons_le hS.1 x hx)) (fun H1 locs1 hB hz1 hk1 hS => ?_)
  obtain ⟨qf, hqf, hP2, hD2⟩ := hB
  have hqf0 : s.heap.size ≤ qf := Nat.le_trans hzH hqf
  have hDA : zD (zA (r2 :: Rs) ad s.heap.size) ((21 + 4 * ng) :: (20 + 4 * ng) :: r2 :: Rs) (va_up (va_up ad (20 + 4 * ng) q) (21 + 4 * ng) qf) := hD2.weak (fun x hx => zA_cons (Nat.le_refl _) hq x (zA_cons_le hzH x hx))
  obtain ⟨ad2, had2⟩ : ∃ z, z = va_up (va_up ad (20 + 4 * ng) q) (21 + 4 * ng) qf := ⟨_, rfl⟩
  rw [← had2] at hP2 hDA
  have a13 : ad2 13 = ad 13 := by rw [had2, va_up_ne _ _ hf13, va_up_ne _ _ hr13]
  have a15 : ad2 15 = ad 15 := by rw [had2, va_up_ne _ _ hf15, va_up_ne _ _ hr15]
  have aq : ad2 (20 + 4 * ng) = q := by rw [had2, va_up_ne _ _ hff, va_up_self]
  obtain ⟨g2, hg2⟩ : ∃ z, z = va_up (va_up (va_up g (20 + 4 * ng) (.inr (1, [.int 0, .int 0, .null, .long 0]))) (20 + 4 * ng) (.inr (1, [.int (XI 10 2), .int te, .ref qf, .long 0]))) (21 + 4 * ng) (.inr (0, [.long 0])) := ⟨_, rfl⟩
  rw [← hg2] at hP2
  have g13 : g2 13 = gS ks ad np ng G MI MJ XI XJ 13 := by rw [hg2, va_up_ne _ _ hf13, va_up_ne _ _ hr13, va_up_ne _ _ hr13]; exact hgS 13 (hI.1 13 (by decide))
  have g15 : g2 15 = gS ks ad np ng G MI MJ XI XJ 15 := by rw [hg2, va_up_ne _ _ hf15, va_up_ne _ _ hr15, va_up_ne _ _ hr15]; exact hgS 15 (hI.1 15 (by decide))
  have gq : g2 (20 + 4 * ng) = .inr (1, [.int (XI 10 2), .int te, .ref qf, .long 0]) := by rw [hg2, va_up_ne _ _ hff, va_up_self]
  have n13 : 13 ∈ (21 + 4 * ng) :: (20 + 4 * ng) :: r2 :: Rs := List.mem_cons_of_mem _ (List.mem_cons_of_mem _ m13)
  have n15 : 15 ∈ (21 + 4 * ng) :: (20 + 4 * ng) :: r2 :: Rs := List.mem_cons_of_mem _ (List.mem_cons_of_mem _ m15)
  have nq : 20 + 4 * ng ∈ (21 + 4 * ng) :: (20 + 4 * ng) :: r2 :: Rs := List.mem_cons_of_mem _ List.mem_cons_self
  have t13 : va_at D vwCl (ad 13, gS ks ad np ng G MI MJ XI XJ 13) H1 := by have h1 := hP2.at n13 g13; rw [a13] at h1; exact h1
  have t15 : va_at D vwCl (ad 15, gS ks ad np ng G MI MJ XI XJ 15) H1 := by have h1 := hP2.at n15 g15; rw [a15] at h1; exact h1
  refine lv_astore_n (lv' := [(3, .ref q), (0, .ref (ad 13)), (1, .int te), (2, .int pr)]) hx hb dX3_joinGeneration_26 rfl hl (by decide) rfl (fun ls hl => ?_)
  refine lv_aload_n hx hb dX3_joinGeneration_27 rfl (lv_at hl 1 rfl) ?_
  refine gf_X3_205 hx hb hT hown hK t13 rfl dX3_joinGeneration_28 ?_
  rw [show XI 10 1 = nI ng from hcnt]
  refine lv_if_lt (tgt := 66) hx hb dX3_joinGeneration_31 (by decide) (fun c_1 => absurd c_1 (nI_pos (by omega))) (fun c_1 => ?_)
  refine lv_aload_n hx hb dX3_joinGeneration_34 rfl (lv_at hl 1 rfl) ?_
  refine gf_X3_205 hx hb hT hown hK t13 rfl dX3_joinGeneration_35 ?_
  rw [show XI 10 1 = nI ng from hcnt]
  refine lv_aload_n hx hb dX3_joinGeneration_38 rfl (lv_at hl 1 rfl) ?_
  refine gf_X3_17 hx hb hT hown hK t13 rfl dX3_joinGeneration_39 ?_
  refine z_glen hx hb hK t15 (v := 30) rfl dX3_joinGeneration_42 ?_
  refine lv_icmp_ge (tgt := 66) hx hb dX3_joinGeneration_43 (by decide) (fun c_2 => absurd c_2 (nI_ge (a := ng) (b := 30) hg30 (by decide))) (fun c_2 => ?_)
  refine lv_aload_n hx hb dX3_joinGeneration_46 rfl (lv_at hl 1 rfl) ?_
  refine gf_X3_17 hx hb hT hown hK t13 rfl dX3_joinGeneration_47 ?_
  refine lv_aload_n hx hb dX3_joinGeneration_50 rfl (lv_at hl 1 rfl) ?_
  refine gf_X3_205 hx hb hT hown hK t13 rfl dX3_joinGeneration_51 ?_
  rw [show XI 10 1 = nI ng from hcnt]
  refine lv_aload_n hx hb dX3_joinGeneration_54 rfl (lv_at hl 0 rfl) ?_
  refine pa_gast hx hb hK hP2 hDA hS n15 a15 (g15.trans rfl) nq aq gq hg30 dX3_joinGeneration_55 (fun H locs hP3 hS => ?_)
  have hne15 : (13 : Nat) ≠ 15 := by decide
  have hq15 : 20 + 4 * ng ≠ 15 := by omega
  have hq13 : 20 + 4 * ng ≠ 13 := by omega
  have t13 : va_at D vwCl (ad 13, gS ks ad np ng G MI MJ XI XJ 13) H := by have h1 := hP3.at n13 ((va_up_ne _ _ hne15).trans g13); rw [a13] at h1; exact h1
  refine lv_aload_n hx hb dX3_joinGeneration_56 rfl (lv_at hl 1 rfl) ?_
  refine lv_dup hx hb dX3_joinGeneration_57 rfl ?_
  refine gf_X3_205 hx hb hT hown hK t13 rfl dX3_joinGeneration_58 ?_
  refine lv_iconst (v := 1) hx hb dX3_joinGeneration_61 (by decide) ?_
  refine lv_iadd hx hb dX3_joinGeneration_62 ?_
  rw [show XI 10 1 + 1 = nI (ng + 1) from by rw [hcnt]; exact nI_1 ng]
  refine pa_X3_205 hx hb hT hown hK hP3 hDA hS n13 a13 ((va_up_ne _ _ hne15).trans (g13.trans rfl)) (Nat.le_of_ble_eq_true rfl) dX3_joinGeneration_63 (fun H locs hP4 hS => ?_)
  have t4 := hP4.at nq ((va_up_ne _ _ hq13).trans ((va_up_ne _ _ hq15).trans gq))
  rw [aq] at t4
  refine lv_aload_n hx hb dX3_joinGeneration_66 rfl (lv_at hl 0 rfl) ?_
  refine lv_dup hx hb dX3_joinGeneration_67 rfl ?_
  refine gf_X3_208 hx hb hT hown hK t4 rfl dX3_joinGeneration_68 ?_
  refine lv_iload_n hx hb dX3_joinGeneration_71 rfl (lv_at hl 3 rfl) ?_
  refine lv_i2l hx hb dX3_joinGeneration_72 rfl ?_
  refine lv_ladd hx hb dX3_joinGeneration_73 ?_
  refine pa_X3_208 hx hb hT hown hK hP4 hDA hS nq aq ((va_up_ne _ _ hq13).trans ((va_up_ne _ _ hq15).trans gq)) (Nat.le_of_ble_eq_true rfl) dX3_joinGeneration_74 (fun H locs hP5 hS => ?_)
  refine lv_aload_n hx hb dX3_joinGeneration_77 rfl (lv_at hl 0 rfl) ?_
  refine zA_a hx hb hr hlk hS (Nat.le_of_ble_eq_true rfl) (Nat.le_of_ble_eq_true rfl) dX3_joinGeneration_78 ⟨hq, qf, hqf0, ?_, ?_⟩
  · rw [← had2]
    refine hP5.cast (fun x _ => ?_)
    subst hg2
    unfold jG
    simp only [va_up]
    by_cases h1 : x = 20 + 4 * ng
    · subst h1; simp [hff, hq15, hq13]
    · by_cases h2 : x = 13
      · subst h2; simp [hr13]
      · by_cases h3 : x = 15
        · subst h3; simp [hr15]
        · simp [h1, h2, h3]
  · rw [← had2]; exact hDA
end ZB2
end
section
/-! begin -/
section ZB3
variable {D : va_G} {ks : Nat → ClassId} {ad : Nat → Nat} {np ng : Nat} {G : Nat → Nat} {MI : Nat → Nat → Int32} {MJ : Nat → Nat → Int64} {XI : Nat → Nat → Int32} {XJ : Nat → Nat → Int64} {Rs : List Nat}
def zAll (Rs : List Nat) (np ng : Nat) : Prop := ∀ r ∈ Rs, (13 ≤ r ∧ r < 18) ∨ (∃ i, i < ng ∧ (r = 20 + 4 * i ∨ r = 21 + 4 * i)) ∨ ∃ j, j < np ∧ (r = 22 + 4 * j ∨ r = 23 + 4 * j)
theorem zAll.not {r : Nat} (h : zAll Rs np ng) (h1 : 18 ≤ r) (h2 : ∀ i, i < ng → r ≠ 20 + 4 * i ∧ r ≠ 21 + 4 * i) (h3 : ∀ j, j < np → r ≠ 22 + 4 * j ∧ r ≠ 23 + 4 * j) : r ∉ Rs := fun hr => by
  rcases h r hr with q | ⟨i, hi, q | q⟩ | ⟨j, hj, q | q⟩
  · omega
  · exact (h2 i hi).1 q
  · exact (h2 i hi).2 q
  · exact (h3 j hj).1 q
  · exact (h3 j hj).2 q
/-- the world seen from other addresses, more policies and generations, where the old roles are as they were -/
theorem gS_more {ad' : Nat → Nat} {np' ng' : Nat} {G' : Nat → Nat} {XI' : Nat → Nat → Int32} {XJ' : Nat → Nat → Int64} (hall : zAll Rs np ng) (hI : zIn Rs np ng) (hG : ∀ j, j < np → G j < ng) (ha : ∀ r ∈ Rs, ad' r = ad r) (hGe : ∀ j, j < np → G' j = G j)
    (e5 : XJ' 5 = XJ 5) (e6 : XJ' 6 = XJ 6) (c11 : ∀ i, i < ng → XI' 11 i = XI 11 i) (c12 : ∀ i, i < ng → XI' 12 i = XI 12 i) (d7 : ∀ i, i < ng → XJ' 7 i = XJ 7 i) (d8 : ∀ i, i < ng → XJ' 8 i = XJ 8 i)
    (c13 : ∀ j, j < np → XI' 13 j = XI 13 j) (c14 : ∀ j, j < np → XI' 14 j = XI 14 j) (c15 : ∀ j, j < np → XI' 15 j = XI 15 j) (d9 : ∀ j, j < np → XJ' 9 j = XJ 9 j) (d10 : ∀ j, j < np → XJ' 10 j = XJ 10 j) (d11 : ∀ j, j < np → XJ' 11 j = XJ 11 j) :
    ∀ r ∈ Rs, r ≠ 13 → r ≠ 14 → r ≠ 15 → gS ks ad' np' ng' G' MI MJ XI' XJ' r = gS ks ad np ng G MI MJ XI XJ r := by
  intro r hr h13 h14 h15
  have b : ∀ k, (13 ≤ k ∧ k < 18) → ad' k = ad k := fun k hk => ha k (hI.1 k hk)
  rcases hall r hr with q | ⟨i, hi, rfl | rfl⟩ | ⟨j, hj, rfl | rfl⟩
  · rw [gS_lo (by omega), gS_lo (by omega)]
    rcases r_20 (r := r) (by omega) with rfl | rfl | rfl | rfl | rfl | rfl | rfl | rfl | rfl | rfl | rfl | rfl | rfl | rfl | rfl | rfl | rfl | rfl | rfl | rfl <;> first | (exact absurd q (by decide)) | (exact absurd rfl h13) | (exact absurd rfl h14) | (exact absurd rfl h15) | (simp only [gLo, e5, e6]; done) | (simp only [gLo, eMod, e5, e6]; rw [b 1 (by decide), b 2 (by decide), b 3 (by decide), b 4 (by decide), b 5 (by decide), b 6 (by decide), b 7 (by decide), b 8 (by decide), b 9 (by decide), b 10 (by decide), b 11 (by decide)]) | rfl
  · rw [gS_0, gS_0]
    simp only [gHi, c11 i hi, c12 i hi, d7 i hi, ha _ (hI.2.1 i hi).2]
  · rw [gS_1, gS_1]
    simp only [gHi, d8 i hi]
  · rw [gS_2, gS_2]
    simp only [gHi, c13 j hj, c14 j hj, c15 j hj, d10 j hj, d11 j hj, ha _ (hI.2.2 j hj).2, hGe j hj, ha _ (hI.2.1 _ (hG j hj)).1]
  · rw [gS_3, gS_3]
    simp only [gHi, d9 j hj]
/-- an address more for a policy that is not yet counted -/
theorem gS_ad2 {q : Nat} : gS ks (va_up ad (22 + 4 * np) q) np ng G MI MJ XI XJ = gS ks ad np ng G MI MJ XI XJ := by
  have b : ∀ k, k ≠ 22 + 4 * np → va_up ad (22 + 4 * np) q k = ad k := fun k hk => va_up_ne _ _ hk
  funext r
  rcases r_cases r with h | ⟨i, rfl⟩ | ⟨i, rfl⟩ | ⟨i, rfl⟩ | ⟨i, rfl⟩
  · rw [gS_lo h, gS_lo h]
    have e1 : rPol (va_up ad (22 + 4 * np) q) np = rPol ad np := by
      funext k
      unfold rPol
      split
      · rw [b _ (by omega)]
      · rfl
    have e2 : rGen (va_up ad (22 + 4 * np) q) ng = rGen ad ng := by
      funext k
      unfold rGen
      split
      · rw [b _ (by omega)]
      · rfl
    rcases r_20 h with rfl | rfl | rfl | rfl | rfl | rfl | rfl | rfl | rfl | rfl | rfl | rfl | rfl | rfl | rfl | rfl | rfl | rfl | rfl | rfl <;> first | rfl | (simp only [gLo, e1, e2]; done) | (simp only [gLo, eOff]; rw [b 14 (by omega), b 15 (by omega), b 16 (by omega), b 17 (by omega)]) | (simp only [gLo, eMod]; rw [b 1 (by omega), b 2 (by omega), b 3 (by omega), b 4 (by omega), b 5 (by omega), b 6 (by omega), b 7 (by omega), b 8 (by omega), b 9 (by omega), b 10 (by omega), b 11 (by omega)])
  · rw [gS_0, gS_0]; simp only [gHi]; rw [b _ (by omega)]
  · rw [gS_1, gS_1]; rfl
  · rw [gS_2, gS_2]; simp only [gHi]; rw [b _ (by omega), b _ (by omega)]
  · rw [gS_3, gS_3]; rfl
def bI (XI : Nat → Nat → Int32) (np : Nat) (pr su : Int32) : Nat → Nat → Int32 := u2 (u2 (u2 (u2 XI 13 np pr) 14 np su) 15 np 0) 10 0 (nI (np + 1))
def bJ (XJ : Nat → Nat → Int64) (np : Nat) : Nat → Nat → Int64 := u2 (u2 (u2 XJ 9 np 0) 10 np 0) 11 np (-1)
def bG (G : Nat → Nat) (np i : Nat) : Nat → Nat := fun j => if j = np then i else G j
def nIx (XI : Nat → Nat → Int32) (ng : Nat) (te : Int32) : Nat → Nat → Int32 := u2 (u2 (u2 XI 11 ng (XI 10 2)) 12 ng te) 10 1 (nI (ng + 1))
def nJx (XJ : Nat → Nat → Int64) (ng : Nat) (pr : Int32) : Nat → Nat → Int64 := u2 (u2 XJ 7 ng (0 + Int32.toInt64 pr)) 8 ng 0
/-- the world behind a begin -/
def bW (D : va_G) (ks : Nat → ClassId) (ad : Nat → Nat) (Rs : List Nat) (sz np' ng' : Nat) (G' : Nat → Nat) (MI : Nat → Nat → Int32) (MJ : Nat → Nat → Int64) (XI' : Nat → Nat → Int32) (XJ' : Nat → Nat → Int64) (H : Heap) : Prop :=
  ∃ (ad' : Nat → Nat) (Rs' : List Nat), (∀ r ∈ Rs, r ∈ Rs' ∧ ad' r = ad r) ∧ zIn Rs' np' ng' ∧ zAll Rs' np' ng' ∧ zD (zA Rs ad sz) Rs' ad' ∧ zP D Rs' ad' (gS ks ad' np' ng' G' MI MJ XI' XJ') H
set_option maxHeartbeats 4000000 in
set_option maxRecDepth 100000 in
theorem c_X3_begin_old (l : Launch) (hD0 : zD (fun _ => True) Rs ad) (hI : zIn Rs np ng) (hall : zAll Rs np ng) (te pr su : Int32) (hcnt0 : XI 10 0 = nI np) (hnp : np < 30) (hG : ∀ j, j < np → G j < ng) (hG30 : ng ≤ 30) (h0 : fIn te 2 20 = 1) (h1 : fIn pr 1 1000 = 1) (h2 : fIn su 0 100000 = 1) (i : Nat) (hi : i < ng) (hf : xF (XI 11) (XI 12) (XI 10 2) te ng 0 = some i) (sz : Nat) : zMW l yX3_begin cX3_begin 5 (some .int) 4 90 2 8 D ks sz [.ref (ad 13), .int te, .int pr, .int su] (zP D Rs ad (gS ks ad np ng G MI MJ XI XJ)) (some (.int (nI np))) (bW D ks ad Rs sz (np + 1) ng (bG G np i) MI MJ (bI XI np pr su) (bJ (u2 XJ 7 i (XJ 7 i + Int32.toInt64 pr)) np)) (zA Rs ad sz) := by
  refine zMW.of (by decide +kernel) (Nat.le_of_ble_eq_true rfl) ?_
  intro p e s m below meth c ls hx hb hr hml hown hlk hT hsz hP hK hl hin
  have hl : lv_has ls 5 [(0, .ref (ad 13)), (1, .int te), (2, .int pr), (3, .int su)] := hl
  subst hsz
  have hD := hD0.self (sz := s.heap.size)
  have hA : ∀ q : Nat, s.heap.size ≤ q → zA Rs ad s.heap.size q := fun q h => Or.inr h
  have hS : va_S (zA Rs ad s.heap.size) s.heap s.heap [] := va_S.rf
  refine lv_iload_n hx hb dX3_begin_0 rfl (lv_at hl 1 rfl) ?_
  refine z_backR1 (z_runS ⟨hx, hb, hml, hown, hT⟩ (rest := []) (As := [.int te]) (c_X3_isTerm l D ks te ) k_X3_46 (z_preR hK trivial) rfl ⟨Nat.le_of_ble_eq_true rfl, Nat.le_of_ble_eq_true rfl⟩ hl.1 rfl (Nat.le_of_ble_eq_true rfl) dX3_begin_1 ⟨Nat.le_of_ble_eq_true rfl, Nat.le_of_ble_eq_true rfl⟩) ?_
  refine lv_if_eq (tgt := 28) hx hb dX3_begin_4 (by decide) (fun c_1 => ?_) (fun c_1 => ?_)
  · exact absurd ((h0).symm.trans c_1) (by decide)
  · refine lv_iload_n hx hb dX3_begin_7 rfl (lv_at hl 2 rfl) ?_
    refine lv_iconst (v := 1) hx hb dX3_begin_8 (by decide) ?_
    refine lv_sipush (v := 1000) hx hb dX3_begin_9 (by decide) ?_
    refine z_backR1 (z_runS ⟨hx, hb, hml, hown, hT⟩ (rest := []) (As := [.int pr, .int 1, .int 1000]) (c_X3_isWithin l D ks pr 1 1000 ) k_X3_50 (z_preR hK trivial) rfl ⟨Nat.le_of_ble_eq_true rfl, Nat.le_of_ble_eq_true rfl⟩ hl.1 rfl (Nat.le_of_ble_eq_true rfl) dX3_begin_12 ⟨Nat.le_of_ble_eq_true rfl, Nat.le_of_ble_eq_true rfl⟩) ?_
    refine lv_if_eq (tgt := 28) hx hb dX3_begin_15 (by decide) (fun c_2 => ?_) (fun c_2 => ?_)
    · exact absurd ((h1).symm.trans c_2) (by decide)
    · refine lv_iload_n hx hb dX3_begin_18 rfl (lv_at hl 3 rfl) ?_
      refine lv_iconst (v := 0) hx hb dX3_begin_19 (by decide) ?_
      refine lv_ldc (v := 100000) hx hb hown (hT _ ki_X3_54) dX3_begin_20 ?_
      refine z_backR1 (z_runS ⟨hx, hb, hml, hown, hT⟩ (rest := []) (As := [.int su, .int 0, .int 100000]) (c_X3_isWithin l D ks su 0 100000 ) k_X3_50 (z_preR hK trivial) rfl ⟨Nat.le_of_ble_eq_true rfl, Nat.le_of_ble_eq_true rfl⟩ hl.1 rfl (Nat.le_of_ble_eq_true rfl) dX3_begin_22 ⟨Nat.le_of_ble_eq_true rfl, Nat.le_of_ble_eq_true rfl⟩) ?_
      refine lv_if_ne (tgt := 38) hx hb dX3_begin_25 (by decide) (fun c_3 => ?_) (fun c_3 => ?_)
      · refine lv_aload_n hx hb dX3_begin_38 rfl (lv_at hl 0 rfl) ?_
        refine gf_X3_62 hx hb hT hown hK (hP.at (hI.1 13 (by decide)) rfl) rfl dX3_begin_39 ?_
        rw [show XI 10 0 = nI np from hcnt0]
        refine lv_istore (lv' := [(4, .int (nI np)), (0, .ref (ad 13)), (1, .int te), (2, .int pr), (3, .int su)]) hx hb dX3_begin_42 hl (by decide) rfl (fun ls hl => ?_)
        refine lv_iload hx hb dX3_begin_44 (lv_at hl 0 rfl) ?_
        refine lv_if_lt (tgt := 59) hx hb dX3_begin_46 (by decide) (fun c_4 => ?_) (fun c_4 => ?_)
        · exact absurd c_4 (nI_pos (by omega))
        · refine lv_iload hx hb dX3_begin_49 (lv_at hl 0 rfl) ?_
          refine lv_aload_n hx hb dX3_begin_51 rfl (lv_at hl 1 rfl) ?_
          refine gf_X3_11 hx hb hT hown hK (hP.at (hI.1 13 (by decide)) rfl) rfl dX3_begin_52 ?_
          refine z_plen hx hb hK (hP.at (hI.1 14 (by decide)) rfl) (v := 30) rfl dX3_begin_55 ?_
          refine lv_icmp_lt (tgt := 69) hx hb dX3_begin_56 (by decide) (fun c_5 => ?_) (fun c_5 => ?_)
          · refine lv_aload_n hx hb dX3_begin_69 rfl (lv_at hl 1 rfl) ?_
            refine gf_X3_11 hx hb hT hown hK (hP.at (hI.1 13 (by decide)) rfl) rfl dX3_begin_70 ?_
            refine lv_iload hx hb dX3_begin_73 (lv_at hl 0 rfl) ?_
            have hl := (show lv_has ls 5 [(4, .int (nI np)), (0, .ref (ad 13)), (1, .int te), (2, .int pr), (3, .int su)] from (lv_sub hl [0, 1, 2, 3, 4] rfl))
            have hn2 : 22 + 4 * np ∉ Rs := hall.not (by omega) (fun i hi => ⟨by omega, by omega⟩) (fun j hj => ⟨by omega, by omega⟩)
            refine z_new (ci := 2) (fs := [.null, .int 0, .int 0, .null, .long 0, .int 0, .long 0]) (r := 22 + 4 * np) hx hb hT hown hK ly_X2 tyX2 tyX2_ok cl_X3_9 mk_X2 in_X2 hP hD hS hA rfl (fun j hj => by rcases (show j = 0 ∨ j = 1 ∨ j = 2 ∨ j = 3 ∨ j = 4 ∨ j = 5 ∨ j = 6 by omega) with rfl | rfl | rfl | rfl | rfl | rfl | rfl <;> rfl) hn2 (Nat.le_of_ble_eq_true rfl) (Nat.le_of_ble_eq_true rfl) dX3_begin_75 (fun q2 H hP1 hD1 hq2 hS => ?_)
            have hzH : s.heap.size ≤ H.size := hS.1
            have hAc : ∀ x, zA ((22 + 4 * np) :: Rs) (va_up ad (22 + 4 * np) q2) H.size x → zA Rs ad s.heap.size x := fun x hx => zA_cons (Nat.le_refl _) hq2 x (zA_cons_le hzH x hx)
            obtain ⟨ad1, had1⟩ : ∃ z, z = va_up ad (22 + 4 * np) q2 := ⟨_, rfl⟩
            rw [← had1] at hP1 hD1 hAc
            have a1 : ∀ k, k ≠ 22 + 4 * np → ad1 k = ad k := fun k hk => by rw [had1, va_up_ne _ _ hk]
            have a2 : ad1 (22 + 4 * np) = q2 := by rw [had1, va_up_self]
            have hgad : gS ks ad np ng G MI MJ XI XJ = gS ks ad1 np ng G MI MJ XI XJ := by rw [had1]; exact gS_ad2.symm
            obtain ⟨g1, hg1⟩ : ∃ z, z = va_up (gS ks ad np ng G MI MJ XI XJ) (22 + 4 * np) (.inr (2, [.null, .int 0, .int 0, .null, .long 0, .int 0, .long 0])) := ⟨_, rfl⟩
            rw [← hg1] at hP1
            have hgS1 : ∀ r ∈ Rs, g1 r = gS ks ad1 np ng G MI MJ XI XJ r := fun r hr => by have hne : r ≠ 22 + 4 * np := fun h => hn2 (h ▸ hr); rw [hg1, va_up_ne _ _ hne, hgad]
            have hgr2 : g1 (22 + 4 * np) = .inr (2, [.null, .int 0, .int 0, .null, .long 0, .int 0, .long 0]) := by rw [hg1, va_up_self]
            have hDT : zD (fun _ => True) ((22 + 4 * np) :: Rs) ad1 := hD1.weak (fun _ _ => trivial)
            refine lv_dup hx hb dX3_begin_78 rfl ?_
            refine lv_aload_n hx hb dX3_begin_79 rfl (lv_at hl 1 rfl) ?_
            refine lv_iload_n hx hb dX3_begin_80 rfl (lv_at hl 2 rfl) ?_
            refine lv_iload_n hx hb dX3_begin_81 rfl (lv_at hl 3 rfl) ?_
            have e13 : ad1 13 = ad 13 := a1 13 (by omega)
            have hM := c_X3_joinGeneration_old (D := D) l (22 + 4 * np) hDT hI hgS1 hG30 te pr i hi hf H.size
            rw [e13] at hM
            have t13 : va_at D vwCl (ad 13, gS ks ad1 np ng G MI MJ XI XJ 13) H := by have h1 := hP1.at (List.mem_cons_of_mem _ (hI.1 13 (by decide))) (hgS1 13 (hI.1 13 (by decide))); rw [e13] at h1; exact h1
            refine z_backA (z_runV ⟨hx, hb, hml, hown, hT⟩ (rest := [.ref q2, .ref q2, .int (nI np), .ref (ad 14)]) (As := [.int te, .int pr]) hM k_X3_70 (z_preWV hK hP1 t13 rfl) rfl ⟨Nat.le_of_ble_eq_true rfl, Nat.le_of_ble_eq_true rfl⟩ hl.1 rfl (Nat.le_of_ble_eq_true rfl) dX3_begin_82 ⟨Nat.le_of_ble_eq_true rfl, Nat.le_of_ble_eq_true rfl⟩) hS hAc (fun q H1 locs1 hB hz1 hS => ?_)
            obtain ⟨hq, hP2⟩ := hB
            subst hq
            have hDA := hD1
            have hr2m : 22 + 4 * np ∈ (22 + 4 * np) :: Rs := List.mem_cons_self
            have har2 : ad1 (22 + 4 * np) = q2 := a2
            have hgr : (va_up g1 (20 + 4 * i) (.inr (1, [.int (XI 11 i), .int (XI 12 i), .ref (ad1 (21 + 4 * i)), .long (XJ 7 i + Int32.toInt64 pr)]))) (22 + 4 * np) = .inr (2, [.null, .int 0, .int 0, .null, .long 0, .int 0, .long 0]) := (va_up_ne _ _ (by omega)).trans hgr2
            have hn3 : 23 + 4 * np ∉ (22 + 4 * np) :: Rs := fun h => (List.mem_cons.mp h).elim (fun h => by omega) (hall.not (by omega) (fun i hi => ⟨by omega, by omega⟩) (fun j hj => ⟨by omega, by omega⟩))
            refine lv_iload_n hx hb dX3_begin_85 rfl (lv_at hl 3 rfl) ?_
            refine lv_iload_n hx hb dX3_begin_86 rfl (lv_at hl 4 rfl) ?_
            have hDT2 : zD (fun _ => True) ((22 + 4 * np) :: Rs) ad1 := hDA.weak (fun _ _ => trivial)
            have hzH1 : s.heap.size ≤ H1.size := hS.1
            have hAc2 : ∀ x, zA ((22 + 4 * np) :: Rs) ad1 H1.size x → zA Rs ad s.heap.size x := hDA.free (fun x hx => hA x (Nat.le_trans hzH1 hx))
            refine z_backW0 (z_runIN ⟨hx, hb, hml, hown, hT⟩ hK (rest := [.ref q2, .int (nI np), .ref (ad 14)]) (As := [.ref (ad1 (20 + 4 * i)), .int pr, .int su]) (c_X2_init (D := D) (ks := ks) l hDT2 (22 + 4 * np) (23 + 4 * np) q2 hr2m har2 hn3 hgr (ad1 (20 + 4 * i)) pr su H1.size) k_X3_74 (z_preW hK hP2) rfl ⟨Nat.le_of_ble_eq_true rfl, Nat.le_of_ble_eq_true rfl⟩ hl.1 rfl (Nat.le_of_ble_eq_true rfl) dX3_begin_87 ⟨Nat.le_of_ble_eq_true rfl, Nat.le_of_ble_eq_true rfl⟩) hS hAc2 (fun H2 locs2 hB hz2 hk2 hS => ?_)
            obtain ⟨qp, hqp, hP3, hDC⟩ := hB
            have hDE : zD (zA Rs ad s.heap.size) ((23 + 4 * np) :: (22 + 4 * np) :: Rs) (va_up ad1 (23 + 4 * np) qp) := hDC.weak hAc2
            obtain ⟨ad3, had3⟩ : ∃ z, z = va_up ad1 (23 + 4 * np) qp := ⟨_, rfl⟩
            rw [← had3] at hP3 hDE
            have c1 : ∀ k, k ≠ 22 + 4 * np → k ≠ 23 + 4 * np → ad3 k = ad k := fun k h1 h2 => by rw [had3, va_up_ne _ _ h2, a1 _ h1]
            have e14 : ad3 14 = ad 14 := c1 14 (by omega) (by omega)
            have e13 : ad3 13 = ad 13 := c1 13 (by omega) (by omega)
            have e22 : ad3 (22 + 4 * np) = q2 := by rw [had3, va_up_ne _ _ (by omega)]; exact har2
            obtain ⟨g3, hg3⟩ : ∃ z, z = va_up (va_up (va_up g1 (20 + 4 * i) (.inr (1, [.int (XI 11 i), .int (XI 12 i), .ref (ad1 (21 + 4 * i)), .long (XJ 7 i + Int32.toInt64 pr)]))) (22 + 4 * np) (.inr (2, [.ref (ad1 (20 + 4 * i)), .int pr, .int su, .ref qp, .long 0, .int 0, .long (-1)]))) (23 + 4 * np) (.inr (0, [.long 0])) := ⟨_, rfl⟩
            rw [← hg3] at hP3
            have g14 : g3 14 = gS ks ad1 np ng G MI MJ XI XJ 14 := by rw [hg3, va_up_ne _ _ (by omega), va_up_ne _ _ (by omega), va_up_ne _ _ (by omega)]; exact hgS1 14 (hI.1 14 (by decide))
            have g13 : g3 13 = .inr (3, [.ref (ad 14), .ref (ad 15), .ref (ad 16), .ref (ad 17), .int (XI 10 0), .int (XI 10 1), .int (XI 10 2), .int (XI 10 3), .int (XI 10 4), .int (XI 10 5), .int (XI 10 6), .int (XI 10 7), .long (XJ 4 0), .long (XJ 4 1)]) := by rw [hg3, va_up_ne _ _ (by omega), va_up_ne _ _ (by omega), va_up_ne _ _ (by omega), hgS1 13 (hI.1 13 (by decide)), ← hgad]; rfl
            have g22 : g3 (22 + 4 * np) = .inr (2, [.ref (ad1 (20 + 4 * i)), .int pr, .int su, .ref qp, .long 0, .int 0, .long (-1)]) := by rw [hg3, va_up_ne _ _ (by omega), va_up_self]
            refine pa_past hx hb hK hP3 hDE hS (List.mem_cons_of_mem _ (List.mem_cons_of_mem _ (hI.1 14 (by decide)))) e14 (g14.trans rfl) (List.mem_cons_of_mem _ hr2m) e22 g22 hnp dX3_begin_90 (fun H locs hP4 hS => ?_)
            refine lv_aload_n hx hb dX3_begin_91 rfl (lv_at hl 1 rfl) ?_
            refine lv_iload hx hb dX3_begin_92 (lv_at hl 0 rfl) ?_
            refine lv_iconst (v := 1) hx hb dX3_begin_94 (by decide) ?_
            refine lv_iadd hx hb dX3_begin_95 ?_
            rw [nI_1 np]
            refine pa_X3_62 hx hb hT hown hK hP4 hDE hS (List.mem_cons_of_mem _ (List.mem_cons_of_mem _ (hI.1 13 (by decide)))) e13 ((va_up_ne _ _ (by decide)).trans g13) (Nat.le_of_ble_eq_true rfl) dX3_begin_96 (fun H locs hP5 hS => ?_)
            refine lv_iload hx hb dX3_begin_99 (lv_at hl 0 rfl) ?_
            refine zW_i hx hb hr hlk hS (Nat.le_of_ble_eq_true rfl) (Nat.le_of_ble_eq_true rfl) dX3_begin_101 rfl ⟨ad3, ((23 + 4 * np) :: (22 + 4 * np) :: Rs), ?_, ?_, ?_, hDE, hP5.cast ?_⟩
            · intro r hr
              have h22 : r ≠ 22 + 4 * np := fun h => hn2 (h ▸ hr)
              have h23 : r ≠ 23 + 4 * np := fun h => hn3 (h ▸ List.mem_cons_of_mem _ hr)
              exact ⟨List.mem_cons_of_mem _ (List.mem_cons_of_mem _ (hr)), c1 r h22 h23⟩
            · refine ⟨fun r h => List.mem_cons_of_mem _ (List.mem_cons_of_mem _ (hI.1 r h)), fun i2 h2 => ?_, fun j2 h2 => ?_⟩
              · exact ⟨List.mem_cons_of_mem _ (List.mem_cons_of_mem _ ((hI.2.1 i2 h2).1)), List.mem_cons_of_mem _ (List.mem_cons_of_mem _ ((hI.2.1 i2 h2).2))⟩
              · rcases Nat.lt_or_ge j2 np with h | h
                · exact ⟨List.mem_cons_of_mem _ (List.mem_cons_of_mem _ ((hI.2.2 j2 h).1)), List.mem_cons_of_mem _ (List.mem_cons_of_mem _ ((hI.2.2 j2 h).2))⟩
                · rw [show j2 = np by omega]; exact ⟨(List.mem_cons_of_mem _ hr2m), List.mem_cons_self⟩
            · intro r hr
              rcases List.mem_cons.mp hr with rfl | hr
              · exact Or.inr (Or.inr ⟨np, by omega, Or.inr rfl⟩)
              rcases List.mem_cons.mp hr with rfl | hr
              · exact Or.inr (Or.inr ⟨np, by omega, Or.inl rfl⟩)
              rcases hall r hr with h | ⟨i2, h2, h⟩ | ⟨j2, h2, h⟩
              · exact Or.inl h
              · exact Or.inr (Or.inl ⟨i2, by omega, h⟩)
              · exact Or.inr (Or.inr ⟨j2, by omega, h⟩)
            · intro r hr
              have ha : ∀ r ∈ Rs, ad3 r = ad r := fun r hr => c1 r (fun h => hn2 (h ▸ hr)) (fun h => hn3 (h ▸ List.mem_cons_of_mem _ hr))
              have e3 : ad3 (23 + 4 * np) = qp := by rw [had3, va_up_self]
              by_cases h13 : r = 13
              · subst h13; rw [va_up_self, gS_lo (by decide)]; simp only [gLo, eOff]; rw [e14, c1 15 (by omega) (by omega), c1 16 (by omega) (by omega), c1 17 (by omega) (by omega)]; simp [bI, bJ, nIx, nJx, u2]
              by_cases h14 : r = 14
              · subst h14; rw [va_up_ne _ _ h13, va_up_self, gS_lo (by decide)]; simp only [gLo]; rw [show rPol ad3 (np + 1) = va_up (rPol ad1 np) np (some q2) from ?_]
                funext k; simp only [rPol, va_up]
                by_cases hk : k = np
                · subst hk; rw [if_pos (by omega), if_pos rfl, e22]
                · rw [if_neg hk]; by_cases hk2 : k < np
                  · rw [if_pos (by omega), if_pos hk2, c1 _ (by omega) (by omega), a1 _ (by omega)]
                  · rw [if_neg (by omega), if_neg hk2]
              rw [va_up_ne _ _ h13, va_up_ne _ _ h14]
              by_cases h23 : r = 23 + 4 * np
              · subst h23; rw [hg3, va_up_self, gS_3]; simp only [gHi]; simp [bJ, u2]
              by_cases h22 : r = 22 + 4 * np
              · subst h22; rw [g22, gS_2]; simp only [gHi]; rw [e3, show bG G np i np = i from if_pos rfl, c1 (20 + 4 * i) (by omega) (by omega), a1 (20 + 4 * i) (by omega)]; simp [bI, bJ, u2]
              rw [hg3, va_up_ne _ _ h23, va_up_ne _ _ h22]
              have hr : r ∈ Rs := (List.mem_cons.mp ((List.mem_cons.mp hr).resolve_left h23)).resolve_left h22
              by_cases h20 : r = 20 + 4 * i
              · subst h20; rw [va_up_self, gS_0]; simp only [gHi]; rw [c1 (21 + 4 * i) (by omega) (by omega), a1 (21 + 4 * i) (by omega)]; simp [bI, bJ, u2]
              rw [va_up_ne _ _ h20, hgS1 r hr, ← hgad]
              by_cases h15 : r = 15
              · subst h15; rw [gS_lo (by decide), gS_lo (by decide)]; simp only [gLo]; rw [show rGen ad3 ng = rGen ad ng from ?_]
                funext k; unfold rGen; split
                · rw [c1 _ (by omega) (by omega)]
                · rfl
              have key := gS_more (ks := ks) (MI := MI) (MJ := MJ) (XI := XI) (XJ := u2 XJ 7 i (XJ 7 i + Int32.toInt64 pr)) (np' := np + 1) (ng' := ng) (G' := bG G np i) (XI' := bI XI np pr su) (XJ' := bJ (u2 XJ 7 i (XJ 7 i + Int32.toInt64 pr)) np) hall hI hG ha (by intro j hj; simp [bG, Nat.ne_of_lt hj]) (by simp [bI, bJ, bG, nIx, nJx, u2]) (by simp [bI, bJ, bG, nIx, nJx, u2]) (by intro k hk; simp [bI, bJ, u2]) (by intro k hk; simp [bI, bJ, u2]) (by intro k hk; simp [bI, bJ, u2]) (by intro k hk; simp [bI, bJ, u2]) (by intro k hk; simp [bI, bJ, bG, nIx, nJx, u2, Nat.ne_of_lt hk]) (by intro k hk; simp [bI, bJ, bG, nIx, nJx, u2, Nat.ne_of_lt hk]) (by intro k hk; simp [bI, bJ, bG, nIx, nJx, u2, Nat.ne_of_lt hk]) (by intro k hk; simp [bI, bJ, bG, nIx, nJx, u2, Nat.ne_of_lt hk]) (by intro k hk; simp [bI, bJ, bG, nIx, nJx, u2, Nat.ne_of_lt hk]) (by intro k hk; simp [bI, bJ, bG, nIx, nJx, u2, Nat.ne_of_lt hk]) r hr h13 h14 h15
              rw [key]
              rcases r_cases r with h | ⟨k, rfl⟩ | ⟨k, rfl⟩ | ⟨k, rfl⟩ | ⟨k, rfl⟩
              · rw [gS_lo h, gS_lo h]; simp [u2]
              · rw [gS_0, gS_0]; simp only [gHi]; rw [u2_n (fun h => h20 (by rw [h]))]
              · rw [gS_1, gS_1]; simp [gHi, u2]
              · rw [gS_2, gS_2]; simp [gHi, u2]
              · rw [gS_3, gS_3]; simp [gHi, u2]
          · exact absurd (nI_lt (a := np) (b := 30) hnp (by decide)) c_5
      · exact absurd ((h2).symm.trans c_3) (by decide)
set_option maxHeartbeats 4000000 in
set_option maxRecDepth 100000 in
theorem c_X3_begin_new (l : Launch) (hD0 : zD (fun _ => True) Rs ad) (hI : zIn Rs np ng) (hall : zAll Rs np ng) (te pr su : Int32) (hcnt0 : XI 10 0 = nI np) (hnp : np < 30) (hG : ∀ j, j < np → G j < ng) (hG30 : ng ≤ 30) (h0 : fIn te 2 20 = 1) (h1 : fIn pr 1 1000 = 1) (h2 : fIn su 0 100000 = 1) (hg30 : ng < 30) (hcnt : XI 10 1 = nI ng) (hf : xF (XI 11) (XI 12) (XI 10 2) te ng 0 = none) (sz : Nat) : zMW l yX3_begin cX3_begin 5 (some .int) 4 90 4 13 D ks sz [.ref (ad 13), .int te, .int pr, .int su] (zP D Rs ad (gS ks ad np ng G MI MJ XI XJ)) (some (.int (nI np))) (bW D ks ad Rs sz (np + 1) (ng + 1) (bG G np ng) MI MJ (bI (nIx XI ng te) np pr su) (bJ (nJx XJ ng pr) np)) (zA Rs ad sz) := by
  refine zMW.of (by decide +kernel) (Nat.le_of_ble_eq_true rfl) ?_
  intro p e s m below meth c ls hx hb hr hml hown hlk hT hsz hP hK hl hin
  have hl : lv_has ls 5 [(0, .ref (ad 13)), (1, .int te), (2, .int pr), (3, .int su)] := hl
  subst hsz
  have hD := hD0.self (sz := s.heap.size)
  have hA : ∀ q : Nat, s.heap.size ≤ q → zA Rs ad s.heap.size q := fun q h => Or.inr h
  have hS : va_S (zA Rs ad s.heap.size) s.heap s.heap [] := va_S.rf
  refine lv_iload_n hx hb dX3_begin_0 rfl (lv_at hl 1 rfl) ?_
  refine z_backR1 (z_runS ⟨hx, hb, hml, hown, hT⟩ (rest := []) (As := [.int te]) (c_X3_isTerm l D ks te ) k_X3_46 (z_preR hK trivial) rfl ⟨Nat.le_of_ble_eq_true rfl, Nat.le_of_ble_eq_true rfl⟩ hl.1 rfl (Nat.le_of_ble_eq_true rfl) dX3_begin_1 ⟨Nat.le_of_ble_eq_true rfl, Nat.le_of_ble_eq_true rfl⟩) ?_
  refine lv_if_eq (tgt := 28) hx hb dX3_begin_4 (by decide) (fun c_1 => ?_) (fun c_1 => ?_)
  · exact absurd ((h0).symm.trans c_1) (by decide)
  · refine lv_iload_n hx hb dX3_begin_7 rfl (lv_at hl 2 rfl) ?_
    refine lv_iconst (v := 1) hx hb dX3_begin_8 (by decide) ?_
    refine lv_sipush (v := 1000) hx hb dX3_begin_9 (by decide) ?_
    refine z_backR1 (z_runS ⟨hx, hb, hml, hown, hT⟩ (rest := []) (As := [.int pr, .int 1, .int 1000]) (c_X3_isWithin l D ks pr 1 1000 ) k_X3_50 (z_preR hK trivial) rfl ⟨Nat.le_of_ble_eq_true rfl, Nat.le_of_ble_eq_true rfl⟩ hl.1 rfl (Nat.le_of_ble_eq_true rfl) dX3_begin_12 ⟨Nat.le_of_ble_eq_true rfl, Nat.le_of_ble_eq_true rfl⟩) ?_
    refine lv_if_eq (tgt := 28) hx hb dX3_begin_15 (by decide) (fun c_2 => ?_) (fun c_2 => ?_)
    · exact absurd ((h1).symm.trans c_2) (by decide)
    · refine lv_iload_n hx hb dX3_begin_18 rfl (lv_at hl 3 rfl) ?_
      refine lv_iconst (v := 0) hx hb dX3_begin_19 (by decide) ?_
      refine lv_ldc (v := 100000) hx hb hown (hT _ ki_X3_54) dX3_begin_20 ?_
      refine z_backR1 (z_runS ⟨hx, hb, hml, hown, hT⟩ (rest := []) (As := [.int su, .int 0, .int 100000]) (c_X3_isWithin l D ks su 0 100000 ) k_X3_50 (z_preR hK trivial) rfl ⟨Nat.le_of_ble_eq_true rfl, Nat.le_of_ble_eq_true rfl⟩ hl.1 rfl (Nat.le_of_ble_eq_true rfl) dX3_begin_22 ⟨Nat.le_of_ble_eq_true rfl, Nat.le_of_ble_eq_true rfl⟩) ?_
      refine lv_if_ne (tgt := 38) hx hb dX3_begin_25 (by decide) (fun c_3 => ?_) (fun c_3 => ?_)
      · refine lv_aload_n hx hb dX3_begin_38 rfl (lv_at hl 0 rfl) ?_
        refine gf_X3_62 hx hb hT hown hK (hP.at (hI.1 13 (by decide)) rfl) rfl dX3_begin_39 ?_
        rw [show XI 10 0 = nI np from hcnt0]
        refine lv_istore (lv' := [(4, .int (nI np)), (0, .ref (ad 13)), (1, .int te), (2, .int pr), (3, .int su)]) hx hb dX3_begin_42 hl (by decide) rfl (fun ls hl => ?_)
        refine lv_iload hx hb dX3_begin_44 (lv_at hl 0 rfl) ?_
        refine lv_if_lt (tgt := 59) hx hb dX3_begin_46 (by decide) (fun c_4 => ?_) (fun c_4 => ?_)
        · exact absurd c_4 (nI_pos (by omega))
        · refine lv_iload hx hb dX3_begin_49 (lv_at hl 0 rfl) ?_
          refine lv_aload_n hx hb dX3_begin_51 rfl (lv_at hl 1 rfl) ?_
          refine gf_X3_11 hx hb hT hown hK (hP.at (hI.1 13 (by decide)) rfl) rfl dX3_begin_52 ?_
          refine z_plen hx hb hK (hP.at (hI.1 14 (by decide)) rfl) (v := 30) rfl dX3_begin_55 ?_
          refine lv_icmp_lt (tgt := 69) hx hb dX3_begin_56 (by decide) (fun c_5 => ?_) (fun c_5 => ?_)
          · refine lv_aload_n hx hb dX3_begin_69 rfl (lv_at hl 1 rfl) ?_
            refine gf_X3_11 hx hb hT hown hK (hP.at (hI.1 13 (by decide)) rfl) rfl dX3_begin_70 ?_
            refine lv_iload hx hb dX3_begin_73 (lv_at hl 0 rfl) ?_
            have hl := (show lv_has ls 5 [(4, .int (nI np)), (0, .ref (ad 13)), (1, .int te), (2, .int pr), (3, .int su)] from (lv_sub hl [0, 1, 2, 3, 4] rfl))
            have hn2 : 22 + 4 * np ∉ Rs := hall.not (by omega) (fun i hi => ⟨by omega, by omega⟩) (fun j hj => ⟨by omega, by omega⟩)
            refine z_new (ci := 2) (fs := [.null, .int 0, .int 0, .null, .long 0, .int 0, .long 0]) (r := 22 + 4 * np) hx hb hT hown hK ly_X2 tyX2 tyX2_ok cl_X3_9 mk_X2 in_X2 hP hD hS hA rfl (fun j hj => by rcases (show j = 0 ∨ j = 1 ∨ j = 2 ∨ j = 3 ∨ j = 4 ∨ j = 5 ∨ j = 6 by omega) with rfl | rfl | rfl | rfl | rfl | rfl | rfl <;> rfl) hn2 (Nat.le_of_ble_eq_true rfl) (Nat.le_of_ble_eq_true rfl) dX3_begin_75 (fun q2 H hP1 hD1 hq2 hS => ?_)
            have hzH : s.heap.size ≤ H.size := hS.1
            have hAc : ∀ x, zA ((22 + 4 * np) :: Rs) (va_up ad (22 + 4 * np) q2) H.size x → zA Rs ad s.heap.size x := fun x hx => zA_cons (Nat.le_refl _) hq2 x (zA_cons_le hzH x hx)
            obtain ⟨ad1, had1⟩ : ∃ z, z = va_up ad (22 + 4 * np) q2 := ⟨_, rfl⟩
            rw [← had1] at hP1 hD1 hAc
            have a1 : ∀ k, k ≠ 22 + 4 * np → ad1 k = ad k := fun k hk => by rw [had1, va_up_ne _ _ hk]
            have a2 : ad1 (22 + 4 * np) = q2 := by rw [had1, va_up_self]
            have hgad : gS ks ad np ng G MI MJ XI XJ = gS ks ad1 np ng G MI MJ XI XJ := by rw [had1]; exact gS_ad2.symm
            obtain ⟨g1, hg1⟩ : ∃ z, z = va_up (gS ks ad np ng G MI MJ XI XJ) (22 + 4 * np) (.inr (2, [.null, .int 0, .int 0, .null, .long 0, .int 0, .long 0])) := ⟨_, rfl⟩
            rw [← hg1] at hP1
            have hgS1 : ∀ r ∈ Rs, g1 r = gS ks ad1 np ng G MI MJ XI XJ r := fun r hr => by have hne : r ≠ 22 + 4 * np := fun h => hn2 (h ▸ hr); rw [hg1, va_up_ne _ _ hne, hgad]
            have hgr2 : g1 (22 + 4 * np) = .inr (2, [.null, .int 0, .int 0, .null, .long 0, .int 0, .long 0]) := by rw [hg1, va_up_self]
            have hDT : zD (fun _ => True) ((22 + 4 * np) :: Rs) ad1 := hD1.weak (fun _ _ => trivial)
            refine lv_dup hx hb dX3_begin_78 rfl ?_
            refine lv_aload_n hx hb dX3_begin_79 rfl (lv_at hl 1 rfl) ?_
            refine lv_iload_n hx hb dX3_begin_80 rfl (lv_at hl 2 rfl) ?_
            refine lv_iload_n hx hb dX3_begin_81 rfl (lv_at hl 3 rfl) ?_
            have e13 : ad1 13 = ad 13 := a1 13 (by omega)
            have hn0 : 20 + 4 * ng ∉ (22 + 4 * np) :: Rs := fun h => (List.mem_cons.mp h).elim (fun h => by omega) (hall.not (by omega) (fun i hi => ⟨by omega, by omega⟩) (fun j hj => ⟨by omega, by omega⟩))
            have hn1 : 21 + 4 * ng ∉ (22 + 4 * np) :: Rs := fun h => (List.mem_cons.mp h).elim (fun h => by omega) (hall.not (by omega) (fun i hi => ⟨by omega, by omega⟩) (fun j hj => ⟨by omega, by omega⟩))
            have hM := c_X3_joinGeneration_new (D := D) l (22 + 4 * np) hDT hI hgS1 hG30 te pr hg30 hcnt hn0 hn1 hf H.size
            rw [e13] at hM
            have t13 : va_at D vwCl (ad 13, gS ks ad1 np ng G MI MJ XI XJ 13) H := by have h1 := hP1.at (List.mem_cons_of_mem _ (hI.1 13 (by decide))) (hgS1 13 (hI.1 13 (by decide))); rw [e13] at h1; exact h1
            refine z_backA (z_runV ⟨hx, hb, hml, hown, hT⟩ (rest := [.ref q2, .ref q2, .int (nI np), .ref (ad 14)]) (As := [.int te, .int pr]) hM k_X3_70 (z_preWV hK hP1 t13 rfl) rfl ⟨Nat.le_of_ble_eq_true rfl, Nat.le_of_ble_eq_true rfl⟩ hl.1 rfl (Nat.le_of_ble_eq_true rfl) dX3_begin_82 ⟨Nat.le_of_ble_eq_true rfl, Nat.le_of_ble_eq_true rfl⟩) hS hAc (fun q H1 locs1 hB hz1 hS => ?_)
            obtain ⟨hq, qf, hqf, hP2, hDB⟩ := hB
            have hDA : zD (zA Rs ad s.heap.size) ((21 + 4 * ng) :: (20 + 4 * ng) :: (22 + 4 * np) :: Rs) (va_up (va_up ad1 (20 + 4 * ng) q) (21 + 4 * ng) qf) := hDB.weak hAc
            obtain ⟨ad2, had2⟩ : ∃ z, z = va_up (va_up ad1 (20 + 4 * ng) q) (21 + 4 * ng) qf := ⟨_, rfl⟩
            rw [← had2] at hP2 hDA
            have b1 : ∀ k, k ≠ 20 + 4 * ng → k ≠ 21 + 4 * ng → ad2 k = ad1 k := fun k h1 h2 => by rw [had2, va_up_ne _ _ h2, va_up_ne _ _ h1]
            have hr2m : 22 + 4 * np ∈ ((21 + 4 * ng) :: (20 + 4 * ng) :: (22 + 4 * np) :: Rs) := List.mem_cons_of_mem _ (List.mem_cons_of_mem _ List.mem_cons_self)
            have har2 : ad2 (22 + 4 * np) = q2 := (b1 _ (by omega) (by omega)).trans a2
            have hgr : (jG ks ad1 ng XI XJ te pr q qf g1) (22 + 4 * np) = .inr (2, [.null, .int 0, .int 0, .null, .long 0, .int 0, .long 0]) := by unfold jG; rw [va_up_ne _ _ (by omega), va_up_ne _ _ (by omega), va_up_ne _ _ (by omega), va_up_ne _ _ (by omega)]; exact hgr2
            have hn3 : 23 + 4 * np ∉ ((21 + 4 * ng) :: (20 + 4 * ng) :: (22 + 4 * np) :: Rs) := fun h => (List.mem_cons.mp h).elim (fun h => by omega) (fun h => (List.mem_cons.mp h).elim (fun h => by omega) (fun h => (List.mem_cons.mp h).elim (fun h => by omega) (hall.not (by omega) (fun i hi => ⟨by omega, by omega⟩) (fun j hj => ⟨by omega, by omega⟩))))
            refine lv_iload_n hx hb dX3_begin_85 rfl (lv_at hl 3 rfl) ?_
            refine lv_iload_n hx hb dX3_begin_86 rfl (lv_at hl 4 rfl) ?_
            have hDT2 : zD (fun _ => True) ((21 + 4 * ng) :: (20 + 4 * ng) :: (22 + 4 * np) :: Rs) ad2 := hDA.weak (fun _ _ => trivial)
            have hzH1 : s.heap.size ≤ H1.size := hS.1
            have hAc2 : ∀ x, zA ((21 + 4 * ng) :: (20 + 4 * ng) :: (22 + 4 * np) :: Rs) ad2 H1.size x → zA Rs ad s.heap.size x := hDA.free (fun x hx => hA x (Nat.le_trans hzH1 hx))
            refine z_backW0 (z_runIN ⟨hx, hb, hml, hown, hT⟩ hK (rest := [.ref q2, .int (nI np), .ref (ad 14)]) (As := [.ref q, .int pr, .int su]) (c_X2_init (D := D) (ks := ks) l hDT2 (22 + 4 * np) (23 + 4 * np) q2 hr2m har2 hn3 hgr q pr su H1.size) k_X3_74 (z_preW hK hP2) rfl ⟨Nat.le_of_ble_eq_true rfl, Nat.le_of_ble_eq_true rfl⟩ hl.1 rfl (Nat.le_of_ble_eq_true rfl) dX3_begin_87 ⟨Nat.le_of_ble_eq_true rfl, Nat.le_of_ble_eq_true rfl⟩) hS hAc2 (fun H2 locs2 hB hz2 hk2 hS => ?_)
            obtain ⟨qp, hqp, hP3, hDC⟩ := hB
            have hDE : zD (zA Rs ad s.heap.size) ((23 + 4 * np) :: (21 + 4 * ng) :: (20 + 4 * ng) :: (22 + 4 * np) :: Rs) (va_up ad2 (23 + 4 * np) qp) := hDC.weak hAc2
            obtain ⟨ad3, had3⟩ : ∃ z, z = va_up ad2 (23 + 4 * np) qp := ⟨_, rfl⟩
            rw [← had3] at hP3 hDE
            have c1 : ∀ k, k ≠ 22 + 4 * np → k ≠ 23 + 4 * np → k ≠ 20 + 4 * ng → k ≠ 21 + 4 * ng → ad3 k = ad k := fun k h1 h2 h3 h4 => by rw [had3, va_up_ne _ _ h2, b1 _ h3 h4, a1 _ h1]
            have e14 : ad3 14 = ad 14 := c1 14 (by omega) (by omega) (by omega) (by omega)
            have e13 : ad3 13 = ad 13 := c1 13 (by omega) (by omega) (by omega) (by omega)
            have e22 : ad3 (22 + 4 * np) = q2 := by rw [had3, va_up_ne _ _ (by omega)]; exact har2
            obtain ⟨g3, hg3⟩ : ∃ z, z = va_up (va_up (jG ks ad1 ng XI XJ te pr q qf g1) (22 + 4 * np) (.inr (2, [.ref q, .int pr, .int su, .ref qp, .long 0, .int 0, .long (-1)]))) (23 + 4 * np) (.inr (0, [.long 0])) := ⟨_, rfl⟩
            rw [← hg3] at hP3
            have g14 : g3 14 = gS ks ad1 np ng G MI MJ XI XJ 14 := by rw [hg3, va_up_ne _ _ (by omega), va_up_ne _ _ (by omega)]; unfold jG; rw [va_up_ne _ _ (by omega), va_up_ne _ _ (by omega), va_up_ne _ _ (by omega), va_up_ne _ _ (by omega)]; exact hgS1 14 (hI.1 14 (by decide))
            have g13 : g3 13 = .inr (3, [.ref (ad 14), .ref (ad 15), .ref (ad 16), .ref (ad 17), .int (XI 10 0), .int (nI (ng + 1)), .int (XI 10 2), .int (XI 10 3), .int (XI 10 4), .int (XI 10 5), .int (XI 10 6), .int (XI 10 7), .long (XJ 4 0), .long (XJ 4 1)]) := by rw [hg3, va_up_ne _ _ (by omega), va_up_ne _ _ (by omega)]; unfold jG; rw [va_up_self, a1 14 (by omega), a1 15 (by omega), a1 16 (by omega), a1 17 (by omega)]
            have g22 : g3 (22 + 4 * np) = .inr (2, [.ref q, .int pr, .int su, .ref qp, .long 0, .int 0, .long (-1)]) := by rw [hg3, va_up_ne _ _ (by omega), va_up_self]
            refine pa_past hx hb hK hP3 hDE hS (List.mem_cons_of_mem _ (List.mem_cons_of_mem _ (List.mem_cons_of_mem _ (List.mem_cons_of_mem _ (hI.1 14 (by decide)))))) e14 (g14.trans rfl) (List.mem_cons_of_mem _ hr2m) e22 g22 hnp dX3_begin_90 (fun H locs hP4 hS => ?_)
            refine lv_aload_n hx hb dX3_begin_91 rfl (lv_at hl 1 rfl) ?_
            refine lv_iload hx hb dX3_begin_92 (lv_at hl 0 rfl) ?_
            refine lv_iconst (v := 1) hx hb dX3_begin_94 (by decide) ?_
            refine lv_iadd hx hb dX3_begin_95 ?_
            rw [nI_1 np]
            refine pa_X3_62 hx hb hT hown hK hP4 hDE hS (List.mem_cons_of_mem _ (List.mem_cons_of_mem _ (List.mem_cons_of_mem _ (List.mem_cons_of_mem _ (hI.1 13 (by decide)))))) e13 ((va_up_ne _ _ (by decide)).trans g13) (Nat.le_of_ble_eq_true rfl) dX3_begin_96 (fun H locs hP5 hS => ?_)
            refine lv_iload hx hb dX3_begin_99 (lv_at hl 0 rfl) ?_
            refine zW_i hx hb hr hlk hS (Nat.le_of_ble_eq_true rfl) (Nat.le_of_ble_eq_true rfl) dX3_begin_101 rfl ⟨ad3, ((23 + 4 * np) :: (21 + 4 * ng) :: (20 + 4 * ng) :: (22 + 4 * np) :: Rs), ?_, ?_, ?_, hDE, hP5.cast ?_⟩
            · intro r hr
              have h22 : r ≠ 22 + 4 * np := fun h => hn2 (h ▸ hr)
              have h23 : r ≠ 23 + 4 * np := fun h => hn3 (h ▸ List.mem_cons_of_mem _ (List.mem_cons_of_mem _ (List.mem_cons_of_mem _ hr)))
              exact ⟨List.mem_cons_of_mem _ (List.mem_cons_of_mem _ (List.mem_cons_of_mem _ (List.mem_cons_of_mem _ (hr)))), c1 r h22 h23 (fun h => hn0 (h ▸ List.mem_cons_of_mem _ hr)) (fun h => hn1 (h ▸ List.mem_cons_of_mem _ hr))⟩
            · refine ⟨fun r h => List.mem_cons_of_mem _ (List.mem_cons_of_mem _ (List.mem_cons_of_mem _ (List.mem_cons_of_mem _ (hI.1 r h)))), fun i2 h2 => ?_, fun j2 h2 => ?_⟩
              · rcases Nat.lt_or_ge i2 ng with h | h
                · exact ⟨List.mem_cons_of_mem _ (List.mem_cons_of_mem _ (List.mem_cons_of_mem _ (List.mem_cons_of_mem _ ((hI.2.1 i2 h).1)))), List.mem_cons_of_mem _ (List.mem_cons_of_mem _ (List.mem_cons_of_mem _ (List.mem_cons_of_mem _ ((hI.2.1 i2 h).2))))⟩
                · rw [show i2 = ng by omega]; exact ⟨List.mem_cons_of_mem _ (List.mem_cons_of_mem _ List.mem_cons_self), List.mem_cons_of_mem _ List.mem_cons_self⟩
              · rcases Nat.lt_or_ge j2 np with h | h
                · exact ⟨List.mem_cons_of_mem _ (List.mem_cons_of_mem _ (List.mem_cons_of_mem _ (List.mem_cons_of_mem _ ((hI.2.2 j2 h).1)))), List.mem_cons_of_mem _ (List.mem_cons_of_mem _ (List.mem_cons_of_mem _ (List.mem_cons_of_mem _ ((hI.2.2 j2 h).2))))⟩
                · rw [show j2 = np by omega]; exact ⟨(List.mem_cons_of_mem _ hr2m), List.mem_cons_self⟩
            · intro r hr
              rcases List.mem_cons.mp hr with rfl | hr
              · exact Or.inr (Or.inr ⟨np, by omega, Or.inr rfl⟩)
              rcases List.mem_cons.mp hr with rfl | hr
              · exact Or.inr (Or.inl ⟨ng, by omega, Or.inr rfl⟩)
              rcases List.mem_cons.mp hr with rfl | hr
              · exact Or.inr (Or.inl ⟨ng, by omega, Or.inl rfl⟩)
              rcases List.mem_cons.mp hr with rfl | hr
              · exact Or.inr (Or.inr ⟨np, by omega, Or.inl rfl⟩)
              rcases hall r hr with h | ⟨i2, h2, h⟩ | ⟨j2, h2, h⟩
              · exact Or.inl h
              · exact Or.inr (Or.inl ⟨i2, by omega, h⟩)
              · exact Or.inr (Or.inr ⟨j2, by omega, h⟩)
            · intro r hr
              have ha : ∀ r ∈ Rs, ad3 r = ad r := fun r hr => c1 r (fun h => hn2 (h ▸ hr)) (fun h => hn3 (h ▸ List.mem_cons_of_mem _ (List.mem_cons_of_mem _ (List.mem_cons_of_mem _ hr)))) (fun h => hn0 (h ▸ List.mem_cons_of_mem _ hr)) (fun h => hn1 (h ▸ List.mem_cons_of_mem _ hr))
              have e3 : ad3 (23 + 4 * np) = qp := by rw [had3, va_up_self]
              by_cases h13 : r = 13
              · subst h13; rw [va_up_self, gS_lo (by decide)]; simp only [gLo, eOff]; rw [e14, c1 15 (by omega) (by omega) (by omega) (by omega), c1 16 (by omega) (by omega) (by omega) (by omega), c1 17 (by omega) (by omega) (by omega) (by omega)]; simp [bI, bJ, nIx, nJx, u2]
              by_cases h14 : r = 14
              · subst h14; rw [va_up_ne _ _ h13, va_up_self, gS_lo (by decide)]; simp only [gLo]; rw [show rPol ad3 (np + 1) = va_up (rPol ad1 np) np (some q2) from ?_]
                funext k; simp only [rPol, va_up]
                by_cases hk : k = np
                · subst hk; rw [if_pos (by omega), if_pos rfl, e22]
                · rw [if_neg hk]; by_cases hk2 : k < np
                  · rw [if_pos (by omega), if_pos hk2, c1 _ (by omega) (by omega) (by omega) (by omega), a1 _ (by omega)]
                  · rw [if_neg (by omega), if_neg hk2]
              rw [va_up_ne _ _ h13, va_up_ne _ _ h14]
              by_cases h23 : r = 23 + 4 * np
              · subst h23; rw [hg3, va_up_self, gS_3]; simp only [gHi]; simp [bJ, u2]
              have eq0 : ad3 (20 + 4 * ng) = q := by rw [had3, va_up_ne _ _ (by omega), had2, va_up_ne _ _ (by omega), va_up_self]
              have eq1 : ad3 (21 + 4 * ng) = qf := by rw [had3, va_up_ne _ _ (by omega), had2, va_up_self]
              by_cases h22 : r = 22 + 4 * np
              · subst h22; rw [g22, gS_2]; simp only [gHi]; rw [e3, show bG G np ng np = ng from if_pos rfl, eq0]; simp [bI, bJ, nIx, nJx, u2]
              rw [hg3, va_up_ne _ _ h23, va_up_ne _ _ h22]
              unfold jG
              rw [va_up_ne _ _ h13]
              by_cases h15 : r = 15
              · subst h15; rw [va_up_self, gS_lo (by decide)]; simp only [gLo]; rw [show rGen ad3 (ng + 1) = va_up (rGen ad1 ng) ng (some q) from ?_]
                funext k; simp only [rGen, va_up]
                by_cases hk : k = ng
                · subst hk; rw [if_pos (by omega), if_pos rfl, eq0]
                · rw [if_neg hk]; by_cases hk2 : k < ng
                  · rw [if_pos (by omega), if_pos hk2, c1 _ (by omega) (by omega) (by omega) (by omega), a1 _ (by omega)]
                  · rw [if_neg (by omega), if_neg hk2]
              rw [va_up_ne _ _ h15]
              by_cases h21 : r = 21 + 4 * ng
              · subst h21; rw [va_up_self, gS_1]; simp only [gHi]; simp [bJ, nJx, u2]
              by_cases h20 : r = 20 + 4 * ng
              · subst h20; rw [va_up_ne _ _ h21, va_up_self, gS_0]; simp only [gHi]; rw [eq1]; simp [bI, bJ, nIx, nJx, u2]
              rw [va_up_ne _ _ h21, va_up_ne _ _ h20]
              have hr : r ∈ Rs := (List.mem_cons.mp ((List.mem_cons.mp ((List.mem_cons.mp ((List.mem_cons.mp hr).resolve_left h23)).resolve_left h21)).resolve_left h20)).resolve_left h22
              rw [hgS1 r hr, ← hgad]
              exact gS_more hall hI hG ha (by intro j hj; simp [bG, Nat.ne_of_lt hj]) (by simp [bI, bJ, bG, nIx, nJx, u2]) (by simp [bI, bJ, bG, nIx, nJx, u2]) (by intro k hk; simp [bI, bJ, bG, nIx, nJx, u2, Nat.ne_of_lt hk]) (by intro k hk; simp [bI, bJ, bG, nIx, nJx, u2, Nat.ne_of_lt hk]) (by intro k hk; simp [bI, bJ, bG, nIx, nJx, u2, Nat.ne_of_lt hk]) (by intro k hk; simp [bI, bJ, bG, nIx, nJx, u2, Nat.ne_of_lt hk]) (by intro k hk; simp [bI, bJ, bG, nIx, nJx, u2, Nat.ne_of_lt hk]) (by intro k hk; simp [bI, bJ, bG, nIx, nJx, u2, Nat.ne_of_lt hk]) (by intro k hk; simp [bI, bJ, bG, nIx, nJx, u2, Nat.ne_of_lt hk]) (by intro k hk; simp [bI, bJ, bG, nIx, nJx, u2, Nat.ne_of_lt hk]) (by intro k hk; simp [bI, bJ, bG, nIx, nJx, u2, Nat.ne_of_lt hk]) (by intro k hk; simp [bI, bJ, bG, nIx, nJx, u2, Nat.ne_of_lt hk]) r hr h13 h14 h15
          · exact absurd (nI_lt (a := np) (b := 30) hnp (by decide)) c_5
      · exact absurd ((h2).symm.trans c_3) (by decide)
end ZB3
end
section
/-! the constructors of the office and of the reference -/
section ZB4
variable {D : va_G} {ks : Nat → ClassId} {ad : Nat → Nat} {np ng : Nat} {G : Nat → Nat} {MI : Nat → Nat → Int32} {MJ : Nat → Nat → Int64} {XI : Nat → Nat → Int32} {XJ : Nat → Nat → Int64} {Rs : List Nat}
section
variable {p : Program} {l : Launch} {e : Env} {R : Room} {s : State} {m : MethodId} {args : Array Value} {below : List Frame} {meth : Method} {c : Code} {H : Heap} {locs : List Loc} {cells slots : Nat} {Q : State → Prop}
variable {cc : ByteArray} {pc : Nat} {ls : Array Slot} {rest : List Value} {A : Nat → Prop} {g : Nat → va_E}
theorem z_app {q r : Nat} {e0 : va_E} (hP : va_P D vwCl (zL Rs ad g ++ [(q, e0)]) H) (hD : va_D A (zL Rs ad g ++ [(q, e0)])) (hD0 : zD A Rs ad) (hr : r ∉ Rs) : zP D (r :: Rs) (va_up ad r q) (va_up g r e0) H ∧ zD A (r :: Rs) (va_up ad r q) := by
  have hl : (zL Rs ad g).length = Rs.length := by simp [zL]
  have hq : (zL Rs ad g ++ [(q, e0)])[Rs.length]? = some (q, e0) := by rw [← hl]; simp
  refine ⟨zP.push (fun x hx => ?_) (hP _ _ hq) hr, hD0.push hr (fun x hx e => ?_) (hD.2 _ _ hq)⟩
  · obtain ⟨k, h1, h2⟩ := zL_at g hx (ad := ad)
    exact hP k (ad x, g x) (by rw [List.getElem?_append_left (List.getElem?_eq_some_iff.mp h2).1]; exact h2)
  · obtain ⟨k, h1, h2⟩ := zL_at g hx (ad := ad)
    have hlt := (List.getElem?_eq_some_iff.mp h2).1
    have := hD.1 k Rs.length (ad x, g x) (q, e0) (by rw [List.getElem?_append_left hlt]; exact h2) hq e
    omega
theorem z_newq (hx : p.tables.exec = Jvm.exec) (hb : c.code = cc) (hT : ∀ w ∈ WS, w.before args s = true) {own C : String} {index k : Nat} (hown : s.vm.findClass own = some m.cls) (hcl : Cond.classLink own index C ∈ WS) (hover : va_AO C s) (hK : zK D ks s) (hk : (zT ks)[k]? = some (ks k, .object C)) (hP : zP D Rs ad g H) (hD : zD A Rs ad) (hS : va_S A s.heap H locs) (hA : ∀ q : Nat, s.heap.size ≤ q → A q) {r : Nat} (hr : r ∉ Rs) {n : Int32} {N : Nat} (hn : ¬ n < 0) (hN : n.toNatClampNeg = N) (hbytes : N * 4 ≤ 536870912) (hcells : cells + 1 ≤ R.cells) (hslots : slots + N ≤ R.slots) (hdg : decode cc pc = .ok (.anewarray index, 3))
    (kk : ∀ (q : Nat) (H1 : Heap), zP D (r :: Rs) (va_up ad r q) (va_up g r (aQ (ks k) N (fun _ => none))) H1 → zD A (r :: Rs) (va_up ad r q) → va_S A s.heap H1 locs → W p l e R s m args below meth c H1 locs (cells + 1) (slots + N) Q (F0 m (pc + 3) ls (.ref q :: rest))) : W p l e R s m args below meth c H locs cells slots Q (F0 m pc ls (.int n :: rest)) := by
  refine va_newq hx hb hown (hT _ hcl) hover hK.1 hP.ws (hD.ws g) hS hA hn hN hbytes hcells hslots hdg (fun q cA H1 hK1 hP1 hD1 hS1 => ?_)
  have h4 := (hK1.2 4 (cA, .object C) rfl).2
  have h0 := (hK.1.2 k _ hk).2
  obtain ⟨kA, comp, -, -, -, h5⟩ := h4
  obtain ⟨kA2, comp2, -, -, -, h6⟩ := h0
  have hc : cA = ks k := Option.some.inj (h5.symm.trans h6)
  subst hc
  obtain ⟨z1, z2⟩ := z_app hP1 hD1 hD hr
  exact kk q H1 z1 z2 hS1
theorem z_newJ (hx : p.tables.exec = Jvm.exec) (hb : c.code = cc) (hT : ∀ w ∈ WS, w.before args s = true) (hK : zK D ks s) (hP : zP D Rs ad g H) (hD : zD A Rs ad) (hS : va_S A s.heap H locs) (hA : ∀ q : Nat, s.heap.size ≤ q → A q) {r : Nat} (hr : r ∉ Rs) {n : Int32} {N : Nat} (hn : ¬ n < 0) (hN : n.toNatClampNeg = N) (hbytes : N * componentBytes .long ≤ 536870912) (hcells : cells + 1 ≤ R.cells) (hslots : slots + N ≤ R.slots) (hdg : decode cc pc = .ok (.newarray .long, 2))
    (kk : ∀ (q : Nat) (H1 : Heap), zP D (r :: Rs) (va_up ad r q) (va_up g r (aJ (ks 1) N (fun _ => 0))) H1 → zD A (r :: Rs) (va_up ad r q) → va_S A s.heap H1 locs → W p l e R s m args below meth c H1 locs (cells + 1) (slots + N) Q (F0 m (pc + 2) ls (.ref q :: rest))) : W p l e R s m args below meth c H locs cells slots Q (F0 m pc ls (.int n :: rest)) := by
  refine va_newa (atype := .long) (a0 := (N, .inr (.inl (fun _ => 0)))) hx hb (hT _ ac_long) rfl hK.1 hP.ws (hD.ws g) hS hA (fun cA => rfl) hn hN hbytes hcells hslots hdg (fun q cA H1 hK1 hP1 hD1 hS1 => ?_)
  have h4 : s.vm.findClass _ = some cA := (hK1.2 4 (cA, .long) rfl).2
  have h0 : s.vm.findClass _ = some (ks 1) := (hK.1.2 1 (ks 1, .long) rfl).2
  have hc : cA = ks 1 := Option.some.inj (h4.symm.trans h0)
  subst hc
  obtain ⟨z1, z2⟩ := z_app hP1 hD1 hD hr
  exact kk q H1 z1 z2 hS1
theorem pa_X3_11 {a : Nat} (hx : p.tables.exec = Jvm.exec) (hb : c.code = cc) (hT : ∀ w ∈ WS, w.before args s = true) (hown : s.vm.findClass RX3 = some m.cls) (hK : zK D ks s) (hin : meth.name = "<init>") (hP : zP D Rs ad g H) (hD : zD A Rs ad) (hS : va_S A s.heap H locs) {r : Nat} (hr : r ∈ Rs) (har : ad r = a) {fs : List Value} {v : Nat} (he : g r = .inr (3, fs)) (hl : 0 < fs.length) (hdg : decode cc pc = .ok (.putfield 11, 3)) (kk : ∀ (H1 : Heap) (locs1 : List Loc), zP D Rs ad (va_up g r (.inr (3, fs.set 0 (.ref v)))) H1 → va_S A s.heap H1 locs1 → W p l e R s m args below meth c H1 locs1 cells slots Q (F0 m (pc + 3) ls rest)) : W p l e R s m args below meth c H locs cells slots Q (F0 m pc ls (.ref v :: .ref a :: rest)) := by
  subst har
  exact pg_X3_11 hx hb hT hown hK hin hP hD hS hr he hl hdg kk
theorem pa_X3_17 {a : Nat} (hx : p.tables.exec = Jvm.exec) (hb : c.code = cc) (hT : ∀ w ∈ WS, w.before args s = true) (hown : s.vm.findClass RX3 = some m.cls) (hK : zK D ks s) (hin : meth.name = "<init>") (hP : zP D Rs ad g H) (hD : zD A Rs ad) (hS : va_S A s.heap H locs) {r : Nat} (hr : r ∈ Rs) (har : ad r = a) {fs : List Value} {v : Nat} (he : g r = .inr (3, fs)) (hl : 1 < fs.length) (hdg : decode cc pc = .ok (.putfield 17, 3)) (kk : ∀ (H1 : Heap) (locs1 : List Loc), zP D Rs ad (va_up g r (.inr (3, fs.set 1 (.ref v)))) H1 → va_S A s.heap H1 locs1 → W p l e R s m args below meth c H1 locs1 cells slots Q (F0 m (pc + 3) ls rest)) : W p l e R s m args below meth c H locs cells slots Q (F0 m pc ls (.ref v :: .ref a :: rest)) := by
  subst har
  exact pg_X3_17 hx hb hT hown hK hin hP hD hS hr he hl hdg kk
theorem pa_X3_21 {a : Nat} (hx : p.tables.exec = Jvm.exec) (hb : c.code = cc) (hT : ∀ w ∈ WS, w.before args s = true) (hown : s.vm.findClass RX3 = some m.cls) (hK : zK D ks s) (hin : meth.name = "<init>") (hP : zP D Rs ad g H) (hD : zD A Rs ad) (hS : va_S A s.heap H locs) {r : Nat} (hr : r ∈ Rs) (har : ad r = a) {fs : List Value} {v : Nat} (he : g r = .inr (3, fs)) (hl : 2 < fs.length) (hdg : decode cc pc = .ok (.putfield 21, 3)) (kk : ∀ (H1 : Heap) (locs1 : List Loc), zP D Rs ad (va_up g r (.inr (3, fs.set 2 (.ref v)))) H1 → va_S A s.heap H1 locs1 → W p l e R s m args below meth c H1 locs1 cells slots Q (F0 m (pc + 3) ls rest)) : W p l e R s m args below meth c H locs cells slots Q (F0 m pc ls (.ref v :: .ref a :: rest)) := by
  subst har
  exact pg_X3_21 hx hb hT hown hK hin hP hD hS hr he hl hdg kk
theorem pa_X3_25 {a : Nat} (hx : p.tables.exec = Jvm.exec) (hb : c.code = cc) (hT : ∀ w ∈ WS, w.before args s = true) (hown : s.vm.findClass RX3 = some m.cls) (hK : zK D ks s) (hin : meth.name = "<init>") (hP : zP D Rs ad g H) (hD : zD A Rs ad) (hS : va_S A s.heap H locs) {r : Nat} (hr : r ∈ Rs) (har : ad r = a) {fs : List Value} {v : Nat} (he : g r = .inr (3, fs)) (hl : 3 < fs.length) (hdg : decode cc pc = .ok (.putfield 25, 3)) (kk : ∀ (H1 : Heap) (locs1 : List Loc), zP D Rs ad (va_up g r (.inr (3, fs.set 3 (.ref v)))) H1 → va_S A s.heap H1 locs1 → W p l e R s m args below meth c H1 locs1 cells slots Q (F0 m (pc + 3) ls rest)) : W p l e R s m args below meth c H locs cells slots Q (F0 m pc ls (.ref v :: .ref a :: rest)) := by
  subst har
  exact pg_X3_25 hx hb hT hown hK hin hP hD hS hr he hl hdg kk
theorem pa_X3_30 {a : Nat} (hx : p.tables.exec = Jvm.exec) (hb : c.code = cc) (hT : ∀ w ∈ WS, w.before args s = true) (hown : s.vm.findClass RX3 = some m.cls) (hK : zK D ks s) (hP : zP D Rs ad g H) (hD : zD A Rs ad) (hS : va_S A s.heap H locs) {r : Nat} (hr : r ∈ Rs) (har : ad r = a) {fs : List Value} {v : Int32} (he : g r = .inr (3, fs)) (hl : 7 < fs.length) (hdg : decode cc pc = .ok (.putfield 30, 3)) (kk : ∀ (H1 : Heap) (locs1 : List Loc), zP D Rs ad (va_up g r (.inr (3, fs.set 7 (.int v)))) H1 → va_S A s.heap H1 locs1 → W p l e R s m args below meth c H1 locs1 cells slots Q (F0 m (pc + 3) ls rest)) : W p l e R s m args below meth c H locs cells slots Q (F0 m pc ls (.int v :: .ref a :: rest)) := by
  subst har
  exact pg_X3_30 hx hb hT hown hK hP hD hS hr he hl hdg kk
theorem pa_X3_34 {a : Nat} (hx : p.tables.exec = Jvm.exec) (hb : c.code = cc) (hT : ∀ w ∈ WS, w.before args s = true) (hown : s.vm.findClass RX3 = some m.cls) (hK : zK D ks s) (hP : zP D Rs ad g H) (hD : zD A Rs ad) (hS : va_S A s.heap H locs) {r : Nat} (hr : r ∈ Rs) (har : ad r = a) {fs : List Value} {v : Int32} (he : g r = .inr (3, fs)) (hl : 8 < fs.length) (hdg : decode cc pc = .ok (.putfield 34, 3)) (kk : ∀ (H1 : Heap) (locs1 : List Loc), zP D Rs ad (va_up g r (.inr (3, fs.set 8 (.int v)))) H1 → va_S A s.heap H1 locs1 → W p l e R s m args below meth c H1 locs1 cells slots Q (F0 m (pc + 3) ls rest)) : W p l e R s m args below meth c H locs cells slots Q (F0 m pc ls (.int v :: .ref a :: rest)) := by
  subst har
  exact pg_X3_34 hx hb hT hown hK hP hD hS hr he hl hdg kk
theorem pa_X3_37 {a : Nat} (hx : p.tables.exec = Jvm.exec) (hb : c.code = cc) (hT : ∀ w ∈ WS, w.before args s = true) (hown : s.vm.findClass RX3 = some m.cls) (hK : zK D ks s) (hP : zP D Rs ad g H) (hD : zD A Rs ad) (hS : va_S A s.heap H locs) {r : Nat} (hr : r ∈ Rs) (har : ad r = a) {fs : List Value} {v : Int32} (he : g r = .inr (3, fs)) (hl : 9 < fs.length) (hdg : decode cc pc = .ok (.putfield 37, 3)) (kk : ∀ (H1 : Heap) (locs1 : List Loc), zP D Rs ad (va_up g r (.inr (3, fs.set 9 (.int v)))) H1 → va_S A s.heap H1 locs1 → W p l e R s m args below meth c H1 locs1 cells slots Q (F0 m (pc + 3) ls rest)) : W p l e R s m args below meth c H locs cells slots Q (F0 m pc ls (.int v :: .ref a :: rest)) := by
  subst har
  exact pg_X3_37 hx hb hT hown hK hP hD hS hr he hl hdg kk
theorem pa_X3_40 {a : Nat} (hx : p.tables.exec = Jvm.exec) (hb : c.code = cc) (hT : ∀ w ∈ WS, w.before args s = true) (hown : s.vm.findClass RX3 = some m.cls) (hK : zK D ks s) (hP : zP D Rs ad g H) (hD : zD A Rs ad) (hS : va_S A s.heap H locs) {r : Nat} (hr : r ∈ Rs) (har : ad r = a) {fs : List Value} {v : Int32} (he : g r = .inr (3, fs)) (hl : 10 < fs.length) (hdg : decode cc pc = .ok (.putfield 40, 3)) (kk : ∀ (H1 : Heap) (locs1 : List Loc), zP D Rs ad (va_up g r (.inr (3, fs.set 10 (.int v)))) H1 → va_S A s.heap H1 locs1 → W p l e R s m args below meth c H1 locs1 cells slots Q (F0 m (pc + 3) ls rest)) : W p l e R s m args below meth c H locs cells slots Q (F0 m pc ls (.int v :: .ref a :: rest)) := by
  subst har
  exact pg_X3_40 hx hb hT hown hK hP hD hS hr he hl hdg kk
theorem pa_X3_43 {a : Nat} (hx : p.tables.exec = Jvm.exec) (hb : c.code = cc) (hT : ∀ w ∈ WS, w.before args s = true) (hown : s.vm.findClass RX3 = some m.cls) (hK : zK D ks s) (hP : zP D Rs ad g H) (hD : zD A Rs ad) (hS : va_S A s.heap H locs) {r : Nat} (hr : r ∈ Rs) (har : ad r = a) {fs : List Value} {v : Int32} (he : g r = .inr (3, fs)) (hl : 11 < fs.length) (hdg : decode cc pc = .ok (.putfield 43, 3)) (kk : ∀ (H1 : Heap) (locs1 : List Loc), zP D Rs ad (va_up g r (.inr (3, fs.set 11 (.int v)))) H1 → va_S A s.heap H1 locs1 → W p l e R s m args below meth c H1 locs1 cells slots Q (F0 m (pc + 3) ls rest)) : W p l e R s m args below meth c H locs cells slots Q (F0 m pc ls (.int v :: .ref a :: rest)) := by
  subst har
  exact pg_X3_43 hx hb hT hown hK hP hD hS hr he hl hdg kk
end
def cF (n : Nat) : Nat → Int64 := fun j => if j < n then -1 else 0
theorem cF_up (n : Nat) : vp_updL (cF n) n (-1) = cF (n + 1) := by
  funext j
  unfold vp_updL cF
  by_cases h : j = n
  · subst h; simp
  · simp only [h]; by_cases h2 : j < n
    · simp [h2, show j < n + 1 by omega]
    · simp [h2, show ¬ j < n + 1 by omega]
theorem cF_0 : cF 0 = fun _ => 0 := by funext j; simp [cF]
/-- what a constructor of the office leaves -/
def nX3 (D : va_G) (ks : Nat → ClassId) (Rs : List Nat) (ad : Nat → Nat) (g : Nat → va_E) (sz : Nat) (H : Heap) : Prop := ∃ (ad' : Nat → Nat) (g' : Nat → va_E), (∀ r ∈ Rs, ad' r = ad r) ∧ (∀ r ∈ Rs, r ≠ 13 → g' r = g r) ∧
  g' 13 = .inr (3, [.ref (ad' 14), .ref (ad' 15), .ref (ad' 16), .ref (ad' 17), .int 0, .int 0, .int 0, .int 20, .int 5, .int 1000, .int 100, .int 500, .long 0, .long 0]) ∧ g' 14 = aQ (ks 3) 30 (fun _ => none) ∧ g' 15 = aQ (ks 2) 30 (fun _ => none) ∧ g' 16 = aJ (ks 1) 21 (cF 21) ∧ g' 17 = aJ (ks 1) 21 (fun _ => 0) ∧
  zP D (17 :: 16 :: 15 :: 14 :: Rs) ad' g' H ∧ zD (zA Rs ad sz) (17 :: 16 :: 15 :: 14 :: Rs) ad' 
set_option maxHeartbeats 4000000 in
set_option maxRecDepth 100000 in
theorem c_X3_init (l : Launch) (hD0 : zD (fun _ => True) Rs ad) {g : Nat → va_E} (h0m : 13 ∈ Rs) (hn14 : 14 ∉ Rs) (hn15 : 15 ∉ Rs) (hn16 : 16 ∉ Rs) (hn17 : 17 ∉ Rs) (he : g 13 = .inr (3, [.null, .null, .null, .null, .int 0, .int 0, .int 0, .int 0, .int 0, .int 0, .int 0, .int 0, .long 0, .long 0])) (sz : Nat) :
    Met l yX3_init (Cond.code yX3_init cX3_init 2 none :: WS) (zRm 2 32 4 102) (fun a s => zPW D ks sz [.ref (ad 13)] (zP D Rs ad g) a s ∧ va_AO RX2 s ∧ va_AO RX1 s) (zQW none (nX3 D ks Rs ad g sz) (zA Rs ad sz)) 4 102 (zA Rs ad sz) := by
  refine Met.ofW (cc := cX3_init) (maxL := 2) (ret := none) (by decide +kernel) rfl ?_
  intro p e s m args below meth c s₁ B hml hv
  obtain ⟨⟨rfl, hsz, hP, hK⟩, hO2, hO1⟩ := hv
  rw [lg_entry_eq]
  have hx := B.exec
  have hb := B.bytes
  have hr := B.returns
  have hown : s.vm.findClass RX3 = some m.cls := findClass_of_methodNamed B.named
  have hlk := B.notSynchronized
  have hin : meth.name = "<init>" := (name_of_methodNamed B.named B.method).1
  have hT : ∀ w ∈ WS, w.before #[.ref (ad 13)] s = true := fun w hw => atoms_spec (ws := Cond.code yX3_init cX3_init 2 none :: WS) B.pre w (List.mem_cons_of_mem _ hw)
  have hl := lv_entry [.ref (ad 13)] (n := 2) (Nat.le_of_ble_eq_true rfl)
  generalize (lg_sl ([.ref (ad 13)]) ++ List.replicate (2 - (lg_sl ([.ref (ad 13)])).length) Slot.unset).toArray = ls at hl ⊢
  have hl : lv_has ls 2 [(0, .ref (ad 13))] := hl
  subst hsz
  have hD := hD0.self (sz := s.heap.size)
  have hA : ∀ q : Nat, s.heap.size ≤ q → zA Rs ad s.heap.size q := fun q h => Or.inr h
  have hS : va_S (zA Rs ad s.heap.size) s.heap s.heap [] := va_S.rf
  refine lv_aload_n hx hb dX3_init_0 rfl (lv_at hl 0 rfl) ?_
  refine z_obj hx hb hT hown ml_X3_1 hml hl.1 dX3_init_1 (Nat.le_of_ble_eq_true rfl) (Nat.le_of_ble_eq_true rfl) ?_
  refine lv_aload_n hx hb dX3_init_4 rfl (lv_at hl 0 rfl) ?_
  refine lv_bipush (v := 30) hx hb dX3_init_5 (by decide) ?_
  have hn0_14 : 14 ∉ Rs := hn14
  refine z_newq (k := 3) (r := 14) (N := 30) hx hb hT hown cl_X3_9 hO2 hK rfl hP hD hS hA hn0_14 (by decide) (by decide) (Nat.le_of_ble_eq_true rfl) (Nat.le_of_ble_eq_true rfl) (Nat.le_of_ble_eq_true rfl) dX3_init_7 (fun q14 H hP hD hS => ?_)
  obtain ⟨g1, hg1⟩ : ∃ z, z = va_up g 14 (aQ (ks 3) 30 (fun _ => none)) := ⟨_, rfl⟩
  rw [← hg1] at hP
  obtain ⟨ad1, had1⟩ : ∃ z, z = va_up ad 14 q14 := ⟨_, rfl⟩
  rw [← had1] at hP hD
  have a1_13 := (congrFun had1 13).trans ((va_up_ne _ _ (by decide)).trans rfl)
  have a1_14 : ad1 14 = q14 := by rw [had1, va_up_self]
  have hAo1 : ∀ r ∈ Rs, ad1 r = ad r := fun r hr => by rw [had1, va_up_ne _ _ (show r ≠ 14 from fun h => hn14 (h ▸ hr))]
  have e1_13 : g1 13 = Sum.inr (3, [.null, .null, .null, .null, .int 0, .int 0, .int 0, .int 0, .int 0, .int 0, .int 0, .int 0, .long 0, .long 0]) := by rw [hg1, va_up_ne _ _ (by decide)]; exact he
  have e1_14 : g1 14 = aQ (ks 3) 30 (fun _ => none) := by rw [hg1, va_up_self]
  have hGo1 : ∀ r ∈ Rs, r ≠ 13 → g1 r = g r := fun r hr h => by rw [hg1, va_up_ne _ _ (show r ≠ 14 from fun h2 => hn14 (h2 ▸ hr))]
  refine pa_X3_11 hx hb hT hown hK hin hP hD hS (List.mem_cons_of_mem _ h0m) a1_13 e1_13 (Nat.le_of_ble_eq_true rfl) dX3_init_10 (fun H locs hP hS => ?_)
  obtain ⟨g2, hg2⟩ : ∃ z, z = va_up g1 13 (.inr (3, List.set [.null, .null, .null, .null, .int 0, .int 0, .int 0, .int 0, .int 0, .int 0, .int 0, .int 0, .long 0, .long 0] 0 (.ref q14))) := ⟨_, rfl⟩
  rw [← hg2] at hP
  have e2_13 : g2 13 = Sum.inr (3, [.ref q14, .null, .null, .null, .int 0, .int 0, .int 0, .int 0, .int 0, .int 0, .int 0, .int 0, .long 0, .long 0]) := by rw [hg2, va_up_self]; rfl
  have e2_14 : g2 14 = aQ (ks 3) 30 (fun _ => none) := by rw [hg2, va_up_ne _ _ (by decide)]; exact e1_14
  have hGo2 : ∀ r ∈ Rs, r ≠ 13 → g2 r = g r := fun r hr h => by rw [hg2, va_up_ne _ _ h]; exact hGo1 r hr h
  refine lv_aload_n hx hb dX3_init_13 rfl (lv_at hl 0 rfl) ?_
  refine lv_bipush (v := 30) hx hb dX3_init_14 (by decide) ?_
  have hn2_15 : 15 ∉ (14 :: Rs) := by simp only [List.mem_cons, not_or]; exact ⟨by decide, hn15⟩
  refine z_newq (k := 2) (r := 15) (N := 30) hx hb hT hown cl_X3_15 hO1 hK rfl hP hD hS hA hn2_15 (by decide) (by decide) (Nat.le_of_ble_eq_true rfl) (Nat.le_of_ble_eq_true rfl) (Nat.le_of_ble_eq_true rfl) dX3_init_16 (fun q15 H hP hD hS => ?_)
  obtain ⟨g3, hg3⟩ : ∃ z, z = va_up g2 15 (aQ (ks 2) 30 (fun _ => none)) := ⟨_, rfl⟩
  rw [← hg3] at hP
  obtain ⟨ad3, had3⟩ : ∃ z, z = va_up ad1 15 q15 := ⟨_, rfl⟩
  rw [← had3] at hP hD
  have a3_13 := (congrFun had3 13).trans ((va_up_ne _ _ (by decide)).trans a1_13)
  have a3_14 := (congrFun had3 14).trans ((va_up_ne _ _ (by decide)).trans a1_14)
  have a3_15 : ad3 15 = q15 := by rw [had3, va_up_self]
  have hAo3 : ∀ r ∈ Rs, ad3 r = ad r := fun r hr => by rw [had3, va_up_ne _ _ (show r ≠ 15 from fun h => hn15 (h ▸ hr))]; exact hAo1 r hr
  have e3_13 : g3 13 = Sum.inr (3, [.ref q14, .null, .null, .null, .int 0, .int 0, .int 0, .int 0, .int 0, .int 0, .int 0, .int 0, .long 0, .long 0]) := by rw [hg3, va_up_ne _ _ (by decide)]; exact e2_13
  have e3_14 : g3 14 = aQ (ks 3) 30 (fun _ => none) := by rw [hg3, va_up_ne _ _ (by decide)]; exact e2_14
  have e3_15 : g3 15 = aQ (ks 2) 30 (fun _ => none) := by rw [hg3, va_up_self]
  have hGo3 : ∀ r ∈ Rs, r ≠ 13 → g3 r = g r := fun r hr h => by rw [hg3, va_up_ne _ _ (show r ≠ 15 from fun h2 => hn15 (h2 ▸ hr))]; exact hGo2 r hr h
  refine pa_X3_17 hx hb hT hown hK hin hP hD hS (List.mem_cons_of_mem _ (List.mem_cons_of_mem _ h0m)) a3_13 e3_13 (Nat.le_of_ble_eq_true rfl) dX3_init_19 (fun H locs hP hS => ?_)
  obtain ⟨g4, hg4⟩ : ∃ z, z = va_up g3 13 (.inr (3, List.set [.ref q14, .null, .null, .null, .int 0, .int 0, .int 0, .int 0, .int 0, .int 0, .int 0, .int 0, .long 0, .long 0] 1 (.ref q15))) := ⟨_, rfl⟩
  rw [← hg4] at hP
  have e4_13 : g4 13 = Sum.inr (3, [.ref q14, .ref q15, .null, .null, .int 0, .int 0, .int 0, .int 0, .int 0, .int 0, .int 0, .int 0, .long 0, .long 0]) := by rw [hg4, va_up_self]; rfl
  have e4_14 : g4 14 = aQ (ks 3) 30 (fun _ => none) := by rw [hg4, va_up_ne _ _ (by decide)]; exact e3_14
  have e4_15 : g4 15 = aQ (ks 2) 30 (fun _ => none) := by rw [hg4, va_up_ne _ _ (by decide)]; exact e3_15
  have hGo4 : ∀ r ∈ Rs, r ≠ 13 → g4 r = g r := fun r hr h => by rw [hg4, va_up_ne _ _ h]; exact hGo3 r hr h
  refine lv_aload_n hx hb dX3_init_22 rfl (lv_at hl 0 rfl) ?_
  refine lv_bipush (v := 21) hx hb dX3_init_23 (by decide) ?_
  have hn4_16 : 16 ∉ (15 :: 14 :: Rs) := by simp only [List.mem_cons, not_or]; exact ⟨by decide, by decide, hn16⟩
  refine z_newJ (r := 16) (N := 21) hx hb hT hK hP hD hS hA hn4_16 (by decide) (by decide) (by decide) (Nat.le_of_ble_eq_true rfl) (Nat.le_of_ble_eq_true rfl) dX3_init_25 (fun q16 H hP hD hS => ?_)
  obtain ⟨g5, hg5⟩ : ∃ z, z = va_up g4 16 (aJ (ks 1) 21 (fun _ => 0)) := ⟨_, rfl⟩
  rw [← hg5] at hP
  obtain ⟨ad5, had5⟩ : ∃ z, z = va_up ad3 16 q16 := ⟨_, rfl⟩
  rw [← had5] at hP hD
  have a5_13 := (congrFun had5 13).trans ((va_up_ne _ _ (by decide)).trans a3_13)
  have a5_14 := (congrFun had5 14).trans ((va_up_ne _ _ (by decide)).trans a3_14)
  have a5_15 := (congrFun had5 15).trans ((va_up_ne _ _ (by decide)).trans a3_15)
  have a5_16 : ad5 16 = q16 := by rw [had5, va_up_self]
  have hAo5 : ∀ r ∈ Rs, ad5 r = ad r := fun r hr => by rw [had5, va_up_ne _ _ (show r ≠ 16 from fun h => hn16 (h ▸ hr))]; exact hAo3 r hr
  have e5_13 : g5 13 = Sum.inr (3, [.ref q14, .ref q15, .null, .null, .int 0, .int 0, .int 0, .int 0, .int 0, .int 0, .int 0, .int 0, .long 0, .long 0]) := by rw [hg5, va_up_ne _ _ (by decide)]; exact e4_13
  have e5_14 : g5 14 = aQ (ks 3) 30 (fun _ => none) := by rw [hg5, va_up_ne _ _ (by decide)]; exact e4_14
  have e5_15 : g5 15 = aQ (ks 2) 30 (fun _ => none) := by rw [hg5, va_up_ne _ _ (by decide)]; exact e4_15
  have e5_16 : g5 16 = aJ (ks 1) 21 (fun _ => 0) := by rw [hg5, va_up_self]
  have hGo5 : ∀ r ∈ Rs, r ≠ 13 → g5 r = g r := fun r hr h => by rw [hg5, va_up_ne _ _ (show r ≠ 16 from fun h2 => hn16 (h2 ▸ hr))]; exact hGo4 r hr h
  refine pa_X3_21 hx hb hT hown hK hin hP hD hS (List.mem_cons_of_mem _ (List.mem_cons_of_mem _ (List.mem_cons_of_mem _ h0m))) a5_13 e5_13 (Nat.le_of_ble_eq_true rfl) dX3_init_27 (fun H locs hP hS => ?_)
  obtain ⟨g6, hg6⟩ : ∃ z, z = va_up g5 13 (.inr (3, List.set [.ref q14, .ref q15, .null, .null, .int 0, .int 0, .int 0, .int 0, .int 0, .int 0, .int 0, .int 0, .long 0, .long 0] 2 (.ref q16))) := ⟨_, rfl⟩
  rw [← hg6] at hP
  have e6_13 : g6 13 = Sum.inr (3, [.ref q14, .ref q15, .ref q16, .null, .int 0, .int 0, .int 0, .int 0, .int 0, .int 0, .int 0, .int 0, .long 0, .long 0]) := by rw [hg6, va_up_self]; rfl
  have e6_14 : g6 14 = aQ (ks 3) 30 (fun _ => none) := by rw [hg6, va_up_ne _ _ (by decide)]; exact e5_14
  have e6_15 : g6 15 = aQ (ks 2) 30 (fun _ => none) := by rw [hg6, va_up_ne _ _ (by decide)]; exact e5_15
  have e6_16 : g6 16 = aJ (ks 1) 21 (fun _ => 0) := by rw [hg6, va_up_ne _ _ (by decide)]; exact e5_16
  have hGo6 : ∀ r ∈ Rs, r ≠ 13 → g6 r = g r := fun r hr h => by rw [hg6, va_up_ne _ _ h]; exact hGo5 r hr h
  refine lv_aload_n hx hb dX3_init_30 rfl (lv_at hl 0 rfl) ?_
  refine lv_bipush (v := 21) hx hb dX3_init_31 (by decide) ?_
  have hn6_17 : 17 ∉ (16 :: 15 :: 14 :: Rs) := by simp only [List.mem_cons, not_or]; exact ⟨by decide, by decide, by decide, hn17⟩
  refine z_newJ (r := 17) (N := 21) hx hb hT hK hP hD hS hA hn6_17 (by decide) (by decide) (by decide) (Nat.le_of_ble_eq_true rfl) (Nat.le_of_ble_eq_true rfl) dX3_init_33 (fun q17 H hP hD hS => ?_)
  obtain ⟨g7, hg7⟩ : ∃ z, z = va_up g6 17 (aJ (ks 1) 21 (fun _ => 0)) := ⟨_, rfl⟩
  rw [← hg7] at hP
  obtain ⟨ad7, had7⟩ : ∃ z, z = va_up ad5 17 q17 := ⟨_, rfl⟩
  rw [← had7] at hP hD
  have a7_13 := (congrFun had7 13).trans ((va_up_ne _ _ (by decide)).trans a5_13)
  have a7_14 := (congrFun had7 14).trans ((va_up_ne _ _ (by decide)).trans a5_14)
  have a7_15 := (congrFun had7 15).trans ((va_up_ne _ _ (by decide)).trans a5_15)
  have a7_16 := (congrFun had7 16).trans ((va_up_ne _ _ (by decide)).trans a5_16)
  have a7_17 : ad7 17 = q17 := by rw [had7, va_up_self]
  have hAo7 : ∀ r ∈ Rs, ad7 r = ad r := fun r hr => by rw [had7, va_up_ne _ _ (show r ≠ 17 from fun h => hn17 (h ▸ hr))]; exact hAo5 r hr
  have e7_13 : g7 13 = Sum.inr (3, [.ref q14, .ref q15, .ref q16, .null, .int 0, .int 0, .int 0, .int 0, .int 0, .int 0, .int 0, .int 0, .long 0, .long 0]) := by rw [hg7, va_up_ne _ _ (by decide)]; exact e6_13
  have e7_14 : g7 14 = aQ (ks 3) 30 (fun _ => none) := by rw [hg7, va_up_ne _ _ (by decide)]; exact e6_14
  have e7_15 : g7 15 = aQ (ks 2) 30 (fun _ => none) := by rw [hg7, va_up_ne _ _ (by decide)]; exact e6_15
  have e7_16 : g7 16 = aJ (ks 1) 21 (fun _ => 0) := by rw [hg7, va_up_ne _ _ (by decide)]; exact e6_16
  have e7_17 : g7 17 = aJ (ks 1) 21 (fun _ => 0) := by rw [hg7, va_up_self]
  have hGo7 : ∀ r ∈ Rs, r ≠ 13 → g7 r = g r := fun r hr h => by rw [hg7, va_up_ne _ _ (show r ≠ 17 from fun h2 => hn17 (h2 ▸ hr))]; exact hGo6 r hr h
  refine pa_X3_25 hx hb hT hown hK hin hP hD hS (List.mem_cons_of_mem _ (List.mem_cons_of_mem _ (List.mem_cons_of_mem _ (List.mem_cons_of_mem _ h0m)))) a7_13 e7_13 (Nat.le_of_ble_eq_true rfl) dX3_init_35 (fun H locs hP hS => ?_)
  obtain ⟨g8, hg8⟩ : ∃ z, z = va_up g7 13 (.inr (3, List.set [.ref q14, .ref q15, .ref q16, .null, .int 0, .int 0, .int 0, .int 0, .int 0, .int 0, .int 0, .int 0, .long 0, .long 0] 3 (.ref q17))) := ⟨_, rfl⟩
  rw [← hg8] at hP
  have e8_13 : g8 13 = Sum.inr (3, [.ref q14, .ref q15, .ref q16, .ref q17, .int 0, .int 0, .int 0, .int 0, .int 0, .int 0, .int 0, .int 0, .long 0, .long 0]) := by rw [hg8, va_up_self]; rfl
  have e8_14 : g8 14 = aQ (ks 3) 30 (fun _ => none) := by rw [hg8, va_up_ne _ _ (by decide)]; exact e7_14
  have e8_15 : g8 15 = aQ (ks 2) 30 (fun _ => none) := by rw [hg8, va_up_ne _ _ (by decide)]; exact e7_15
  have e8_16 : g8 16 = aJ (ks 1) 21 (fun _ => 0) := by rw [hg8, va_up_ne _ _ (by decide)]; exact e7_16
  have e8_17 : g8 17 = aJ (ks 1) 21 (fun _ => 0) := by rw [hg8, va_up_ne _ _ (by decide)]; exact e7_17
  have hGo8 : ∀ r ∈ Rs, r ≠ 13 → g8 r = g r := fun r hr h => by rw [hg8, va_up_ne _ _ h]; exact hGo7 r hr h
  refine lv_iconst (v := 0) hx hb dX3_init_38 (by decide) ?_
  refine lv_istore_n (lv' := [(1, .int 0), (0, .ref (ad 13))]) hx hb dX3_init_39 rfl hl (by decide) rfl (fun ls hl => ?_)
  have Lp : ∀ (n k : Nat) (g' : Nat → va_E) (H : Heap) (locs : List Loc) (ls : Array Slot), k + n = 21 → (∀ r, r ≠ 16 → g' r = g8 r) → g' 16 = aJ (ks 1) 21 (cF k) → zP D (17 :: 16 :: 15 :: 14 :: Rs) ad7 g' H → va_S (zA Rs ad s.heap.size) s.heap H locs → lv_has ls 2 [(1, .int (nI k)), (0, .ref (ad 13))] → W p l e (zRm 2 32 4 102) s m #[.ref (ad 13)] below meth c H locs 4 102 (MQ below (zQW none (nX3 D ks Rs ad g s.heap.size) (zA Rs ad s.heap.size)) #[.ref (ad 13)] s 4 102 (zA Rs ad s.heap.size)) (F0 m 40 ls []) := by
    intro n
    induction n with
    | zero =>
      intro k g' H locs ls hkn hgo hg16 hP hS hl
      have hk0 : k = 21 := by omega
      subst hk0
      refine lv_iload_n hx hb dX3_init_40 rfl (lv_at hl 0 rfl) ?_
      refine lv_aload_n hx hb dX3_init_41 rfl (lv_at hl 1 rfl) ?_
      have hat13 := hP.at (List.mem_cons_of_mem _ (List.mem_cons_of_mem _ (List.mem_cons_of_mem _ (List.mem_cons_of_mem _ h0m)))) ((hgo 13 (by decide)).trans e8_13)
      rw [a7_13] at hat13
      refine gf_X3_21 hx hb hT hown hK hat13 rfl dX3_init_42 ?_
      have hat16 := hP.at (List.mem_cons_of_mem _ List.mem_cons_self) hg16
      rw [a7_16] at hat16
      refine z_jlen hx hb hK hat16 (v := 21) rfl dX3_init_45 ?_
      refine lv_icmp_ge (tgt := 64) hx hb dX3_init_46 (by decide) (fun c1 => ?_) (fun c1 => ?_)
      · skip
        obtain ⟨g0, hg0⟩ : ∃ z, z = g' := ⟨_, rfl⟩
        rw [← hg0] at hP
        have e0_13 := (congrFun hg0 13).trans ((hgo 13 (by decide)).trans e8_13)
        have e0_14 := (congrFun hg0 14).trans ((hgo 14 (by decide)).trans e8_14)
        have e0_15 := (congrFun hg0 15).trans ((hgo 15 (by decide)).trans e8_15)
        have e0_17 := (congrFun hg0 17).trans ((hgo 17 (by decide)).trans e8_17)
        have e0_16 := (congrFun hg0 16).trans hg16
        have hGo0 : ∀ r ∈ Rs, r ≠ 13 → g0 r = g r := fun r hr h => by rw [hg0, hgo r (fun h2 => hn16 (h2 ▸ hr))]; exact hGo8 r hr h
        refine lv_aload_n hx hb dX3_init_64 rfl (lv_at hl 1 rfl) ?_
        refine lv_bipush (v := 20) hx hb dX3_init_65 (by decide) ?_
        refine pa_X3_30 hx hb hT hown hK hP hD hS (List.mem_cons_of_mem _ (List.mem_cons_of_mem _ (List.mem_cons_of_mem _ (List.mem_cons_of_mem _ h0m)))) a7_13 e0_13 (Nat.le_of_ble_eq_true rfl) dX3_init_67 (fun H locs hP hS => ?_)
        obtain ⟨g9, hg9⟩ : ∃ z, z = va_up g0 13 (.inr (3, List.set [.ref q14, .ref q15, .ref q16, .ref q17, .int 0, .int 0, .int 0, .int 0, .int 0, .int 0, .int 0, .int 0, .long 0, .long 0] 7 (.int 20))) := ⟨_, rfl⟩
        rw [← hg9] at hP
        have e9_13 : g9 13 = Sum.inr (3, [.ref q14, .ref q15, .ref q16, .ref q17, .int 0, .int 0, .int 0, .int 20, .int 0, .int 0, .int 0, .int 0, .long 0, .long 0]) := by rw [hg9, va_up_self]; rfl
        have e9_14 : g9 14 = aQ (ks 3) 30 (fun _ => none) := by rw [hg9, va_up_ne _ _ (by decide)]; exact e0_14
        have e9_15 : g9 15 = aQ (ks 2) 30 (fun _ => none) := by rw [hg9, va_up_ne _ _ (by decide)]; exact e0_15
        have e9_16 : g9 16 = aJ (ks 1) 21 (cF 21) := by rw [hg9, va_up_ne _ _ (by decide)]; exact e0_16
        have e9_17 : g9 17 = aJ (ks 1) 21 (fun _ => 0) := by rw [hg9, va_up_ne _ _ (by decide)]; exact e0_17
        have hGo9 : ∀ r ∈ Rs, r ≠ 13 → g9 r = g r := fun r hr h => by rw [hg9, va_up_ne _ _ h]; exact hGo0 r hr h
        refine lv_aload_n hx hb dX3_init_70 rfl (lv_at hl 1 rfl) ?_
        refine lv_iconst (v := 5) hx hb dX3_init_71 (by decide) ?_
        refine pa_X3_34 hx hb hT hown hK hP hD hS (List.mem_cons_of_mem _ (List.mem_cons_of_mem _ (List.mem_cons_of_mem _ (List.mem_cons_of_mem _ h0m)))) a7_13 e9_13 (Nat.le_of_ble_eq_true rfl) dX3_init_72 (fun H locs hP hS => ?_)
        obtain ⟨g10, hg10⟩ : ∃ z, z = va_up g9 13 (.inr (3, List.set [.ref q14, .ref q15, .ref q16, .ref q17, .int 0, .int 0, .int 0, .int 20, .int 0, .int 0, .int 0, .int 0, .long 0, .long 0] 8 (.int 5))) := ⟨_, rfl⟩
        rw [← hg10] at hP
        have e10_13 : g10 13 = Sum.inr (3, [.ref q14, .ref q15, .ref q16, .ref q17, .int 0, .int 0, .int 0, .int 20, .int 5, .int 0, .int 0, .int 0, .long 0, .long 0]) := by rw [hg10, va_up_self]; rfl
        have e10_14 : g10 14 = aQ (ks 3) 30 (fun _ => none) := by rw [hg10, va_up_ne _ _ (by decide)]; exact e9_14
        have e10_15 : g10 15 = aQ (ks 2) 30 (fun _ => none) := by rw [hg10, va_up_ne _ _ (by decide)]; exact e9_15
        have e10_16 : g10 16 = aJ (ks 1) 21 (cF 21) := by rw [hg10, va_up_ne _ _ (by decide)]; exact e9_16
        have e10_17 : g10 17 = aJ (ks 1) 21 (fun _ => 0) := by rw [hg10, va_up_ne _ _ (by decide)]; exact e9_17
        have hGo10 : ∀ r ∈ Rs, r ≠ 13 → g10 r = g r := fun r hr h => by rw [hg10, va_up_ne _ _ h]; exact hGo9 r hr h
        refine lv_aload_n hx hb dX3_init_75 rfl (lv_at hl 1 rfl) ?_
        refine lv_sipush (v := 1000) hx hb dX3_init_76 (by decide) ?_
        refine pa_X3_37 hx hb hT hown hK hP hD hS (List.mem_cons_of_mem _ (List.mem_cons_of_mem _ (List.mem_cons_of_mem _ (List.mem_cons_of_mem _ h0m)))) a7_13 e10_13 (Nat.le_of_ble_eq_true rfl) dX3_init_79 (fun H locs hP hS => ?_)
        obtain ⟨g11, hg11⟩ : ∃ z, z = va_up g10 13 (.inr (3, List.set [.ref q14, .ref q15, .ref q16, .ref q17, .int 0, .int 0, .int 0, .int 20, .int 5, .int 0, .int 0, .int 0, .long 0, .long 0] 9 (.int 1000))) := ⟨_, rfl⟩
        rw [← hg11] at hP
        have e11_13 : g11 13 = Sum.inr (3, [.ref q14, .ref q15, .ref q16, .ref q17, .int 0, .int 0, .int 0, .int 20, .int 5, .int 1000, .int 0, .int 0, .long 0, .long 0]) := by rw [hg11, va_up_self]; rfl
        have e11_14 : g11 14 = aQ (ks 3) 30 (fun _ => none) := by rw [hg11, va_up_ne _ _ (by decide)]; exact e10_14
        have e11_15 : g11 15 = aQ (ks 2) 30 (fun _ => none) := by rw [hg11, va_up_ne _ _ (by decide)]; exact e10_15
        have e11_16 : g11 16 = aJ (ks 1) 21 (cF 21) := by rw [hg11, va_up_ne _ _ (by decide)]; exact e10_16
        have e11_17 : g11 17 = aJ (ks 1) 21 (fun _ => 0) := by rw [hg11, va_up_ne _ _ (by decide)]; exact e10_17
        have hGo11 : ∀ r ∈ Rs, r ≠ 13 → g11 r = g r := fun r hr h => by rw [hg11, va_up_ne _ _ h]; exact hGo10 r hr h
        refine lv_aload_n hx hb dX3_init_82 rfl (lv_at hl 1 rfl) ?_
        refine lv_bipush (v := 100) hx hb dX3_init_83 (by decide) ?_
        refine pa_X3_40 hx hb hT hown hK hP hD hS (List.mem_cons_of_mem _ (List.mem_cons_of_mem _ (List.mem_cons_of_mem _ (List.mem_cons_of_mem _ h0m)))) a7_13 e11_13 (Nat.le_of_ble_eq_true rfl) dX3_init_85 (fun H locs hP hS => ?_)
        obtain ⟨g12, hg12⟩ : ∃ z, z = va_up g11 13 (.inr (3, List.set [.ref q14, .ref q15, .ref q16, .ref q17, .int 0, .int 0, .int 0, .int 20, .int 5, .int 1000, .int 0, .int 0, .long 0, .long 0] 10 (.int 100))) := ⟨_, rfl⟩
        rw [← hg12] at hP
        have e12_13 : g12 13 = Sum.inr (3, [.ref q14, .ref q15, .ref q16, .ref q17, .int 0, .int 0, .int 0, .int 20, .int 5, .int 1000, .int 100, .int 0, .long 0, .long 0]) := by rw [hg12, va_up_self]; rfl
        have e12_14 : g12 14 = aQ (ks 3) 30 (fun _ => none) := by rw [hg12, va_up_ne _ _ (by decide)]; exact e11_14
        have e12_15 : g12 15 = aQ (ks 2) 30 (fun _ => none) := by rw [hg12, va_up_ne _ _ (by decide)]; exact e11_15
        have e12_16 : g12 16 = aJ (ks 1) 21 (cF 21) := by rw [hg12, va_up_ne _ _ (by decide)]; exact e11_16
        have e12_17 : g12 17 = aJ (ks 1) 21 (fun _ => 0) := by rw [hg12, va_up_ne _ _ (by decide)]; exact e11_17
        have hGo12 : ∀ r ∈ Rs, r ≠ 13 → g12 r = g r := fun r hr h => by rw [hg12, va_up_ne _ _ h]; exact hGo11 r hr h
        refine lv_aload_n hx hb dX3_init_88 rfl (lv_at hl 1 rfl) ?_
        refine lv_sipush (v := 500) hx hb dX3_init_89 (by decide) ?_
        refine pa_X3_43 hx hb hT hown hK hP hD hS (List.mem_cons_of_mem _ (List.mem_cons_of_mem _ (List.mem_cons_of_mem _ (List.mem_cons_of_mem _ h0m)))) a7_13 e12_13 (Nat.le_of_ble_eq_true rfl) dX3_init_92 (fun H locs hP hS => ?_)
        obtain ⟨g13, hg13⟩ : ∃ z, z = va_up g12 13 (.inr (3, List.set [.ref q14, .ref q15, .ref q16, .ref q17, .int 0, .int 0, .int 0, .int 20, .int 5, .int 1000, .int 100, .int 0, .long 0, .long 0] 11 (.int 500))) := ⟨_, rfl⟩
        rw [← hg13] at hP
        have e13_13 : g13 13 = Sum.inr (3, [.ref q14, .ref q15, .ref q16, .ref q17, .int 0, .int 0, .int 0, .int 20, .int 5, .int 1000, .int 100, .int 500, .long 0, .long 0]) := by rw [hg13, va_up_self]; rfl
        have e13_14 : g13 14 = aQ (ks 3) 30 (fun _ => none) := by rw [hg13, va_up_ne _ _ (by decide)]; exact e12_14
        have e13_15 : g13 15 = aQ (ks 2) 30 (fun _ => none) := by rw [hg13, va_up_ne _ _ (by decide)]; exact e12_15
        have e13_16 : g13 16 = aJ (ks 1) 21 (cF 21) := by rw [hg13, va_up_ne _ _ (by decide)]; exact e12_16
        have e13_17 : g13 17 = aJ (ks 1) 21 (fun _ => 0) := by rw [hg13, va_up_ne _ _ (by decide)]; exact e12_17
        have hGo13 : ∀ r ∈ Rs, r ≠ 13 → g13 r = g r := fun r hr h => by rw [hg13, va_up_ne _ _ h]; exact hGo12 r hr h
        refine zW_v hx hb hr hlk hS (Nat.le_of_ble_eq_true rfl) (Nat.le_of_ble_eq_true rfl) dX3_init_95 ⟨ad7, g13, hAo7, hGo13, ?_, e13_14, e13_15, e13_16, e13_17, hP, hD⟩
        rw [e13_13, a7_14, a7_15, a7_16, a7_17]
      · exact absurd (nI_le (a := 21) (b := 21) (Nat.le_refl _) (by decide)) c1
    | succ n ih =>
      intro k g' H locs ls hkn hgo hg16 hP hS hl
      have hk : k < 21 := by omega
      refine lv_iload_n hx hb dX3_init_40 rfl (lv_at hl 0 rfl) ?_
      refine lv_aload_n hx hb dX3_init_41 rfl (lv_at hl 1 rfl) ?_
      have hat13 := hP.at (List.mem_cons_of_mem _ (List.mem_cons_of_mem _ (List.mem_cons_of_mem _ (List.mem_cons_of_mem _ h0m)))) ((hgo 13 (by decide)).trans e8_13)
      rw [a7_13] at hat13
      refine gf_X3_21 hx hb hT hown hK hat13 rfl dX3_init_42 ?_
      have hat16 := hP.at (List.mem_cons_of_mem _ List.mem_cons_self) hg16
      rw [a7_16] at hat16
      refine z_jlen hx hb hK hat16 (v := 21) rfl dX3_init_45 ?_
      refine lv_icmp_ge (tgt := 64) hx hb dX3_init_46 (by decide) (fun c1 => ?_) (fun c1 => ?_)
      · exact absurd c1 (nI_ge (a := k) (b := 21) hk (by decide))
      · skip
        refine lv_aload_n hx hb dX3_init_49 rfl (lv_at hl 1 rfl) ?_
        refine gf_X3_21 hx hb hT hown hK hat13 rfl dX3_init_50 ?_
        refine lv_iload_n hx hb dX3_init_53 rfl (lv_at hl 0 rfl) ?_
        refine lv_ldc2 (v := (-1)) hx hb hown (hT _ kl_X3_28) dX3_init_54 ?_
        rw [← a7_16]
        refine z_last hx hb hK hP hD hS (List.mem_cons_of_mem _ List.mem_cons_self) hg16 (vp_in_nI hk (by decide)) dX3_init_57 (fun H1 locs1 hP hS => ?_)
        rw [nI_clamp (by omega), cF_up] at hP
        refine lv_iinc (v := nI (k + 1)) (lv' := [(1, .int (nI (k + 1))), (0, .ref (ad 13))]) hx hb dX3_init_58 hl (k := 0) rfl (nI_1 k) (by decide) rfl (fun ls hl => ?_)
        refine lv_goto (tgt := 40) hx hb dX3_init_61 (by decide) ?_
        exact ih (k + 1) _ _ _ _ (by omega) (fun r h => (va_up_ne _ _ h).trans (hgo r h)) (va_up_self _ _ _) hP hS hl
  exact Lp 21 0 g8 H locs ls rfl (fun _ _ => rfl) (e8_16.trans (by rw [cF_0])) hP hS hl
end ZB4
end
section
/-! the law's own methods: a call caught -/
section ZLW
variable {D : va_G} {ks : Nat → ClassId} {ad : Nat → Nat} {np ng : Nat} {G : Nat → Nat} {MI : Nat → Nat → Int32} {MJ : Nat → Nat → Int64} {XI : Nat → Nat → Int32} {XJ : Nat → Nat → Int64} {Rs : List Nat}
def zPY (D : va_G) (ks : Nat → ClassId) (sz : Nat) (As : List Value) (P : Heap → Prop) : Array Value → State → Prop := va_Pc As (fun U => U.heap.size = sz ∧ P U.heap ∧ zX D ks U)
theorem zPY.blind {D : va_G} {ks : Nat → ClassId} {sz : Nat} {As : List Value} {P : Heap → Prop} : FrameBlind (zPY D ks sz As P) := fun a U g mk q => ⟨q.1, q.2.1, q.2.2.1, q.2.2.2.calling⟩
def zMY (l : Launch) (y : MethodName) (cc : ByteArray) (n : Nat) (hh : List (Nat × Nat × Nat × Nat)) (fr lo mc ms : Nat) (D : va_G) (ks : Nat → ClassId) (sz : Nat) (As : List Value) (P : Heap → Prop) (v : Int32) (B : Heap → Prop) (A : Nat → Prop) : Prop :=
  Met l y (Cond.codeWith y cc n (some .int) hh :: WS) (zRm fr lo mc ms) (zPY D ks sz As P) (zQW (some (.int v)) B A) mc ms A
theorem zMY.of {l : Launch} {y : MethodName} {cc : ByteArray} {n : Nat} {hh : List (Nat × Nat × Nat × Nat)} {fr lo mc ms : Nat} {As : List Value} {P : Heap → Prop} {v : Int32} {B : Heap → Prop} {A : Nat → Prop} {sz : Nat} (hy : plainName y.cls = true) (hn : (lg_sl As).length ≤ n)
    (body : ∀ (p : Program) (e : Env) (s : State) (m : MethodId) (below : List Frame) (meth : Method) (c : Code) (ls : Array Slot), p.tables.exec = Jvm.exec → c.code = cc → meth.sig.returnType = some .int → c.maxLocals = n → s.vm.findClass y.cls = some m.cls → meth.locks = false → (∀ w ∈ WS, w.before As.toArray s = true) → c.exceptionTable.toList = tableOf hh → s.heap.size = sz → P s.heap → zX D ks s → lv_has ls n (lv_args 0 As) →
      W p l e (zRm fr lo mc ms) s m As.toArray below meth c s.heap [] 0 0 (MQ below (zQW (some (.int v)) B A) As.toArray s mc ms A) (F0 m 0 ls [])) : zMY l y cc n hh fr lo mc ms D ks sz As P v B A := by
  unfold zMY Met
  refine MetFree.of_bodyS (code := cc) (maxLocals := n) (ret := some .int) hy ?_ ?_
  · intro args s m h hn
    obtain ⟨m9, meth, c, hn9, h1, h2, h3, h4, -, h5, h6, -⟩ := Cond.codeWith_spec (atoms_spec (ws := Cond.codeWith y cc n (some .int) hh :: WS) h _ List.mem_cons_self)
    cases hn.symm.trans hn9
    exact ⟨meth, c, h1, h2, h3, h4, h5, h6⟩
  · intro p e s m args below meth c s₁ B hml hv _
    have htb := vx_table (x := y) B (atoms_spec (ws := Cond.codeWith y cc n (some .int) hh :: WS) B.pre _ List.mem_cons_self)
    obtain ⟨rfl, hsz, hP, hX⟩ := hv
    have hh0 : s₁.heap = s.heap := by rw [B.state]; rfl
    rw [lg_entry_eq]
    obtain ⟨t, a1, o, b1, b2, b3⟩ := body p e s m below meth c _ B.exec B.bytes B.returns hml (findClass_of_methodNamed B.named) B.notSynchronized (fun w hw => atoms_spec (ws := Cond.codeWith y cc n (some .int) hh :: WS) B.pre w (List.mem_cons_of_mem _ hw)) htb hsz hP hX (lv_entry As hn) s₁ hh0 (Stand.of_body B)
    exact ⟨t, o, a1, b1, b2, ⟨b3.1, b3.2⟩⟩
section
variable {p : Program} {l : Launch} {e : Env} {R : Room} {s : State} {m : MethodId} {args : Array Value} {below : List Frame} {meth : Method} {c : Code} {H : Heap} {locs : List Loc} {cells slots : Nat} {Q : State → Prop}
variable {cc : ByteArray} {pc : Nat} {ls : Array Slot} {rest st0 : List Value} {A : Nat → Prop} {g : Nat → va_E} {E : String}
theorem z_caught (hr : vx_Run p l e R s m args below meth c s.heap [] 0 0 1 6 (F0 m pc ls st0) rest (zQF #[]) (zXC E) (fun _ => False))
    (kx : ∀ (ce : Cell) (q9 : Nat) (H1 : Heap), s.heap.size ≤ H1.size → (∀ q : Nat, q < s.heap.size → H1[q]? = s.heap[q]?) → H1[q9]? = some ce → ce.vm = .none → s.vm.findClass E = some ce.cls → vx_W p l e R s m args below meth c H1 [] 1 6 Q (F0 m pc ls rest) q9) : W p l e R s m args below meth c s.heap [] 0 0 Q (F0 m pc ls st0) := by
  intro T hT X
  rcases hr T hT X with ⟨_, _, _, _, _, _, _, _, _, _, h, _⟩ | ⟨q, st₀, t, T', L, E', ce, h0, X', hL, e1, e2, ⟨hE, hz, hk⟩, hce, hcv, hcl, st⟩
  · exact h.elim
  · subst hE
    have X2 := Stand.forget (locs := []) X' (fun z h => (hL z h).elim)
    obtain ⟨t2, a1, b1⟩ := kx ce q T'.heap (by rw [e1, ← h0]; exact hz) (fun q h => by rw [e1, ← h0]; exact hk q (by rw [h0]; exact h)) (by rw [e1]; exact hce) hcv hcl T' rfl X2
    exact ⟨t2, st.trans a1, b1⟩
end
end ZLW
end
section
/-! the two sides agree: arithmetic -/
section ZSA
theorem xor_neg (x : Int64) : (x ^^^ 1000 < 0) ↔ x < 0 := by
  rw [Int64.lt_iff_toInt_lt, Int64.lt_iff_toInt_lt]
  have h1 : ∀ z : Int64, (z.toInt < (0 : Int64).toInt) ↔ z.toBitVec.msb = true := fun z => by
    rw [BitVec.msb_eq_toInt]
    show z.toBitVec.toInt < 0 ↔ _
    simp
  rw [h1, h1, Int64.toBitVec_xor, BitVec.msb_xor]
  have h2 : (1000 : Int64).toBitVec.msb = false := by decide
  rw [h2]
  simp
theorem fThou_part (a b : Int64) : fThou a b = fPart a b := by
  unfold fThou fFloor fPart
  by_cases h : a * b < 0
  · rw [if_pos ((xor_neg _).mpr h), if_pos h]
  · rw [if_neg (fun q => h ((xor_neg _).mp q)), if_neg h]
theorem q_div {x : Int64} {d : Int64} (hd : 0 < d.toInt) : (x / d).toInt = x.toInt.tdiv d.toInt := by
  refine Int64.toInt_div_of_ne_right _ _ ?_
  intro h
  rw [h] at hd
  exact absurd hd (by decide)
theorem q_neg (x : Int64) : (x < 0) ↔ x.toInt < 0 := by
  rw [Int64.lt_iff_toInt_lt]; exact Iff.rfl
theorem q_pos (x : Int64) : (0 < x) ↔ 0 < x.toInt := by
  rw [Int64.lt_iff_toInt_lt]; exact Iff.rfl
theorem td_1000 (x : Int) : (0 ≤ x ∨ x % 1000 = 0 → x.tdiv 1000 = x / 1000) ∧ (¬ (0 ≤ x ∨ x % 1000 = 0) → x.tdiv 1000 = x / 1000 + 1) := by
  rw [Int.tdiv_eq_ediv]
  have hs : Int.sign 1000 = 1 := rfl
  constructor
  · intro h
    rw [if_pos (by rcases h with h | h; exact Or.inl h; exact Or.inr (Int.dvd_of_emod_eq_zero h))]
    omega
  · intro h
    rw [if_neg (by rintro (q | q); exact h (Or.inl q); exact h (Or.inr (Int.emod_eq_zero_of_dvd q))), hs]
/-- so many thousandths, rounded down -/
theorem fPart_z {a b : Int64} (h1 : -(2 ^ 63) ≤ a.toInt * b.toInt) (h2 : a.toInt * b.toInt < 2 ^ 63) : (fPart a b).toInt = a.toInt * b.toInt / 1000 := by
  have hm := l_mul h1 h2
  unfold fPart
  generalize a * b = x at hm
  rw [← hm] at h1 h2 ⊢
  have hd : (x / 1000).toInt = x.toInt.tdiv 1000 := q_div (d := 1000) (by decide)
  have h1000 : (1000 : Int64).toInt = 1000 := by decide
  have hone : (-1 : Int64).toInt = -1 := by decide
  obtain ⟨t1, t2⟩ := td_1000 x.toInt
  by_cases hn : x < 0
  · rw [if_pos hn]
    have hn' := (q_neg x).mp hn
    by_cases hc : x.toInt % 1000 = 0
    · have hd1 := hd.trans (t1 (Or.inr hc))
      have hmul : (x / 1000 * 1000).toInt = x.toInt := by
        rw [l_mul (by rw [hd1, h1000]; omega) (by rw [hd1, h1000]; omega), hd1, h1000]; omega
      rw [if_pos (Int64.toInt_inj.mp hmul), hd1]
    · have hd1 := hd.trans (t2 (by omega))
      have hmul : ¬ x / 1000 * 1000 = x := fun q => by
        have := congrArg Int64.toInt q
        rw [l_mul (by rw [hd1, h1000]; omega) (by rw [hd1, h1000]; omega), hd1, h1000] at this
        omega
      rw [if_neg hmul, show x / 1000 - 1 = x / 1000 + (-1) from by rw [Int64.sub_eq_add_neg], l_add (by rw [hd1, hone]; omega) (by rw [hd1, hone]; omega), hd1, hone]
      omega
  · rw [if_neg hn, hd]
    have hn' : 0 ≤ x.toInt := Int.not_lt.mp (fun q => hn ((q_neg x).mpr q))
    exact t1 (Or.inl hn')
/-- a product with a bounded thousandth: it fits -/
theorem mul_fit {a b A B : Int} (h1 : 0 ≤ a) (h2 : a ≤ A) (h3 : -B ≤ b) (h4 : b ≤ B) (h0 : 0 ≤ B) : -(A * B) ≤ a * b ∧ a * b ≤ A * B := by
  have hA : 0 ≤ A := Int.le_trans h1 h2
  constructor
  · have e1 : a * (-B) ≤ a * b := Int.mul_le_mul_of_nonneg_left h3 h1
    have e2 : a * B ≤ A * B := Int.mul_le_mul_of_nonneg_right h2 h0
    rw [Int.mul_neg] at e1
    omega
  · exact Int.le_trans (Int.mul_le_mul_of_nonneg_left h4 h1) (Int.mul_le_mul_of_nonneg_right h2 h0)
/-- an amount that earns a rate -/
theorem earn_z {a r : Int64} {A : Int} (h1 : 0 ≤ a.toInt) (h2 : a.toInt ≤ A) (hA : A ≤ 2 ^ 40) (h3 : -200 ≤ r.toInt) (h4 : r.toInt ≤ 200) : (a + fPart a r).toInt = a.toInt + a.toInt * r.toInt / 1000 ∧ 0 ≤ (a + fPart a r).toInt ∧ 5 * (a + fPart a r).toInt ≤ 6 * a.toInt := by
  have h5 := mul_fit h1 (Int.le_refl _) (B := 200) (by omega) h4 (by decide)
  have h6 := fPart_z (a := a) (b := r) (by omega) (by omega)
  have h7 : (a + fPart a r).toInt = a.toInt + a.toInt * r.toInt / 1000 := by
    rw [l_add (by rw [h6]; omega) (by rw [h6]; omega), h6]
  refine ⟨h7, ?_, ?_⟩ <;> rw [h7] <;> omega
/-- a charge -/
theorem charge_z {a c : Int64} {A : Int} (h1 : 0 ≤ a.toInt) (h2 : a.toInt ≤ A) (hA : A ≤ 2 ^ 41) (h3 : 0 ≤ c.toInt) (h4 : c.toInt ≤ 100) : (a - fPart a c).toInt = a.toInt - a.toInt * c.toInt / 1000 ∧ 0 ≤ (a - fPart a c).toInt ∧ (a - fPart a c).toInt ≤ a.toInt ∧ fChg a c = fPart a c := by
  have h5 := i_mulb (A := a.toInt) (B := 100) h1 (Int.le_refl _) h3 h4
  have h6 := fPart_z (a := a) (b := c) (by omega) (by omega)
  have hneg : (-fPart a c).toInt = -(fPart a c).toInt := by
    rw [Int64.toInt_neg]
    exact Int.bmod_eq_of_le (by rw [h6]; omega) (by rw [h6]; omega)
  have h7 : (a - fPart a c).toInt = a.toInt - a.toInt * c.toInt / 1000 := by
    rw [Int64.sub_eq_add_neg, l_add (by rw [hneg, h6]; omega) (by rw [hneg, h6]; omega), hneg, h6]
    omega
  refine ⟨h7, by rw [h7]; omega, by rw [h7]; omega, ?_⟩
  unfold fChg
  by_cases hp : 0 < a
  · rw [if_pos hp, fThou_part]
  · rw [if_neg hp]
    have h8 : a.toInt = 0 := by
      have := Int.not_lt.mp (fun q => hp ((q_pos a).mpr q))
      omega
    apply Int64.toInt_inj.mp
    rw [h6, h8]
    simp
theorem l_sub {a b : Int64} (h1 : -(2 ^ 63) ≤ a.toInt - b.toInt) (h2 : a.toInt - b.toInt < 2 ^ 63) : (a - b).toInt = a.toInt - b.toInt := by
  rw [Int64.toInt_sub]
  exact Int.bmod_eq_of_le (by omega) (by omega)
/-- a share of an amount -/
theorem share_z {a P : Int64} {p R : Int} {q : Int64} (hq : q.toInt = p) (h1 : 0 ≤ a.toInt) (h2 : a.toInt ≤ R * P.toInt) (hp : 1 ≤ p) (hp2 : p ≤ P.toInt) (hP : P.toInt ≤ 30000) (hR0 : 0 ≤ R) (hR : R ≤ 100000) : (a * q / P).toInt = a.toInt * p / P.toInt ∧ 0 ≤ a.toInt * p / P.toInt ∧ a.toInt * p / P.toInt ≤ R * p ∧ a.toInt * p / P.toInt ≤ a.toInt ∧ a.toInt - a.toInt * p / P.toInt ≤ R * (P.toInt - p) := by
  have hA : R * P.toInt ≤ 100000 * 30000 := (i_mulb hR0 hR (by omega) hP).2
  have h5 := i_mulb (A := 3000000000) (B := 30000) h1 (by omega) (b := p) (by omega) (by omega)
  have h6 : (a * q).toInt = a.toInt * p := by rw [l_mul (by rw [hq]; omega) (by rw [hq]; omega), hq]
  have hP0 : 0 < P.toInt := by omega
  refine ⟨?_, Int.ediv_nonneg h5.1 (by omega), ?_, ?_, ?_⟩
  · rw [q_div hP0, h6, Int.tdiv_eq_ediv_of_nonneg h5.1]
  · refine Int.ediv_le_of_le_mul hP0 ?_
    have := Int.mul_le_mul_of_nonneg_right h2 (show 0 ≤ p by omega)
    rw [Int.mul_assoc, Int.mul_comm P.toInt, ← Int.mul_assoc] at this
    exact this
  · refine Int.ediv_le_of_le_mul hP0 (Int.mul_le_mul_of_nonneg_left hp2 h1)
  · have h7 : (a.toInt - R * (P.toInt - p)) ≤ a.toInt * p / P.toInt := by
      refine Int.le_ediv_of_mul_le hP0 ?_
      have h8 : (R * P.toInt - a.toInt) * (P.toInt - p) ≥ 0 := Int.mul_nonneg (by omega) (by omega)
      have e1 : (a.toInt - R * (P.toInt - p)) * P.toInt = a.toInt * P.toInt - R * (P.toInt - p) * P.toInt := Int.sub_mul _ _ _
      have e2 : (R * P.toInt - a.toInt) * (P.toInt - p) = R * (P.toInt - p) * P.toInt - a.toInt * P.toInt + a.toInt * p := by
        rw [Int.sub_mul, Int.mul_sub a.toInt, Int.mul_assoc, Int.mul_comm P.toInt (P.toInt - p), ← Int.mul_assoc]
        omega
      omega
    omega
theorem fParted_pos {a d : Int64} (h : 0 < d.toInt) : fParted a d = a / d := if_pos ((q_pos d).mpr h)
end ZSA
end
section
/-! the two sides agree: keys, homes, generations -/
section ZSB
variable {np ng : Nat} {G : Nat → Nat} {MI : Nat → Nat → Int32} {MJ : Nat → Nat → Int64} {XI : Nat → Nat → Int32} {XJ : Nat → Nat → Int64}
theorem hF_spec {b t : Nat → Int32} {y te : Int32} : ∀ (n f : Nat), (∃ k, k < n ∧ (b k = y ∧ t k = te) ∧ hF b t y te n f = k ∧ ∀ i, i < k → ¬ (b i = y ∧ t i = te)) ∨ (hF b t y te n f = f ∧ ∀ k, k < n → ¬ (b k = y ∧ t k = te)) := by
  intro n
  induction n with
  | zero => intro f; exact Or.inr ⟨rfl, fun k h => absurd h (Nat.not_lt_zero _)⟩
  | succ n ih =>
    intro f
    simp only [hF]
    rcases ih (if b n = y ∧ t n = te then n else f) with ⟨k, h1, h2, h3, h4⟩ | ⟨h1, h2⟩
    · exact Or.inl ⟨k, by omega, h2, h3, h4⟩
    · by_cases hm : b n = y ∧ t n = te
      · rw [if_pos hm] at h1 ⊢
        exact Or.inl ⟨n, by omega, hm, h1, h2⟩
      · rw [if_neg hm] at h1 ⊢
        refine Or.inr ⟨h1, fun k hk => ?_⟩
        rcases Nat.lt_or_ge k n with h | h
        · exact h2 k h
        · rw [show k = n by omega]; exact hm
theorem mF_spec {b t : Nat → Int32} {y te : Int32} : ∀ (n : Nat) (f : Int32), (∃ k, k < n ∧ (b k = y ∧ t k = te) ∧ mF b t y te n f = nI k ∧ ∀ i, i < k → ¬ (b i = y ∧ t i = te)) ∨ (mF b t y te n f = f ∧ ∀ k, k < n → ¬ (b k = y ∧ t k = te)) := by
  intro n
  induction n with
  | zero => intro f; exact Or.inr ⟨rfl, fun k h => absurd h (Nat.not_lt_zero _)⟩
  | succ n ih =>
    intro f
    simp only [mF]
    rcases ih (if b n = y ∧ t n = te then nI n else f) with ⟨k, h1, h2, h3, h4⟩ | ⟨h1, h2⟩
    · exact Or.inl ⟨k, by omega, h2, h3, h4⟩
    · by_cases hm : b n = y ∧ t n = te
      · rw [if_pos hm] at h1 ⊢
        exact Or.inl ⟨n, by omega, hm, h1, h2⟩
      · rw [if_neg hm] at h1 ⊢
        refine Or.inr ⟨h1, fun k hk => ?_⟩
        rcases Nat.lt_or_ge k n with h | h
        · exact h2 k h
        · rw [show k = n by omega]; exact hm
theorem xF_spec {b t : Nat → Int32} {y te : Int32} : ∀ (n k : Nat), (∃ i, k ≤ i ∧ i < k + n ∧ (b i = y ∧ t i = te) ∧ xF b t y te n k = some i) ∨ (xF b t y te n k = none ∧ ∀ i, k ≤ i → i < k + n → ¬ (b i = y ∧ t i = te)) := by
  intro n
  induction n with
  | zero => intro k; exact Or.inr ⟨rfl, fun i h1 h2 => by omega⟩
  | succ n ih =>
    intro k
    simp only [xF]
    by_cases hm : b k = y ∧ t k = te
    · rw [if_pos hm]
      exact Or.inl ⟨k, Nat.le_refl _, by omega, hm, rfl⟩
    · rw [if_neg hm]
      rcases ih (k + 1) with ⟨i, h1, h2, h3, h4⟩ | ⟨h1, h2⟩
      · exact Or.inl ⟨i, by omega, by omega, h3, h4⟩
      · refine Or.inr ⟨h1, fun i g1 g2 => ?_⟩
        rcases Nat.eq_or_lt_of_le g1 with h | h
        · rw [← h]; exact hm
        · exact h2 i h (by omega)
/-- the lowest policy of a generation -/
theorem hm_spec {j : Nat} (hj : j < np) : hm MI np j ≤ j ∧ MI 1 (hm MI np j) = MI 1 j ∧ MI 2 (hm MI np j) = MI 2 j ∧ ∀ i, i < hm MI np j → ¬ (MI 1 i = MI 1 j ∧ MI 2 i = MI 2 j) := by
  unfold hm
  rcases hF_spec (b := MI 1) (t := MI 2) (y := MI 1 j) (te := MI 2 j) np 0 with ⟨k, h1, h2, h3, h4⟩ | ⟨-, h2⟩
  · rw [h3]
    refine ⟨Nat.not_lt.mp fun h => h4 j h ⟨rfl, rfl⟩, h2.1, h2.2, h4⟩
  · exact absurd ⟨rfl, rfl⟩ (h2 j hj)
theorem hm_same {j k : Nat} (hj : j < np) (hk : k < np) (h1 : MI 1 j = MI 1 k) (h2 : MI 2 j = MI 2 k) : hm MI np j = hm MI np k := by unfold hm; rw [h1, h2]
theorem hm_hm {j : Nat} (hj : j < np) : hm MI np (hm MI np j) = hm MI np j := by
  obtain ⟨h1, h2, h3, -⟩ := hm_spec (MI := MI) hj
  exact hm_same (by omega) hj h2 h3
theorem hm_lt {j : Nat} (hj : j < np) : hm MI np j < np := Nat.lt_of_le_of_lt (hm_spec (MI := MI) hj).1 hj
theorem hm_cast {M : Nat → Nat → Int32} (h1 : M 1 = MI 1) (h2 : M 2 = MI 2) (j : Nat) : hm M np j = hm MI np j := by unfold hm; rw [h1, h2]
/-- how many homes lie below -/
def cnt (MI : Nat → Nat → Int32) (np : Nat) : Nat → Nat
  | 0 => 0
  | k + 1 => cnt MI np k + (if hm MI np k = k then 1 else 0)
theorem cnt_cast {M : Nat → Nat → Int32} (h1 : M 1 = MI 1) (h2 : M 2 = MI 2) : ∀ k, cnt M np k = cnt MI np k := by
  intro k
  induction k with
  | zero => rfl
  | succ k ih => simp only [cnt]; rw [ih, hm_cast h1 h2]
theorem cnt_le : ∀ {k n : Nat}, k ≤ n → cnt MI np k ≤ cnt MI np n := by
  intro k n h
  induction n with
  | zero => rw [show k = 0 by omega]; exact Nat.le_refl _
  | succ n ih =>
    rcases Nat.eq_or_lt_of_le h with h | h
    · rw [h]; exact Nat.le_refl _
    · simp only [cnt]; exact Nat.le_trans (ih (by omega)) (Nat.le_add_right _ _)
theorem cnt_id : ∀ (k : Nat), cnt MI np k ≤ k := by
  intro k
  induction k with
  | zero => exact Nat.le_refl _
  | succ k ih => simp only [cnt]; split <;> omega
/-- every number below is a home's -/
theorem cnt_sur : ∀ (n i : Nat), i < cnt MI np n → ∃ k, k < n ∧ hm MI np k = k ∧ cnt MI np k = i := by
  intro n
  induction n with
  | zero => intro i h; exact absurd h (Nat.not_lt_zero _)
  | succ n ih =>
    intro i h
    simp only [cnt] at h
    by_cases hh : hm MI np n = n
    · rw [if_pos hh] at h
      rcases Nat.lt_or_ge i (cnt MI np n) with q | q
      · obtain ⟨k, h1, h2⟩ := ih i q
        exact ⟨k, by omega, h2⟩
      · exact ⟨n, by omega, hh, by omega⟩
    · rw [if_neg hh] at h
      obtain ⟨k, h1, h2⟩ := ih i (by omega)
      exact ⟨k, by omega, h2⟩
/-- policies and generations name the same -/
def sK (np ng : Nat) (G : Nat → Nat) (MI XI : Nat → Nat → Int32) : Prop :=
  (∀ j, j < np → MI 1 j = XI 11 (G j) ∧ MI 2 j = XI 12 (G j) ∧ MI 3 j = XI 13 j ∧ MI 4 j = XI 14 j ∧ MI 5 j = XI 15 j ∧ G j < ng) ∧
  (∀ i k, i < ng → k < ng → XI 11 i = XI 11 k → XI 12 i = XI 12 k → i = k) ∧
  ((∀ k, k < np → hm MI np k = k → G k = cnt MI np k) ∧ cnt MI np np = ng) ∧ mOK MI np ∧ ∀ j, j < np → 0 ≤ (MI 4 j).toInt ∧ (MI 4 j).toInt ≤ 100000
theorem sK.key (h : sK np ng G MI XI) {j k : Nat} (hj : j < np) (hk : k < np) : G j = G k ↔ (MI 1 j = MI 1 k ∧ MI 2 j = MI 2 k) := by
  obtain ⟨a1, a2, -, -, -, a6⟩ := h.1 j hj
  obtain ⟨b1, b2, -, -, -, b6⟩ := h.1 k hk
  constructor
  · intro e
    rw [a1, a2, b1, b2, e]
    exact ⟨rfl, rfl⟩
  · rintro ⟨e1, e2⟩
    exact h.2.1 _ _ a6 b6 (by rw [← a1, ← b1, e1]) (by rw [← a2, ← b2, e2])
theorem sK.home (h : sK np ng G MI XI) {j k : Nat} (hj : j < np) (hk : k < np) (hh : hm MI np k = k) : G j = G k ↔ hm MI np j = k := by
  rw [h.key hj hk]
  constructor
  · rintro ⟨e1, e2⟩
    rw [hm_same hj hk e1 e2, hh]
  · intro e
    obtain ⟨-, h2, h3, -⟩ := hm_spec (MI := MI) hj
    rw [e] at h2 h3
    exact ⟨h2.symm, h3.symm⟩
theorem sK.hmG (h : sK np ng G MI XI) {j k : Nat} (hj : j < np) (hk : k < np) : G j = G k ↔ hm MI np j = hm MI np k := by
  rw [← h.home (k := hm MI np k) hj (hm_lt hk) (hm_hm hk), ((h.home hk (hm_lt hk) (hm_hm hk)).mpr rfl)]
theorem sK.sur (h : sK np ng G MI XI) {i : Nat} (hi : i < ng) : ∃ k, k < np ∧ hm MI np k = k ∧ G k = i ∧ cnt MI np k = i := by
  obtain ⟨k, h1, h2, h3⟩ := cnt_sur (MI := MI) (np := np) np i (by rw [h.2.2.1.2]; exact hi)
  exact ⟨k, h1, h2, (h.2.2.1.1 k h1 h2).trans h3, h3⟩
theorem sK.gle (h : sK np ng G MI XI) : ng ≤ np := by rw [← h.2.2.1.2]; exact cnt_id np
theorem sK.xOK (h : sK np ng G MI XI) : xOK XI G np ng := by
  refine ⟨h.2.2.2.1.2.1, Nat.le_trans h.gle h.2.2.2.1.2.1, fun j hj => (h.1 j hj).2.2.2.2.2, fun i hi => ?_⟩
  obtain ⟨k, h1, -, h3, -⟩ := h.sur hi
  have := (h.2.2.2.1.2.2 k h1).1
  rw [(h.1 k h1).2.1, h3] at this
  exact this
theorem mPr_same {j k : Nat} (h1 : MI 1 j = MI 1 k) (h2 : MI 2 j = MI 2 k) : mPr MI np j = mPr MI np k := by unfold mPr; rw [h1, h2]
/-- the funds agree, and are bounded -/
def sF (np : Nat) (G : Nat → Nat) (MI : Nat → Nat → Int32) (MJ XJ : Nat → Nat → Int64) (R : Int) : Prop :=
  (∀ j, j < np → XJ 7 (G j) = mPr MI np j ∧ MJ 2 (hm MI np j) = XJ 8 (G j) ∧ 0 ≤ (XJ 8 (G j)).toInt ∧ (XJ 8 (G j)).toInt ≤ R * (XJ 7 (G j)).toInt) ∧
  (∀ k, (np ≤ k ∨ hm MI np k ≠ k) → MJ 2 k = 0) ∧ MJ 0 0 = XJ 4 0 ∧ MJ 0 1 = XJ 4 1
theorem mPr_b (h : mOK MI np) (j : Nat) : 0 ≤ (mPr MI np j).toInt ∧ (mPr MI np j).toInt ≤ 30000 := by
  obtain ⟨h1, h2, h3⟩ := mP_iP (b := MI 1) (t := MI 2) (st := MI 5) (pr := MI 3) (y := MI 1 j) (te := MI 2 j) np h.2.1 h.pr
  have := h.2.1
  unfold mPr
  rw [h1]
  omega
end ZSB
end
section
/-! the two sides agree: the generations grow -/
section ZSC
variable {np ng : Nat} {G : Nat → Nat} {MI : Nat → Nat → Int32} {MJ : Nat → Nat → Int64} {XI : Nat → Nat → Int32} {XJ : Nat → Nat → Int64}
theorem xGG_ge {rt : Int32} : ∀ (n : Nat), ng ≤ n → xGG XI ng rt n XJ = xGG XI ng rt ng XJ := by
  intro n
  induction n with
  | zero => intro h; rw [show ng = 0 by omega]
  | succ n ih =>
    intro h
    rcases Nat.eq_or_lt_of_le h with h | h
    · rw [h]
    · show xGG1 XI ng rt n (xGG XI ng rt n XJ) = _
      unfold xGG1
      rw [if_neg (by omega)]
      exact ih (by omega)
/-- the funds behind a growth: gR -/
def gRel (np : Nat) (G : Nat → Nat) (MI : Nat → Nat → Int32) (MJ XJ J X : Nat → Nat → Int64) (R R' : Int) (c : Nat) : Prop :=
  (∀ a, a ≠ 0 → a ≠ 2 → J a = MJ a) ∧ (∀ a, a ≠ 4 → a ≠ 8 → X a = XJ a) ∧ (∀ j, j < np → J 2 (hm MI np j) = X 8 (G j) ∧ (G j < c → 0 ≤ (X 8 (G j)).toInt ∧ (X 8 (G j)).toInt ≤ R' * (XJ 7 (G j)).toInt) ∧ (c ≤ G j → X 8 (G j) = XJ 8 (G j))) ∧
  (∀ k, (np ≤ k ∨ hm MI np k ≠ k) → J 2 k = MJ 2 k) ∧ J 0 0 = X 4 0 ∧ J 0 1 = X 4 1
set_option maxHeartbeats 1000000 in
theorem grow_1 {rt : Int32} {R R' : Int} (hK : sK np ng G MI XI) (hF : sF np G MI MJ XJ R) (hc : MI 0 2 = XI 10 4) (hch : 0 ≤ (MI 0 2).toInt ∧ (MI 0 2).toInt ≤ 100) (hrt : -200 ≤ rt.toInt ∧ rt.toInt ≤ 200) (hR : 0 ≤ R ∧ R ≤ 20000) (hR' : 6 * (R + 1) ≤ 5 * R' ∧ 0 ≤ R') :
    ∀ (k : Nat), k ≤ np → gRel np G MI MJ XJ (mGrow MI rt np k MJ) (xGG XI ng rt (cnt MI np k) XJ) R R' (cnt MI np k) := by
  intro k
  induction k with
  | zero =>
    intro _
    refine ⟨fun _ _ _ => rfl, fun _ _ _ => rfl, fun j hj => ⟨(hF.1 j hj).2.1, fun h => absurd h (Nat.not_lt_zero _), fun _ => rfl⟩, fun _ _ => rfl, hF.2.2.1, hF.2.2.2⟩
  | succ k ih =>
    intro hk
    have hkn : k < np := hk
    obtain ⟨g1, g2, g3, g4, g5, g6⟩ := ih (Nat.le_of_succ_le hk)
    show gRel np G MI MJ XJ (mGrow1 MI rt np k (mGrow MI rt np k MJ)) _ R R' (cnt MI np (k + 1))
    generalize mGrow MI rt np k MJ = J at g1 g3 g4 g5 g6 ⊢
    simp only [cnt]
    by_cases hh : hm MI np k = k
    · rw [if_pos hh]
      show gRel np G MI MJ XJ (mGrow1 MI rt np k J) (xGG1 XI ng rt (cnt MI np k) (xGG XI ng rt (cnt MI np k) XJ)) R R' _
      generalize xGG XI ng rt (cnt MI np k) XJ = X at g2 g3 g5 g6 ⊢
      have hGk : G k = cnt MI np k := hK.2.2.1.1 k hkn hh
      rw [← hGk] at g3 ⊢
      have hgn : G k < ng := (hK.1 k hkn).2.2.2.2.2
      obtain ⟨f1, f2, f3, f4⟩ := hF.1 k hkn
      obtain ⟨k1, k2, k3⟩ := g3 k hkn
      rw [hh] at k1 f2
      have hX8 : X 8 (G k) = XJ 8 (G k) := k3 (Nat.le_refl _)
      have hX7 : X 7 (G k) = mPr MI np k := by rw [g2 7 (by decide) (by decide)]; exact f1
      have hPb := mPr_b hK.2.2.2.1 k
      have hsame : ∀ j, j < np → (G j = G k ↔ hm MI np j = k) := fun j hj => hK.home hj hkn hh
      unfold mGrow1 xGG1
      rw [hX7]
      by_cases hP : 0 < mPr MI np k
      · rw [if_pos ⟨hh, hP⟩, if_pos ⟨hgn, hP⟩]
        have hP' := (q_pos _).mp hP
        rw [f1] at f4
        generalize hPe : mPr MI np k = P at *
        obtain ⟨a, ha⟩ : ∃ a, a = J 2 k := ⟨_, rfl⟩
        have hXa : X 8 (G k) = a := by rw [ha, k1]
        rw [hXa, ← ha]
        have ha0 : 0 ≤ a.toInt := by rw [← hXa, hX8]; exact f3
        have haR : a.toInt ≤ R * P.toInt := by rw [← hXa, hX8]; exact f4
        have hRP : R * P.toInt ≤ 20000 * 30000 := (i_mulb hR.1 hR.2 hPb.1 hPb.2).2
        have hs : (a + P).toInt = a.toInt + P.toInt := l_add (by omega) (by omega)
        have hr64 : (Int32.toInt64 rt).toInt = rt.toInt := Int32.toInt_toInt64 _
        obtain ⟨e1, e2, e3⟩ := earn_z (a := a + P) (r := Int32.toInt64 rt) (A := 2 ^ 40) (by omega) (by omega) (by omega) (by rw [hr64]; exact hrt.1) (by rw [hr64]; exact hrt.2)
        have hassoc : a + (P + fPart (a + P) (Int32.toInt64 rt)) = a + P + fPart (a + P) (Int32.toInt64 rt) := (Int64.add_assoc _ _ _).symm
        rw [hassoc]
        have hft : fThou (a + P) (Int32.toInt64 rt) = fPart (a + P) (Int32.toInt64 rt) := fThou_part _ _
        rw [hft]
        generalize hE : a + P + fPart (a + P) (Int32.toInt64 rt) = E at *
        have hc64 : (Int32.toInt64 (MI 0 2)).toInt = (MI 0 2).toInt := Int32.toInt_toInt64 _
        obtain ⟨c1, c2, c3, c4⟩ := charge_z (a := E) (c := Int32.toInt64 (MI 0 2)) (A := E.toInt) e2 (Int.le_refl _) (by omega) (by rw [hc64]; exact hch.1) (by rw [hc64]; exact hch.2)
        rw [← hc, c4]
        generalize hD : E - fPart E (Int32.toInt64 (MI 0 2)) = V at *
        have hVR : V.toInt ≤ R' * P.toInt := by
          have h1 : 6 * (R + 1) * P.toInt ≤ 5 * R' * P.toInt := Int.mul_le_mul_of_nonneg_right hR'.1 (by omega)
          have h2 : 6 * (R + 1) * P.toInt = 6 * (R * P.toInt) + 6 * P.toInt := by rw [Int.mul_assoc, Int.add_mul]; omega
          have h3 : 5 * R' * P.toInt = 5 * (R' * P.toInt) := Int.mul_assoc _ _ _
          omega
        refine ⟨fun b hb0 hb2 => ?_, fun b hb4 hb8 => ?_, fun j hj => ?_, fun m hm' => ?_, ?_, ?_⟩
        · rw [u2_k hb0, u2_k hb2, u2_k hb0, u2_k hb2]; exact g1 b hb0 hb2
        · rw [u2_k hb4, u2_k hb8, u2_k hb4, u2_k hb8, u2_k hb4, u2_k hb8]; exact g2 b hb4 hb8
        · by_cases hj2 : G j = G k
          · have hj3 := (hsame j hj).mp hj2
            rw [hj3, hj2]
            have e8 : XJ 7 (G k) = P := f1
            rw [e8]
            refine ⟨?_, fun _ => ?_, fun h => by omega⟩
            · simp only [u2]; simp
            · have : ∀ z : Nat → Nat → Int64, u2 (u2 z 8 (G k) V) 4 0 (X 4 0 + fPart E (Int32.toInt64 (MI 0 2))) 8 (G k) = V := fun z => by simp [u2]
              rw [this]
              exact ⟨c2, hVR⟩
          · have hj3 : ¬ hm MI np j = k := fun q => hj2 ((hsame j hj).mpr q)
            obtain ⟨q1, q2, q3⟩ := g3 j hj
            have r1 : ∀ (z1 z2 z3 z4 : Int64), u2 (u2 (u2 (u2 J 2 k z1) 0 1 z2) 2 k z3) 0 0 z4 2 (hm MI np j) = J 2 (hm MI np j) := fun z1 z2 z3 z4 => by simp [u2, hj3]
            have r2 : ∀ (z1 z2 z3 z4 z5 z6 : Int64), u2 (u2 (u2 (u2 (u2 (u2 X 8 (G k) z1) 4 1 z2) 8 (G k) z3) 4 1 z4) 8 (G k) z5) 4 0 z6 8 (G j) = X 8 (G j) := fun z1 z2 z3 z4 z5 z6 => by simp [u2, hj2]
            rw [r1, r2]
            exact ⟨q1, fun h => q2 (by omega), fun h => q3 (by omega)⟩
        · have hmk : m ≠ k := fun q => by subst q; rcases hm' with q | q; omega; exact q hh
          rw [← g4 m hm']
          simp [u2, hmk]
        · simp [u2, g5]
        · simp only [u2]
          simp
          rw [g6]
          exact (Int64.add_assoc _ _ _).symm
      · rw [if_neg (fun q => hP q.2), if_neg (fun q => hP q.2)]
        refine ⟨g1, g2, fun j hj => ?_, g4, g5, g6⟩
        obtain ⟨q1, q2, q3⟩ := g3 j hj
        refine ⟨q1, fun h => ?_, fun h => q3 (by omega)⟩
        by_cases hj2 : G j = G k
        · rw [hj2, hX8, f1]
          have hz : (mPr MI np k).toInt = 0 := by
            have := Int.not_lt.mp (fun q => hP ((q_pos _).mpr q))
            omega
          rw [f1, hz] at f4
          rw [hz]
          omega
        · exact q2 (by omega)
    · rw [if_neg hh]
      unfold mGrow1
      rw [if_neg (fun q => hh q.1)]
      exact ⟨g1, g2, g3, g4, g5, g6⟩
end ZSC
end
section
/-! the two sides agree: funds alone and bonuses -/
section ZSD
variable {np ng : Nat} {G : Nat → Nat} {MI : Nat → Nat → Int32} {MJ : Nat → Nat → Int64} {XI : Nat → Nat → Int32} {XJ : Nat → Nat → Int64}
theorem i_add {a b : Int32} (h1 : -(2 ^ 31) ≤ a.toInt + b.toInt) (h2 : a.toInt + b.toInt < 2 ^ 31) : (a + b).toInt = a.toInt + b.toInt := by
  rw [Int32.toInt_add]
  exact Int.bmod_eq_of_le (by omega) (by omega)
theorem to32 {x : Int64} (h1 : -(2 ^ 31) ≤ x.toInt) (h2 : x.toInt < 2 ^ 31) : (Int64.toInt32 x).toInt = x.toInt := by
  rw [Int64.toInt_toInt32]
  exact Int.bmod_eq_of_le (by omega) (by omega)
theorem to64 (x : Int32) : (Int32.toInt64 x).toInt = x.toInt := Int32.toInt_toInt64 x
def alF (a : Int64) (p rt ch : Int32) : Int64 := a + Int32.toInt64 p + fPart (a + Int32.toInt64 p) (Int32.toInt64 rt) - fPart (a + Int32.toInt64 p + fPart (a + Int32.toInt64 p) (Int32.toInt64 rt)) (Int32.toInt64 ch)
def boF (s g br : Int32) : Int32 := g + Int64.toInt32 (fPart (Int32.toInt64 (s + g)) (Int32.toInt64 br))
theorem mGrI_a {a : Nat} (h : a ≠ 6) : ∀ (k : Nat) (M : Nat → Nat → Int32), mGrI k M a = M a := by
  intro k
  induction k with
  | zero => intro M; rfl
  | succ k ih =>
    intro M
    simp only [mGrI]
    unfold mGr1I
    split
    · rw [u2_k h]; exact ih M
    · exact ih M
theorem mGrI_at : ∀ (k : Nat) (M : Nat → Nat → Int32) (j : Nat), mGrI k M 6 j = if j < k ∧ M 5 j = 0 then boF (M 4 j) (M 6 j) (M 0 1) else M 6 j := by
  intro k
  induction k with
  | zero => intro M j; rw [if_neg (fun q => absurd q.1 (Nat.not_lt_zero _))]; rfl
  | succ k ih =>
    intro M j
    simp only [mGrI]
    unfold mGr1I
    rw [mGrI_a (a := 5) (by decide) k M, mGrI_a (a := 4) (by decide) k M, mGrI_a (a := 0) (by decide) k M]
    have hk := ih M k
    rw [if_neg (fun q => absurd q.1 (Nat.lt_irrefl _))] at hk
    by_cases h5 : M 5 k = 0
    · rw [if_pos h5]
      by_cases hj : j = k
      · subst hj
        rw [u2_s, if_pos ⟨by omega, h5⟩, hk]; rfl
      · rw [u2_n hj, ih M j]
        by_cases hjk : j < k ∧ M 5 j = 0
        · rw [if_pos hjk, if_pos ⟨by omega, hjk.2⟩]
        · rw [if_neg hjk, if_neg (fun q => hjk ⟨by omega, q.2⟩)]
    · rw [if_neg h5, ih M j]
      by_cases hjk : j < k ∧ M 5 j = 0
      · rw [if_pos hjk, if_pos ⟨by omega, hjk.2⟩]
      · rw [if_neg hjk, if_neg (fun q => by
          rcases Nat.lt_or_ge j k with h | h
          · exact hjk ⟨h, q.2⟩
          · exact h5 (by rw [← show j = k by omega]; exact q.2))]
theorem mGrJ_a {rt : Int32} {a : Nat} (h : a ≠ 1) : ∀ (k : Nat) (M : Nat → Nat → Int32) (J : Nat → Nat → Int64), mGrJ rt k M J a = J a := by
  intro k
  induction k with
  | zero => intro M J; rfl
  | succ k ih =>
    intro M J
    simp only [mGrJ]
    unfold mGr1J
    split
    · rw [u2_k h]; exact ih M J
    · exact ih M J
theorem mGrJ_at {rt : Int32} : ∀ (k : Nat) (M : Nat → Nat → Int32) (J : Nat → Nat → Int64) (j : Nat), mGrJ rt k M J 1 j = if j < k ∧ M 5 j = 0 then alF (J 1 j) (M 3 j) rt (M 0 2) else J 1 j := by
  intro k
  induction k with
  | zero => intro M J j; rw [if_neg (fun q => absurd q.1 (Nat.not_lt_zero _))]; rfl
  | succ k ih =>
    intro M J j
    simp only [mGrJ]
    unfold mGr1J
    rw [mGrI_a (a := 5) (by decide) k M, mGrI_a (a := 3) (by decide) k M, mGrI_a (a := 0) (by decide) k M]
    have hk := ih M J k
    rw [if_neg (fun q => absurd q.1 (Nat.lt_irrefl _))] at hk
    by_cases h5 : M 5 k = 0
    · rw [if_pos h5]
      by_cases hj : j = k
      · subst hj
        rw [u2_s, if_pos ⟨by omega, h5⟩, hk]; rfl
      · rw [u2_n hj, ih M J j]
        by_cases hjk : j < k ∧ M 5 j = 0
        · rw [if_pos hjk, if_pos ⟨by omega, hjk.2⟩]
        · rw [if_neg hjk, if_neg (fun q => hjk ⟨by omega, q.2⟩)]
    · rw [if_neg h5, ih M J j]
      by_cases hjk : j < k ∧ M 5 j = 0
      · rw [if_pos hjk, if_pos ⟨by omega, hjk.2⟩]
      · rw [if_neg hjk, if_neg (fun q => by
          rcases Nat.lt_or_ge j k with h | h
          · exact hjk ⟨h, q.2⟩
          · exact h5 (by rw [← show j = k by omega]; exact q.2))]
theorem xPA_a {rt : Int32} {a : Nat} (h : a ≠ 9) : ∀ (k : Nat) (J : Nat → Nat → Int64), xPA XI np rt k J a = J a := by
  intro k
  induction k with
  | zero => intro J; rfl
  | succ k ih =>
    intro J
    simp only [xPA]
    unfold xPA1
    split
    · rw [u2_k h, u2_k h, u2_k h]; exact ih J
    · exact ih J
def alX (a : Int64) (p rt ch : Int32) : Int64 := a + Int32.toInt64 p + fThou (a + Int32.toInt64 p) (Int32.toInt64 rt) - fChg (a + Int32.toInt64 p + fThou (a + Int32.toInt64 p) (Int32.toInt64 rt)) (Int32.toInt64 ch)
theorem xPA_at {rt : Int32} : ∀ (k : Nat) (J : Nat → Nat → Int64) (j : Nat), xPA XI np rt k J 9 j = if j < k ∧ j < np ∧ XI 15 j = 0 then alX (J 9 j) (XI 13 j) rt (XI 10 4) else J 9 j := by
  intro k
  induction k with
  | zero => intro J j; rw [if_neg (fun q => absurd q.1 (Nat.not_lt_zero _))]; rfl
  | succ k ih =>
    intro J j
    simp only [xPA]
    unfold xPA1
    have hk := ih J k
    rw [if_neg (fun q => absurd q.1 (Nat.lt_irrefl _))] at hk
    by_cases h5 : k < np ∧ XI 15 k = 0
    · rw [if_pos h5]
      by_cases hj : j = k
      · subst hj
        rw [u2_s, if_pos ⟨by omega, h5⟩, hk]; rfl
      · rw [u2_n hj, u2_n hj, u2_n hj, ih J j]
        by_cases hjk : j < k ∧ j < np ∧ XI 15 j = 0
        · rw [if_pos hjk, if_pos ⟨by omega, hjk.2⟩]
        · rw [if_neg hjk, if_neg (fun q => hjk ⟨by omega, q.2⟩)]
    · rw [if_neg h5, ih J j]
      by_cases hjk : j < k ∧ j < np ∧ XI 15 j = 0
      · rw [if_pos hjk, if_pos ⟨by omega, hjk.2⟩]
      · rw [if_neg hjk, if_neg (fun q => by
          rcases Nat.lt_or_ge j k with h | h
          · exact hjk ⟨h, q.2⟩
          · exact h5 (by rw [← show j = k by omega]; exact q.2))]
theorem xGB_a {a : Nat} (h : a ≠ 10) : ∀ (k : Nat) (J : Nat → Nat → Int64), xGB XI np k J a = J a := by
  intro k
  induction k with
  | zero => intro J; rfl
  | succ k ih =>
    intro J
    simp only [xGB]
    unfold xGB1
    split
    · rw [u2_k h]; exact ih J
    · exact ih J
theorem xGB_at : ∀ (k : Nat) (J : Nat → Nat → Int64) (j : Nat), xGB XI np k J 10 j = if j < k ∧ j < np ∧ XI 15 j = 0 then J 10 j + fThou (Int32.toInt64 (XI 14 j) + J 10 j) (Int32.toInt64 (XI 10 3)) else J 10 j := by
  intro k
  induction k with
  | zero => intro J j; rw [if_neg (fun q => absurd q.1 (Nat.not_lt_zero _))]; rfl
  | succ k ih =>
    intro J j
    simp only [xGB]
    unfold xGB1
    have hk := ih J k
    rw [if_neg (fun q => absurd q.1 (Nat.lt_irrefl _))] at hk
    by_cases h5 : k < np ∧ XI 15 k = 0
    · rw [if_pos h5]
      by_cases hj : j = k
      · subst hj
        rw [u2_s, if_pos ⟨by omega, h5⟩, hk]
      · rw [u2_n hj, ih J j]
        by_cases hjk : j < k ∧ j < np ∧ XI 15 j = 0
        · rw [if_pos hjk, if_pos ⟨by omega, hjk.2⟩]
        · rw [if_neg hjk, if_neg (fun q => hjk ⟨by omega, q.2⟩)]
    · rw [if_neg h5, ih J j]
      by_cases hjk : j < k ∧ j < np ∧ XI 15 j = 0
      · rw [if_pos hjk, if_pos ⟨by omega, hjk.2⟩]
      · rw [if_neg hjk, if_neg (fun q => by
          rcases Nat.lt_or_ge j k with h | h
          · exact hjk ⟨h, q.2⟩
          · exact h5 (by rw [← show j = k by omega]; exact q.2))]
/-- a fund alone, a year on -/
theorem al_z {a : Int64} {p rt ch : Int32} {R R' : Int} (h0 : 0 ≤ a.toInt) (h1 : a.toInt ≤ R * 1000) (hp : 1 ≤ p.toInt ∧ p.toInt ≤ 1000) (hch : 0 ≤ ch.toInt ∧ ch.toInt ≤ 100) (hrt : -200 ≤ rt.toInt ∧ rt.toInt ≤ 200) (hR : 0 ≤ R ∧ R ≤ 20000) (hR' : 6 * (R + 1) ≤ 5 * R') : alX a p rt ch = alF a p rt ch ∧ 0 ≤ (alF a p rt ch).toInt ∧ (alF a p rt ch).toInt ≤ R' * 1000 := by
  unfold alX alF
  have hs : (a + Int32.toInt64 p).toInt = a.toInt + p.toInt := by rw [l_add (by rw [to64]; omega) (by rw [to64]; omega), to64]
  obtain ⟨e1, e2, e3⟩ := earn_z (a := a + Int32.toInt64 p) (r := Int32.toInt64 rt) (A := 2 ^ 40) (by omega) (by omega) (by omega) (by rw [to64]; exact hrt.1) (by rw [to64]; exact hrt.2)
  rw [fThou_part]
  generalize a + Int32.toInt64 p + fPart (a + Int32.toInt64 p) (Int32.toInt64 rt) = E at *
  obtain ⟨c1, c2, c3, c4⟩ := charge_z (a := E) (c := Int32.toInt64 ch) (A := E.toInt) e2 (Int.le_refl _) (by omega) (by rw [to64]; exact hch.1) (by rw [to64]; exact hch.2)
  rw [c4]
  exact ⟨rfl, c2, by omega⟩
/-- a bonus -/
theorem bo_z {s g br : Int32} {x : Int64} {B B' : Int} (hx : Int32.toInt64 g = x) (hs : 0 ≤ s.toInt) (hg : 0 ≤ g.toInt) (hB : s.toInt + g.toInt ≤ B) (hbr : 0 ≤ br.toInt ∧ br.toInt ≤ 200) (hB' : B + B / 5 ≤ B') (hB2 : B' ≤ 2 ^ 30) (hB0 : 0 ≤ B) :
    Int32.toInt64 (boF s g br) = x + fThou (Int32.toInt64 s + x) (Int32.toInt64 br) ∧ 0 ≤ (boF s g br).toInt ∧ s.toInt + (boF s g br).toInt ≤ B' := by
  subst hx
  have e1 : (s + g).toInt = s.toInt + g.toInt := i_add (by omega) (by omega)
  have e2 : Int32.toInt64 (s + g) = Int32.toInt64 s + Int32.toInt64 g := by
    apply Int64.toInt_inj.mp
    rw [to64, e1, l_add (by rw [to64, to64]; omega) (by rw [to64, to64]; omega), to64, to64]
  have h5 := i_mulb (a := (s + g).toInt) (A := B) (b := br.toInt) (B := 200) (by omega) (by omega) hbr.1 hbr.2
  have h5b : (s + g).toInt * br.toInt ≤ (s + g).toInt * 200 := Int.mul_le_mul_of_nonneg_left hbr.2 (by omega)
  have h6 := fPart_z (a := Int32.toInt64 (s + g)) (b := Int32.toInt64 br) (by rw [to64, to64]; omega) (by rw [to64, to64]; omega)
  rw [to64, to64] at h6
  unfold boF
  have e3 := to32 (x := fPart (Int32.toInt64 (s + g)) (Int32.toInt64 br)) (by rw [h6]; omega) (by rw [h6]; omega)
  rw [h6] at e3
  have e4 : (g + Int64.toInt32 (fPart (Int32.toInt64 (s + g)) (Int32.toInt64 br))).toInt = g.toInt + (s + g).toInt * br.toInt / 1000 := by
    rw [i_add (by rw [e3]; omega) (by rw [e3]; omega), e3]
  refine ⟨?_, by rw [e4]; omega, by rw [e4]; omega⟩
  rw [fThou_part, ← e2]
  apply Int64.toInt_inj.mp
  rw [to64, e4, l_add (by rw [to64, h6]; omega) (by rw [to64, h6]; omega), to64, h6]
def sP (np : Nat) (MI XI : Nat → Nat → Int32) (MJ XJ : Nat → Nat → Int64) (R B : Int) : Prop :=
  ∀ j, j < np → (MJ 1 j = XJ 9 j ∧ 0 ≤ (MJ 1 j).toInt ∧ (MJ 1 j).toInt ≤ R * 1000) ∧ (Int32.toInt64 (MI 6 j) = XJ 10 j ∧ 0 ≤ (MI 6 j).toInt ∧ (MI 4 j).toInt + (MI 6 j).toInt ≤ B) ∧ (if MI 5 j = 0 then XJ 11 j = -1 else MI 7 j = Int64.toInt32 (XJ 11 j))
end ZSD
end
section
/-! the two sides agree: a policy leaves -/
section ZSE
variable {np ng : Nat} {G : Nat → Nat} {MI : Nat → Nat → Int32} {MJ : Nat → Nat → Int64} {XI : Nat → Nat → Int32} {XJ : Nat → Nat → Int64}
theorem sK.cast {M X : Nat → Nat → Int32} (h : sK np ng G MI XI) (h6 : M 0 6 = MI 0 6) (h1 : M 1 = MI 1) (h2 : M 2 = MI 2) (h3 : M 3 = MI 3) (h4 : M 4 = MI 4) (h5 : ∀ j, j < np → M 5 j = X 15 j) (x1 : X 11 = XI 11) (x2 : X 12 = XI 12) (x3 : X 13 = XI 13) (x4 : X 14 = XI 14) : sK np ng G M X := by
  refine ⟨fun j hj => ?_, ?_, ⟨fun k hk hh => ?_, ?_⟩, h.2.2.2.1.to h6 h2 h3, ?_⟩
  · obtain ⟨a1, a2, a3, a4, a5, a6⟩ := h.1 j hj
    exact ⟨by rw [h1, x1]; exact a1, by rw [h2, x2]; exact a2, by rw [h3, x3]; exact a3, by rw [h4, x4]; exact a4, h5 j hj, a6⟩
  · rw [x1, x2]; exact h.2.1
  · rw [cnt_cast h1 h2]
    rw [hm_cast h1 h2] at hh
    exact h.2.2.1.1 k hk hh
  · rw [cnt_cast h1 h2]; exact h.2.2.1.2
  · rw [h4]; exact h.2.2.2.2
theorem mP_off {b t st pr : Nat → Int32} {y te s0 : Int32} {j : Nat} (hs : st j = 0) (h0 : s0 ≠ 0) : ∀ (n : Nat), mP b t (fun k => if k = j then s0 else st k) pr y te n = mP b t st pr y te n - (if j < n ∧ b j = y ∧ t j = te then Int32.toInt64 (pr j) else 0) := by
  intro n
  induction n with
  | zero => simp [mP]
  | succ n ih =>
    simp only [mP]
    rw [ih]
    by_cases hn : n = j
    · subst hn
      rw [if_neg (show ¬ (n < n ∧ b n = y ∧ t n = te) from fun q => absurd q.1 (Nat.lt_irrefl _))]
      simp only [↓reduceIte]
      by_cases hm : b n = y ∧ t n = te
      · rw [if_neg (fun q => h0 q.2.2), if_pos ⟨hm.1, hm.2, hs⟩, if_pos ⟨Nat.lt_succ_self n, hm⟩]
        grind
      · rw [if_neg (fun q => hm ⟨q.1, q.2.1⟩), if_neg (fun q => hm ⟨q.1, q.2.1⟩), if_neg (fun q => hm q.2)]
        grind
    · simp only [if_neg hn]
      have : (j < n + 1 ∧ b j = y ∧ t j = te) ↔ (j < n ∧ b j = y ∧ t j = te) := by
        constructor
        · rintro ⟨a1, a2⟩; exact ⟨by omega, a2⟩
        · rintro ⟨a1, a2⟩; exact ⟨by omega, a2⟩
      simp only [this]
      grind
theorem u2_5 {j : Nat} {st pay : Int32} : (u2 (u2 MI 5 j st) 7 j pay) 5 = fun k => if k = j then st else MI 5 k := by
  rw [u2_k (by decide)]
  simp [u2]
theorem u2_5a {j k : Nat} {st pay : Int32} : (u2 (u2 MI 5 j st) 7 j pay) 5 k = if k = j then st else MI 5 k := by
  rw [u2_5]
theorem mPr_off {j k : Nat} {st pay : Int32} (hj : j < np) (hs : MI 5 j = 0) (h0 : st ≠ 0) : mPr (u2 (u2 MI 5 j st) 7 j pay) np k = mPr MI np k - (if MI 1 j = MI 1 k ∧ MI 2 j = MI 2 k then Int32.toInt64 (MI 3 j) else 0) := by
  unfold mPr
  rw [u2_5]
  have e1 : (u2 (u2 MI 5 j st) 7 j pay) 1 = MI 1 := by rw [u2_k (by decide), u2_k (by decide)]
  have e2 : (u2 (u2 MI 5 j st) 7 j pay) 2 = MI 2 := by rw [u2_k (by decide), u2_k (by decide)]
  have e3 : (u2 (u2 MI 5 j st) 7 j pay) 3 = MI 3 := by rw [u2_k (by decide), u2_k (by decide)]
  rw [e1, e2, e3, mP_off hs h0]
  simp [hj]
/-- an asset share, on either side -/
theorem share_eq (hK : sK np ng G MI XI) {R : Int} (hF : sF np G MI MJ XJ R) (hR : 0 ≤ R ∧ R ≤ 20000) {j : Nat} (hj : j < np) :
    fAsset (XI 15 j) (XJ 8 (G j)) (XI 13 j) (XJ 7 (G j)) = mShare MI MJ np j ∧ (MI 5 j = 0 → fShare (XJ 8 (G j)) (XI 13 j) (XJ 7 (G j)) = mShare MI MJ np j ∧ (mShare MI MJ np j).toInt ≤ R * (MI 3 j).toInt ∧ (mShare MI MJ np j).toInt ≤ (XJ 8 (G j)).toInt ∧ (XJ 8 (G j)).toInt - (mShare MI MJ np j).toInt ≤ R * ((mPr MI np j).toInt - (MI 3 j).toInt) ∧ (MI 3 j).toInt ≤ (mPr MI np j).toInt) ∧ 0 ≤ (mShare MI MJ np j).toInt ∧ (mShare MI MJ np j).toInt ≤ R * 1000 := by
  obtain ⟨a1, a2, a3, a4, a5, a6⟩ := hK.1 j hj
  obtain ⟨f1, f2, f3, f4⟩ := hF.1 j hj
  unfold fAsset mShare
  rw [← a5, f1, f2, ← a3]
  have hok := hK.2.2.2.1
  obtain ⟨hp1, hp2⟩ := hok.pr j hj
  by_cases hs : MI 5 j = 0
  · rw [if_pos hs, if_pos hs]
    have hb := mPr_b hok j
    have hle : (MI 3 j).toInt ≤ (mPr MI np j).toInt := by
      obtain ⟨h1, h2, h3⟩ := mP_iP (b := MI 1) (t := MI 2) (st := MI 5) (pr := MI 3) (y := MI 1 j) (te := MI 2 j) np hok.2.1 hok.pr
      have := iP_in (b := MI 1) (t := MI 2) (st := MI 5) (pr := MI 3) (y := MI 1 j) (te := MI 2 j) np j hj hok.pr rfl rfl hs
      unfold mPr
      rw [h1]; exact this
    rw [f1] at f4
    obtain ⟨s1, s2, s3, s4, s5⟩ := share_z (a := XJ 8 (G j)) (P := mPr MI np j) (p := (MI 3 j).toInt) (R := R) (q := Int32.toInt64 (MI 3 j)) (to64 _) f3 f4 hp1 hle hb.2 hR.1 (by omega)
    have e1 : fShare (XJ 8 (G j)) (MI 3 j) (mPr MI np j) = XJ 8 (G j) * Int32.toInt64 (MI 3 j) / mPr MI np j := fParted_pos (by omega)
    rw [e1, s1]
    refine ⟨rfl, fun _ => ⟨rfl, s3, s4, s5, hle⟩, s2, Int.le_trans s3 (Int.mul_le_mul_of_nonneg_left hp2 hR.1)⟩
  · rw [if_neg hs, if_neg hs]
    exact ⟨rfl, fun q => absurd q hs, by decide, Int.mul_nonneg hR.1 (by decide)⟩
set_option maxHeartbeats 1000000 in
theorem leave {R B : Int} (hK : sK np ng G MI XI) (hF : sF np G MI MJ XJ R) (hP : sP np MI XI MJ XJ R B) (hR : 0 ≤ R ∧ R ≤ 20000) {j : Nat} (hj : j < np) (hs : MI 5 j = 0) {st : Int32} (hst : st ≠ 0) {pay : Int32} {py : Int64} (hpay : Int32.toInt64 pay = py) :
    sK np ng G (u2 (u2 MI 5 j st) 7 j pay) (u2 XI 15 j st) ∧ sF np G (u2 (u2 MI 5 j st) 7 j pay) (lvJ (mPr (u2 (u2 MI 5 j st) 7 j pay) np j) MJ (hm MI np j) (mShare MI MJ np j) pay) (xCloJ XI G j py XJ) R ∧
      sP np (u2 (u2 MI 5 j st) 7 j pay) (u2 XI 15 j st) (lvJ (mPr (u2 (u2 MI 5 j st) 7 j pay) np j) MJ (hm MI np j) (mShare MI MJ np j) pay) (xCloJ XI G j py XJ) R B := by
  obtain ⟨-, sh, sh0, -⟩ := share_eq hK hF hR hj
  obtain ⟨sh1, sh2, sh3, sh4, sh5⟩ := sh hs
  obtain ⟨a1, a2, a3, a4, a5, a6⟩ := hK.1 j hj
  obtain ⟨f1, f2, f3, f4⟩ := hF.1 j hj
  have hok := hK.2.2.2.1
  obtain ⟨hp1, hp2⟩ := hok.pr j hj
  have hb := mPr_b hok j
  have hz : mPr (u2 (u2 MI 5 j st) 7 j pay) np j = mPr MI np j - Int32.toInt64 (MI 3 j) := by rw [mPr_off hj hs hst, if_pos ⟨rfl, rfl⟩]
  have hzi : (mPr MI np j - Int32.toInt64 (MI 3 j)).toInt = (mPr MI np j).toInt - (MI 3 j).toInt := by rw [l_sub (by rw [to64]; omega) (by rw [to64]; omega), to64]
  have hh : ∀ k, hm (u2 (u2 MI 5 j st) 7 j pay) np k = hm MI np k := hm_cast (by rw [u2_k (by decide), u2_k (by decide)]) (by rw [u2_k (by decide), u2_k (by decide)])
  have hrel : fRel (XJ 8 (G j)) (XI 13 j) (XJ 7 (G j)) = if mPr MI np j - Int32.toInt64 (MI 3 j) = 0 then XJ 8 (G j) else mShare MI MJ np j := by
    unfold fRel
    rw [sh1, f1, ← a3]
    by_cases h0 : mPr MI np j - Int32.toInt64 (MI 3 j) = 0
    · rw [if_pos h0, if_neg (by rw [h0]; decide)]
    · rw [if_neg h0, if_pos]
      rw [q_pos]
      have : ¬ (mPr MI np j - Int32.toInt64 (MI 3 j)).toInt = 0 := fun q => h0 (Int64.toInt_inj.mp (by rw [q]; rfl))
      omega
  rw [hz]
  unfold xCloJ
  rw [hrel, f1, ← a3]
  have hsame : ∀ k, k < np → (G k = G j ↔ hm MI np k = hm MI np j) := fun k hk => hK.hmG hk hj
  generalize hS : mShare MI MJ np j = S at *
  generalize hPe : mPr MI np j = P at *
  generalize hpe : Int32.toInt64 (MI 3 j) = p at *
  generalize hae : XJ 8 (G j) = a at *
  refine ⟨?_, ⟨fun k hk => ?_, fun k hk => ?_, ?_, ?_⟩, fun k hk => ?_⟩
  · refine hK.cast ?_ ?_ ?_ ?_ ?_ (fun k hk => ?_) ?_ ?_ ?_ ?_ <;> first | (rw [u2_k (by decide), u2_k (by decide)]; done) | (rw [u2_k (by decide)]; done) | skip
    rw [u2_5a]
    by_cases hkj : k = j
    · subst hkj; rw [if_pos rfl, u2_s]
    · rw [if_neg hkj, u2_n hkj]; exact (hK.1 k hk).2.2.2.2.1
  · rw [hh]
    obtain ⟨g1, g2, g3, g4⟩ := hF.1 k hk
    rw [mPr_off hj hs hst, hpe]
    by_cases hkj : G k = G j
    · have hkm := (hsame k hk).mp hkj
      have hkey := (hK.key hk hj).mp hkj
      have hif : (if MI 1 j = MI 1 k ∧ MI 2 j = MI 2 k then p else 0) = p := if_pos ⟨hkey.1.symm, hkey.2.symm⟩
      rw [hif, mPr_same hkey.1 hkey.2, hPe, hkj, hkm]
      have e7 : ∀ z : Nat → Nat → Int64, ∀ v8 v4 v5 v11, (u2 (u2 (u2 (u2 (u2 z 7 (G j) (P - p)) 8 (G j) v8) 4 0 v4) 4 1 v5) 11 j v11) 7 (G j) = P - p := fun z v8 v4 v5 v11 => by simp [u2]
      have e8 : ∀ z : Nat → Nat → Int64, ∀ v7 v8 v4 v5 v11, (u2 (u2 (u2 (u2 (u2 z 7 (G j) v7) 8 (G j) v8) 4 0 v4) 4 1 v5) 11 j v11) 8 (G j) = v8 := fun z v7 v8 v4 v5 v11 => by simp [u2]
      rw [e7, e8]
      unfold lvJ
      by_cases h0 : P - p = 0
      · rw [if_pos h0, if_pos h0]
        refine ⟨rfl, ?_, ?_, ?_⟩
        · simp [u2]
        · simp
        · rw [h0]; simp
      · rw [if_neg h0, if_neg h0]
        have e9 : (a - S).toInt = a.toInt - S.toInt := by
          have : a.toInt ≤ 2 ^ 50 := by
            have := (i_mulb hR.1 hR.2 hb.1 hb.2).2
            rw [f1] at f4
            omega
          rw [l_sub (by omega) (by omega)]
        refine ⟨rfl, ?_, by rw [e9]; omega, by rw [e9, hzi]; exact sh4⟩
        simp [u2, f2]
    · have hkm : ¬ hm MI np k = hm MI np j := fun q => hkj ((hsame k hk).mpr q)
      have hkey : ¬ (MI 1 j = MI 1 k ∧ MI 2 j = MI 2 k) := fun q => hkj ((hK.key hk hj).mpr ⟨q.1.symm, q.2.symm⟩)
      have hif : (if MI 1 j = MI 1 k ∧ MI 2 j = MI 2 k then p else 0) = 0 := if_neg hkey
      rw [hif]
      have e7 : ∀ v7 v8 v4 v5 v11, (u2 (u2 (u2 (u2 (u2 XJ 7 (G j) v7) 8 (G j) v8) 4 0 v4) 4 1 v5) 11 j v11) 7 (G k) = XJ 7 (G k) := fun v7 v8 v4 v5 v11 => by simp [u2, hkj]
      have e8 : ∀ v7 v8 v4 v5 v11, (u2 (u2 (u2 (u2 (u2 XJ 7 (G j) v7) 8 (G j) v8) 4 0 v4) 4 1 v5) 11 j v11) 8 (G k) = XJ 8 (G k) := fun v7 v8 v4 v5 v11 => by simp [u2, hkj]
      rw [e7, e8]
      refine ⟨by rw [g1]; simp, ?_, g3, g4⟩
      rw [← g2]
      unfold lvJ
      split <;> simp [u2, hkm]
  · rw [hh] at hk
    rw [← hF.2.1 k hk]
    have hkm : k ≠ hm MI np j := fun q => by
      rcases hk with q2 | q2
      · have := hm_lt (MI := MI) hj
        omega
      · exact q2 (by rw [q]; exact hm_hm hj)
    unfold lvJ
    split <;> simp [u2, hkm]
  · unfold lvJ
    by_cases h0 : P - p = 0
    · rw [if_pos h0, if_pos h0]
      simp only [u2]
      simp
      rw [hF.2.2.1, f2, hpay]
      grind
    · rw [if_neg h0, if_neg h0]
      simp only [u2]
      simp
      rw [hF.2.2.1, hpay]
  · unfold lvJ
    by_cases h0 : P - p = 0
    · rw [if_pos h0]
      simp only [u2]
      simp
      rw [hF.2.2.2, hpay]
    · rw [if_neg h0]
      simp only [u2]
      simp
      rw [hF.2.2.2, hpay]
  · obtain ⟨q1, q2, q3⟩ := hP k hk
    have e1 : lvJ (P - p) MJ (hm MI np j) S pay 1 = MJ 1 := by unfold lvJ; split <;> simp [u2]
    rw [e1]
    have e9 : ∀ v7 v8 v4 v5 v11, (u2 (u2 (u2 (u2 (u2 XJ 7 (G j) v7) 8 (G j) v8) 4 0 v4) 4 1 v5) 11 j v11) 9 = XJ 9 := fun v7 v8 v4 v5 v11 => by simp [u2]
    have e10 : ∀ v7 v8 v4 v5 v11, (u2 (u2 (u2 (u2 (u2 XJ 7 (G j) v7) 8 (G j) v8) 4 0 v4) 4 1 v5) 11 j v11) 10 = XJ 10 := fun v7 v8 v4 v5 v11 => by simp [u2]
    have e6 : (u2 (u2 MI 5 j st) 7 j pay) 6 = MI 6 := by rw [u2_k (by decide), u2_k (by decide)]
    have e4 : (u2 (u2 MI 5 j st) 7 j pay) 4 = MI 4 := by rw [u2_k (by decide), u2_k (by decide)]
    rw [e9, e10, e6, e4]
    refine ⟨q1, q2, ?_⟩
    rw [u2_5a]
    by_cases hkj : k = j
    · subst hkj
      rw [if_pos rfl, if_neg hst, u2_s, u2_s, ← hpay]
      simp
    · rw [if_neg hkj]
      have e11 : ∀ v7 v8 v4 v5 v11, (u2 (u2 (u2 (u2 (u2 XJ 7 (G j) v7) 8 (G j) v8) 4 0 v4) 4 1 v5) 11 j v11) 11 k = XJ 11 k := fun v7 v8 v4 v5 v11 => by simp [u2, hkj]
      have e7 : (u2 (u2 MI 5 j st) 7 j pay) 7 k = MI 7 k := by simp [u2, hkj]
      rw [e11, e7]
      exact q3
end ZSE
end
section
/-! the two sides agree: policies mature -/
section ZSF
variable {np ng : Nat} {G : Nat → Nat} {MI : Nat → Nat → Int32} {MJ : Nat → Nat → Int64} {XI : Nat → Nat → Int32} {XJ : Nat → Nat → Int64}
theorem sF.cast {M : Nat → Nat → Int32} {J X : Nat → Nat → Int64} {R : Int} (h : sF np G MI MJ XJ R) (h1 : M 1 = MI 1) (h2 : M 2 = MI 2) (h3 : M 3 = MI 3) (h5 : M 5 = MI 5) (j0 : J 0 = MJ 0) (j2 : J 2 = MJ 2) (x4 : X 4 = XJ 4) (x7 : X 7 = XJ 7) (x8 : X 8 = XJ 8) : sF np G M J X R := by
  have hp : ∀ k, mPr M np k = mPr MI np k := fun k => by unfold mPr; rw [h1, h2, h3, h5]
  refine ⟨fun j hj => ?_, fun k hk => ?_, by rw [j0, x4]; exact h.2.2.1, by rw [j0, x4]; exact h.2.2.2⟩
  · rw [x7, x8, hp, j2, hm_cast h1 h2]; exact h.1 j hj
  · rw [hm_cast h1 h2] at hk
    rw [j2]; exact h.2.1 k hk
theorem sP.cast {M X' : Nat → Nat → Int32} {J X : Nat → Nat → Int64} {R B : Int} (h : sP np MI XI MJ XJ R B) (h4 : M 4 = MI 4) (h5 : M 5 = MI 5) (h6 : M 6 = MI 6) (h7 : M 7 = MI 7) (j1 : J 1 = MJ 1) (x9 : X 9 = XJ 9) (x10 : X 10 = XJ 10) (x11 : X 11 = XJ 11) : sP np M X' J X R B := by
  intro j hj
  rw [h4, h5, h6, h7, j1, x9, x10, x11]
  exact h j hj
def sRat (r : Nat → Int32) (x : Nat → Int64) : Prop := ∀ t, t < 21 → x t = Int32.toInt64 (r t) - 1 ∧ 0 ≤ (r t).toInt ∧ (r t).toInt ≤ 15000001
theorem clamp_eq {r la m : Int64} (hm : 0 ≤ m.toInt) (hml : m.toInt ≤ la.toInt) (hla : la.toInt ≤ 2 ^ 40) : fMin (fMax r (la - m)) (la + m) = fClamp r la m ∧ ((fClamp r la m).toInt ≤ r.toInt ∨ (fClamp r la m).toInt ≤ la.toInt) ∧ (0 ≤ r.toInt → 0 ≤ (fClamp r la m).toInt) := by
  have e1 : (la - m).toInt = la.toInt - m.toInt := l_sub (by omega) (by omega)
  have e2 : (la + m).toInt = la.toInt + m.toInt := l_add (by omega) (by omega)
  unfold fClamp
  by_cases c1 : r.toInt < la.toInt - m.toInt
  · have m1 : fMax r (la - m) = la - m := if_neg (by rw [Int64.lt_iff_toInt_lt, e1]; omega)
    have m2 : fMin (la - m) (la + m) = la - m := if_neg (by rw [Int64.lt_iff_toInt_lt, e1, e2]; omega)
    rw [m1, m2, if_pos (by rw [Int64.lt_iff_toInt_lt, e1]; exact c1)]
    exact ⟨rfl, Or.inr (by rw [e1]; omega), fun _ => by rw [e1]; omega⟩
  · rw [if_neg (by rw [Int64.lt_iff_toInt_lt, e1]; exact c1)]
    by_cases c2 : la.toInt + m.toInt < r.toInt
    · have m1 : fMax r (la - m) = r := if_pos (by rw [Int64.lt_iff_toInt_lt, e1]; omega)
      have m2 : fMin r (la + m) = la + m := if_pos (by rw [Int64.lt_iff_toInt_lt, e2]; exact c2)
      rw [m1, m2, if_pos (by rw [Int64.lt_iff_toInt_lt, e2]; exact c2)]
      exact ⟨rfl, Or.inl (by rw [e2]; omega), fun _ => by rw [e2]; omega⟩
    · rw [if_neg (by rw [Int64.lt_iff_toInt_lt, e2]; exact c2)]
      have m1 : fMax r (la - m) = r := by
        by_cases c3 : la.toInt - m.toInt < r.toInt
        · exact if_pos (by rw [Int64.lt_iff_toInt_lt, e1]; exact c3)
        · have m0 : fMax r (la - m) = la - m := if_neg (by rw [Int64.lt_iff_toInt_lt, e1]; exact c3)
          rw [m0]
          exact Int64.toInt_inj.mp (by omega)
      have m2 : fMin r (la + m) = r := if_neg (by rw [Int64.lt_iff_toInt_lt, e2]; exact c2)
      rw [m1, m2]
      exact ⟨rfl, Or.inl (Int.le_refl _), fun h => h⟩
/-- a payout's ratio -/
theorem rat_eq {R : Int} (hK : sK np ng G MI XI) (hF : sF np G MI MJ XJ R) (hR : 0 ≤ R ∧ R ≤ 20000) {j t : Nat} (hj : j < np) (hs : MI 5 j = 0) (ht : 2 ≤ t ∧ t < 21) (h3 : MI 0 3 = XI 10 5) (h4 : MI 0 4 = XI 10 6) (hsc : 500 ≤ (MI 0 3).toInt ∧ (MI 0 3).toInt ≤ 1500) (hsp : 0 ≤ (MI 0 4).toInt ∧ (MI 0 4).toInt ≤ 1000) (hr : sRat (MI 8) (XJ 6)) :
    xRat XI XJ G j t = mRat MI MJ np j t ∧ 0 ≤ (mRat MI MJ np j t).toInt ∧ (mRat MI MJ np j t).toInt ≤ 15000000 := by
  obtain ⟨sh, sh1, sh0, -⟩ := share_eq hK hF hR hj
  obtain ⟨-, sh2, -, -, -⟩ := sh1 hs
  obtain ⟨a1, a2, a3, a4, a5, a6⟩ := hK.1 j hj
  obtain ⟨hp1, hp2⟩ := hK.2.2.2.1.pr j hj
  unfold xRat mRat
  rw [sh, ← a3, ← h3, ← h4, fThou_part]
  generalize mShare MI MJ np j = S at *
  have hnt : (nI t).toInt = t := nI_toInt (by omega)
  have hal : (Int32.toInt64 (nI t) * Int32.toInt64 (MI 3 j)).toInt = t * (MI 3 j).toInt := by
    have := i_mulb (a := (t : Int)) (A := 21) (b := (MI 3 j).toInt) (B := 1000) (by omega) (by omega) (by omega) hp2
    rw [l_mul (by rw [to64, to64, hnt]; omega) (by rw [to64, to64, hnt]; omega), to64, to64, hnt]
  have hal2 : 2 * (MI 3 j).toInt ≤ t * (MI 3 j).toInt := Int.mul_le_mul_of_nonneg_right (by omega) (by omega)
  have hSb : S.toInt ≤ 20000 * 1000 := Int.le_trans sh2 (i_mulb hR.1 hR.2 (by omega) hp2).2
  have hm := i_mulb (a := S.toInt) (A := 20000000) (b := (MI 0 3).toInt) (B := 1500) sh0 (by omega) (by omega) hsc.2
  have hm2 : S.toInt * (MI 0 3).toInt ≤ R * (MI 3 j).toInt * 1500 := (i_mulb sh0 sh2 (by omega) hsc.2).2
  have hfp := fPart_z (a := S) (b := Int32.toInt64 (MI 0 3)) (by rw [to64]; omega) (by rw [to64]; omega)
  rw [to64] at hfp
  have h1000 : (1000 : Int64).toInt = 1000 := by decide
  have hf2 : (fPart S (Int32.toInt64 (MI 0 3)) * 1000).toInt = S.toInt * (MI 0 3).toInt / 1000 * 1000 := by
    rw [l_mul (by rw [hfp, h1000]; omega) (by rw [hfp, h1000]; omega), hfp, h1000]
  rw [fParted_pos (by rw [hal]; omega)]
  obtain ⟨raw, hraw⟩ : ∃ z, z = fPart S (Int32.toInt64 (MI 0 3)) * 1000 / (Int32.toInt64 (nI t) * Int32.toInt64 (MI 3 j)) := ⟨_, rfl⟩
  rw [← hraw]
  have hri : raw.toInt = S.toInt * (MI 0 3).toInt / 1000 * 1000 / (t * (MI 3 j).toInt) := by
    rw [hraw, q_div (by rw [hal]; omega), hf2, hal, Int.tdiv_eq_ediv_of_nonneg (by omega)]
  have hr0 : 0 ≤ raw.toInt := by rw [hri]; exact Int.ediv_nonneg (by omega) (by omega)
  have hrQ : raw.toInt ≤ 15000000 := by
    rw [hri]
    refine Int.ediv_le_of_le_mul (by omega) ?_
    have g1 : R * (MI 3 j).toInt ≤ 20000 * (MI 3 j).toInt := Int.mul_le_mul_of_nonneg_right hR.2 (by omega)
    omega
  obtain ⟨r1, r2, r3⟩ := hr t ht.2
  rw [r1]
  unfold fSmooth
  have hone : (1 : Int64).toInt = 1 := by decide
  have hla : (Int32.toInt64 (MI 8 t) - 1).toInt = (MI 8 t).toInt - 1 := by rw [l_sub (by rw [to64, hone]; omega) (by rw [to64, hone]; omega), to64, hone]
  have hz : (0 : Int32).toInt = 0 := by decide
  by_cases h8 : MI 8 t ≤ 0
  · rw [if_pos h8]
    have h80 : (MI 8 t).toInt = 0 := by
      have := Int32.le_iff_toInt_le.mp h8
      omega
    rw [if_pos (Int64.toInt_inj.mp (by rw [hla, h80]; decide))]
    exact ⟨rfl, hr0, hrQ⟩
  · rw [if_neg h8]
    have h81 : 0 < (MI 8 t).toInt := by
      have := fun q => h8 (Int32.le_iff_toInt_le.mpr q)
      rw [hz] at this
      exact Int.not_le.mp this
    rw [if_neg (fun q => by have := congrArg Int64.toInt q; rw [hla] at this; have h9 : (-1 : Int64).toInt = -1 := by decide
                            omega)]
    rw [fThou_part]
    generalize Int32.toInt64 (MI 8 t) - 1 = la at hla ⊢
    have hm5 := i_mulb (a := la.toInt) (A := 15000000) (b := (MI 0 4).toInt) (B := 1000) (by omega) (by omega) hsp.1 hsp.2
    have hm6 : la.toInt * (MI 0 4).toInt ≤ la.toInt * 1000 := Int.mul_le_mul_of_nonneg_left hsp.2 (by omega)
    have hfm := fPart_z (a := la) (b := Int32.toInt64 (MI 0 4)) (by rw [to64]; omega) (by rw [to64]; omega)
    rw [to64] at hfm
    obtain ⟨z1, z2, z3⟩ := clamp_eq (r := raw) (la := la) (m := fPart la (Int32.toInt64 (MI 0 4))) (by rw [hfm]; omega) (by rw [hfm]; omega) (by omega)
    exact ⟨z1, z3 hr0, by omega⟩
/-- what is paid at a maturity -/
theorem pay_eq {R B : Int} (hK : sK np ng G MI XI) (hF : sF np G MI MJ XJ R) (hP : sP np MI XI MJ XJ R B) (hR : 0 ≤ R ∧ R ≤ 20000) (hB : B ≤ 2 ^ 30) {j t : Nat} (hj : j < np) (hs : MI 5 j = 0) (ht : 2 ≤ t ∧ t < 21) (h3 : MI 0 3 = XI 10 5) (h4 : MI 0 4 = XI 10 6) (hsc : 500 ≤ (MI 0 3).toInt ∧ (MI 0 3).toInt ≤ 1500) (hsp : 0 ≤ (MI 0 4).toInt ∧ (MI 0 4).toInt ≤ 1000) (hr : sRat (MI 8) (XJ 6)) :
    Int32.toInt64 (mPay MI MJ np j t) = xPay XI XJ G j t := by
  obtain ⟨e1, e2, e3⟩ := rat_eq hK hF hR hj hs ht h3 h4 hsc hsp hr
  obtain ⟨a1, a2, a3, a4, a5, a6⟩ := hK.1 j hj
  obtain ⟨hp1, hp2⟩ := hK.2.2.2.1.pr j hj
  obtain ⟨-, ⟨q1, q2, q3⟩, -⟩ := hP j hj
  have hsm := hK.2.2.2.2 j hj
  unfold mPay xPay
  rw [e1, ← a3, ← a4, ← q1, fThou_part]
  have hnt : (nI t).toInt = t := nI_toInt (by omega)
  have hal : (Int32.toInt64 (nI t) * Int32.toInt64 (MI 3 j)).toInt = t * (MI 3 j).toInt ∧ 0 ≤ t * (MI 3 j).toInt ∧ t * (MI 3 j).toInt ≤ 21 * 1000 := by
    have := i_mulb (a := (t : Int)) (A := 21) (b := (MI 3 j).toInt) (B := 1000) (by omega) (by omega) (by omega) hp2
    rw [l_mul (by rw [to64, to64, hnt]; omega) (by rw [to64, to64, hnt]; omega), to64, to64, hnt]
    exact ⟨rfl, this.1, this.2⟩
  generalize mRat MI MJ np j t = r at *
  have hm := i_mulb hal.2.1 hal.2.2 e2 e3
  have hfp := fPart_z (a := Int32.toInt64 (nI t) * Int32.toInt64 (MI 3 j)) (b := r) (by rw [hal.1]; omega) (by rw [hal.1]; omega)
  rw [hal.1] at hfp
  generalize fPart (Int32.toInt64 (nI t) * Int32.toInt64 (MI 3 j)) r = F at *
  have hsu : (Int32.toInt64 (MI 4 j) + Int32.toInt64 (MI 6 j)).toInt = (MI 4 j).toInt + (MI 6 j).toInt := by rw [l_add (by rw [to64, to64]; omega) (by rw [to64, to64]; omega), to64, to64]
  generalize Int32.toInt64 (MI 4 j) + Int32.toInt64 (MI 6 j) = U at *
  have hmx : fMax F U = fMore F U := rfl
  rw [hmx]
  have hb : -(2 ^ 31) ≤ (fMore F U).toInt ∧ (fMore F U).toInt < 2 ^ 31 := by
    unfold fMore
    split <;> omega
  apply Int64.toInt_inj.mp
  rw [to64, to32 hb.1 hb.2]
end ZSF
end
section
/-! the two sides agree: the maturing loop -/
section ZSG
variable {np ng : Nat} {G : Nat → Nat} {MI : Nat → Nat → Int32} {MJ : Nat → Nat → Int64} {XI : Nat → Nat → Int32} {XJ : Nat → Nat → Int64}
theorem i_sub {a b : Int32} (h1 : -(2 ^ 31) ≤ a.toInt - b.toInt) (h2 : a.toInt - b.toInt < 2 ^ 31) : (a - b).toInt = a.toInt - b.toInt := by
  rw [Int32.toInt_sub]
  exact Int.bmod_eq_of_le (by omega) (by omega)
theorem age1 {y b : Int32} (hy : 0 ≤ y.toInt ∧ y.toInt ≤ 40) (hb : 0 ≤ b.toInt ∧ b.toInt ≤ y.toInt) : (y - b).toInt = y.toInt - b.toInt ∧ (y - b + 1).toInt = y.toInt - b.toInt + 1 := by
  have e1 : (y - b).toInt = y.toInt - b.toInt := i_sub (by omega) (by omega)
  have e2 : (1 : Int32).toInt = 1 := by decide
  exact ⟨e1, by rw [i_add (by rw [e1, e2]; omega) (by rw [e1, e2]; omega), e1, e2]⟩
/-- how long policies have run -/
def sT (np : Nat) (MI : Nat → Nat → Int32) : Prop := (0 ≤ (MI 0 0).toInt ∧ (MI 0 0).toInt ≤ 40) ∧ ∀ j, j < np → 0 ≤ (MI 1 j).toInt ∧ (MI 1 j).toInt ≤ (MI 0 0).toInt ∧ (MI 5 j = 0 → (MI 0 0).toInt - (MI 1 j).toInt + 1 ≤ (MI 2 j).toInt)
/-- the rules agree -/
def sC (MI XI : Nat → Nat → Int32) : Prop := (MI 0 0 = XI 10 2 ∧ MI 0 1 = XI 10 3 ∧ MI 0 2 = XI 10 4 ∧ MI 0 3 = XI 10 5 ∧ MI 0 4 = XI 10 6 ∧ MI 0 5 = XI 10 7) ∧
  (0 ≤ (MI 0 1).toInt ∧ (MI 0 1).toInt ≤ 200) ∧ (0 ≤ (MI 0 2).toInt ∧ (MI 0 2).toInt ≤ 100) ∧ (500 ≤ (MI 0 3).toInt ∧ (MI 0 3).toInt ≤ 1500) ∧ (0 ≤ (MI 0 4).toInt ∧ (MI 0 4).toInt ≤ 1000) ∧ (0 ≤ (MI 0 5).toInt ∧ (MI 0 5).toInt ≤ 1000)
def matP (np ng : Nat) (G : Nat → Nat) (MI : Nat → Nat → Int32) (MJ : Nat → Nat → Int64) (XJ : Nat → Nat → Int64) (R B : Int) (k : Nat) (S : mST) (T : xST) : Prop :=
  sK np ng G S.1 T.1 ∧ sF np G S.1 S.2 T.2 R ∧ sP np S.1 T.1 S.2 T.2 R B ∧ sRat (S.1 9) (T.2 5) ∧ T.2 6 = XJ 6 ∧
  (∀ j, j < np → S.1 5 j = 0 → MI 5 j = 0 ∧ (j < k → (MI 0 0).toInt - (MI 1 j).toInt + 1 < (MI 2 j).toInt)) ∧ (∀ m, np ≤ m → S.1 5 m = MI 5 m) ∧ S.2 1 = MJ 1
set_option maxHeartbeats 1000000 in
theorem mat_loop {R B : Int} (hK : sK np ng G MI XI) (hF : sF np G MI MJ XJ R) (hP : sP np MI XI MJ XJ R B) (hR : 0 ≤ R ∧ R ≤ 20000) (hB : B ≤ 2 ^ 30) (hC : sC MI XI) (hT : sT np MI) (hr8 : sRat (MI 8) (XJ 6)) (hr9 : sRat (MI 9) (XJ 5)) :
    ∀ (k : Nat), k ≤ np → matP np ng G MI MJ XJ R B k (mMtS np k (MI, MJ)) (xMtS np G k (XI, XJ)) ∧ mMtN np k (MI, MJ) = xMtN np G k (XI, XJ) := by
  intro k
  induction k with
  | zero => intro _; exact ⟨⟨hK, hF, hP, hr9, rfl, fun j hj h => ⟨h, fun q => absurd q (Nat.not_lt_zero _)⟩, fun _ _ => rfl, rfl⟩, rfl⟩
  | succ k ih =>
    intro hk
    have hkn : k < np := hk
    obtain ⟨⟨g1, g2, g3, g4, g5, g6, g7, g8⟩, gn⟩ := ih (Nat.le_of_succ_le hk)
    simp only [mMtS, xMtS, mMtN, xMtN]
    have m0 : ∀ a, a ≠ 5 → a ≠ 7 → a ≠ 9 → (mMtS np k (MI, MJ)).1 a = MI a := fun a h5 h7 h9 => mMtS_k h5 h7 h9 k (MI, MJ)
    have x0 : ∀ a, a ≠ 15 → (xMtS np G k (XI, XJ)).1 a = XI a := fun a h => xMtS_k h k (XI, XJ)
    rw [gn]
    generalize mMtS np k (MI, MJ) = S at *
    generalize xMtS np G k (XI, XJ) = T at *
    obtain ⟨M, J⟩ := S
    obtain ⟨XM, X⟩ := T
    simp only at g1 g2 g3 g4 g5 g6 g7 g8 m0 x0 ⊢
    have q0 := m0 0 (by decide) (by decide) (by decide)
    have q1 := m0 1 (by decide) (by decide) (by decide)
    have q2 := m0 2 (by decide) (by decide) (by decide)
    have q8 := m0 8 (by decide) (by decide) (by decide)
    have p10 := x0 10 (by decide)
    obtain ⟨k1, k2, k3, k4, k5, k6⟩ := g1.1 k hkn
    have hdue : (k < np ∧ XM 15 k = 0 ∧ XM 12 (G k) ≤ XM 10 2 - XM 11 (G k) + 1) ↔ (M 5 k = 0 ∧ M 0 0 - M 1 k + 1 = M 2 k) := by
      rw [← k5, ← k2, ← k1, p10, ← hC.1.1, q0]
      constructor
      · rintro ⟨-, h5, hle⟩
        refine ⟨h5, ?_⟩
        obtain ⟨t1, t2, t3⟩ := hT.2 k hkn
        have t4 := t3 (g6 k hkn h5).1
        rw [q1, q2] at hle ⊢
        obtain ⟨-, e1⟩ := age1 hT.1 ⟨t1, t2⟩
        have := Int32.le_iff_toInt_le.mp hle
        apply Int32.toInt_inj.mp
        omega
      · rintro ⟨h5, he⟩
        exact ⟨hkn, h5, by rw [he]; exact Int32.le_refl _⟩
    by_cases hd : M 5 k = 0 ∧ M 0 0 - M 1 k + 1 = M 2 k
    · rw [if_pos hd, if_pos (hdue.mpr hd), if_pos hd, if_pos (hdue.mpr hd)]
      refine ⟨?_, rfl⟩
      have ht := g1.2.2.2.1.tn hkn
      have ht2 := (g1.2.2.2.1.2.2 k hkn).1
      have hxt : xTn XM G k = mTn M k := by
        show (XM 12 (G k)).toInt.toNat = (M 2 k).toInt.toNat
        rw [k2]
      rw [hxt]
      have htb : 2 ≤ mTn M k ∧ mTn M k < 21 := ⟨by show 2 ≤ (M 2 k).toInt.toNat; omega, ht.2⟩
      generalize mTn M k = t at htb ⊢
      have h3 : M 0 3 = XM 10 5 := by rw [q0, p10]; exact hC.1.2.2.2.1
      have h4 : M 0 4 = XM 10 6 := by rw [q0, p10]; exact hC.1.2.2.2.2.1
      have hsc : 500 ≤ (M 0 3).toInt ∧ (M 0 3).toInt ≤ 1500 := by rw [q0]; exact hC.2.2.2.1
      have hsp : 0 ≤ (M 0 4).toInt ∧ (M 0 4).toInt ≤ 1000 := by rw [q0]; exact hC.2.2.2.2.1
      have hr : sRat (M 8) (X 6) := by rw [q8, g5]; exact hr8
      obtain ⟨r1, r2, r3⟩ := rat_eq g1 g2 hR hkn hd.1 htb h3 h4 hsc hsp hr
      have hpay := pay_eq g1 g2 g3 hR hB hkn hd.1 htb h3 h4 hsc hsp hr
      have cK : sK np ng G (u2 M 9 t (Int64.toInt32 (mRat M J np k t) + 1)) XM := g1.cast rfl rfl rfl rfl rfl (fun j hj => (g1.1 j hj).2.2.2.2.1) rfl rfl rfl rfl
      have cF : sF np G (u2 M 9 t (Int64.toInt32 (mRat M J np k t) + 1)) J (u2 X 5 t (xRat XM X G k t)) R := g2.cast rfl rfl rfl rfl rfl rfl rfl rfl rfl
      have cP : sP np (u2 M 9 t (Int64.toInt32 (mRat M J np k t) + 1)) XM J (u2 X 5 t (xRat XM X G k t)) R B := g3.cast rfl rfl rfl rfl rfl rfl rfl rfl
      obtain ⟨l1, l2, l3⟩ := leave (st := 1) cK cF cP hR hkn hd.1 (by decide) hpay
      refine ⟨l1, l2, l3, ?_, ?_, fun j hj h5 => ?_, fun m hm => ?_, ?_⟩
      · intro t2 ht2
        have e9 : mMatI np k t M J 9 = u2 M 9 t (Int64.toInt32 (mRat M J np k t) + 1) 9 := by unfold mMatI; rw [u2_k (by decide), u2_k (by decide)]
        have e5 : xMatJ XM G k t X 5 = u2 X 5 t (xRat XM X G k t) 5 := by unfold xMatJ xCloJ; rw [u2_k (by decide), u2_k (by decide), u2_k (by decide), u2_k (by decide), u2_k (by decide)]
        show xMatJ XM G k t X 5 t2 = Int32.toInt64 (mMatI np k t M J 9 t2) - 1 ∧ _
        show _ ∧ 0 ≤ (mMatI np k t M J 9 t2).toInt ∧ (mMatI np k t M J 9 t2).toInt ≤ 15000001
        rw [e9, e5]
        by_cases h : t2 = t
        · subst h
          rw [u2_s, u2_s, r1]
          generalize mRat M J np k t2 = z at *
          have h32 := to32 (x := z) (by omega) (by omega)
          have hone : (1 : Int32).toInt = 1 := by decide
          have hone6 : (1 : Int64).toInt = 1 := by decide
          have h1 : (Int64.toInt32 z + 1).toInt = z.toInt + 1 := by rw [i_add (by rw [h32, hone]; omega) (by rw [h32, hone]; omega), h32, hone]
          refine ⟨?_, by rw [h1]; omega, by rw [h1]; omega⟩
          apply Int64.toInt_inj.mp
          rw [l_sub (by rw [to64, h1, hone6]; omega) (by rw [to64, h1, hone6]; omega), to64, h1, hone6]
          omega
        · rw [u2_n h, u2_n h]
          exact g4 t2 ht2
      · have e6 : xMatJ XM G k t X 6 = X 6 := by unfold xMatJ xCloJ; rw [u2_k (by decide), u2_k (by decide), u2_k (by decide), u2_k (by decide), u2_k (by decide), u2_k (by decide)]
        show xMatJ XM G k t X 6 = XJ 6
        rw [e6]; exact g5
      · have e5 : mMatI np k t M J 5 j = if j = k then 1 else M 5 j := u2_5a
        have h5 : mMatI np k t M J 5 j = 0 := h5
        rw [e5] at h5
        by_cases hjk : j = k
        · rw [if_pos hjk] at h5; exact absurd h5 (by decide)
        · rw [if_neg hjk] at h5
          obtain ⟨z1, z2⟩ := g6 j hj h5
          exact ⟨z1, fun h => z2 (by omega)⟩
      · have e5 : mMatI np k t M J 5 m = if m = k then 1 else M 5 m := u2_5a
        show mMatI np k t M J 5 m = _
        rw [e5, if_neg (by omega)]
        exact g7 m hm
      · show lvJ _ _ _ _ _ 1 = _
        rw [← g8]
        unfold lvJ
        split <;> simp [u2]
    · rw [if_neg hd, if_neg (fun q => hd (hdue.mp q)), if_neg hd, if_neg (fun q => hd (hdue.mp q))]
      refine ⟨⟨g1, g2, g3, g4, g5, fun j hj h5 => ?_, g7, g8⟩, rfl⟩
      obtain ⟨z1, z2⟩ := g6 j hj h5
      refine ⟨z1, fun h => ?_⟩
      by_cases hjk : j = k
      · subst hjk
        obtain ⟨t1, t2, t3⟩ := hT.2 j hj
        have t4 := t3 z1
        refine Int.lt_iff_le_and_ne.mpr ⟨t4, fun e => hd ⟨h5, ?_⟩⟩
        rw [q0, q1, q2]
        obtain ⟨-, e1⟩ := age1 hT.1 ⟨t1, t2⟩
        exact Int32.toInt_inj.mp (e1.trans e)
      · exact z2 (by omega)
end ZSG
end
section
/-! the two sides agree: a year -/
section ZSH
variable {np ng : Nat} {G : Nat → Nat} {MI : Nat → Nat → Int32} {MJ : Nat → Nat → Int64} {XI : Nat → Nat → Int32} {XJ : Nat → Nat → Int64}
def Rb : Nat → Int
  | 0 => 0
  | y + 1 => (6 * (Rb y + 1) + 4) / 5
def Bb : Nat → Int
  | 0 => 100000
  | y + 1 => Bb y + Bb y / 5 + 1
theorem RBb : ∀ y, y < 41 → (0 ≤ Rb y ∧ Rb y ≤ 20000) ∧ 100000 ≤ Bb y ∧ Bb y ≤ 2 ^ 30 := by decide +kernel
/-- class and reference agree, in the year y -/
def sim (np ng : Nat) (G : Nat → Nat) (MI : Nat → Nat → Int32) (MJ : Nat → Nat → Int64) (XI : Nat → Nat → Int32) (XJ : Nat → Nat → Int64) (y : Nat) : Prop :=
  (y ≤ 40 ∧ (MI 0 0).toInt = y) ∧ sK np ng G MI XI ∧ sF np G MI MJ XJ (Rb y) ∧ sP np MI XI MJ XJ (Rb y) (Bb y) ∧ sC MI XI ∧ sT np MI ∧ sRat (MI 8) (XJ 5) ∧ (XI 10 0 = nI np ∧ XI 10 1 = nI ng) ∧ ∀ m, np ≤ m → MI 5 m = 0 ∧ MI 6 m = 0 ∧ MJ 1 m = 0
theorem sim.thrown {y : Nat} (h : sim np ng G MI MJ XI XJ y) (v : Int32) : sim np ng G (u2 MI 0 7 v) MJ XI XJ y :=
  ⟨h.1, h.2.1.cast rfl rfl rfl rfl rfl (fun j hj => (h.2.1.1 j hj).2.2.2.2.1) rfl rfl rfl rfl, h.2.2.1.cast rfl rfl rfl rfl rfl rfl rfl rfl rfl, h.2.2.2.1.cast rfl rfl rfl rfl rfl rfl rfl rfl, h.2.2.2.2.1, h.2.2.2.2.2.1, h.2.2.2.2.2.2.1, h.2.2.2.2.2.2.2⟩
theorem mCpy_at {a b : Nat} (hab : b ≠ a) : ∀ (n : Nat) (M : Nat → Nat → Int32) (t : Nat), t < n → mCpy a b n M a t = M b t := by
  intro n
  induction n with
  | zero => intro M t h; exact absurd h (Nat.not_lt_zero _)
  | succ n ih =>
    intro M t h
    simp only [mCpy]
    by_cases ht : t = n
    · subst ht
      rw [u2_s, mCpy_k hab]
    · rw [u2_n ht]
      exact ih M t (by omega)
theorem xCpy_k {c : Nat} (h : c ≠ 6) : ∀ (n : Nat) (J : Nat → Nat → Int64), xCpy n J c = J c := by
  intro n
  induction n with
  | zero => intro J; rfl
  | succ n ih => intro J; simp only [xCpy]; rw [u2_k h]; exact ih J
theorem xCpy_at : ∀ (n : Nat) (J : Nat → Nat → Int64) (t : Nat), t < n → xCpy n J 6 t = J 5 t := by
  intro n
  induction n with
  | zero => intro J t h; exact absurd h (Nat.not_lt_zero _)
  | succ n ih =>
    intro J t h
    simp only [xCpy]
    by_cases ht : t = n
    · subst ht
      rw [u2_s, xCpy_k (by decide)]
    · rw [u2_n ht]
      exact ih J t (by omega)
theorem xMt_ge {T : xST} : ∀ (n : Nat), np ≤ n → xMtS np G n T = xMtS np G np T ∧ xMtN np G n T = xMtN np G np T := by
  intro n
  induction n with
  | zero => intro h; rw [show np = 0 by omega]; exact ⟨rfl, rfl⟩
  | succ n ih =>
    intro h
    rcases Nat.eq_or_lt_of_le h with h | h
    · rw [h]; exact ⟨rfl, rfl⟩
    · obtain ⟨e1, e2⟩ := ih (by omega)
      simp only [xMtS, xMtN]
      rw [if_neg (fun q => absurd q.1 (by omega)), if_neg (fun q => absurd q.1 (by omega))]
      exact ⟨e1, e2⟩
set_option maxHeartbeats 1000000 in
theorem sim_run {y : Nat} (h : sim np ng G MI MJ XI XJ y) (hy : y < 40) {rt : Int32} (hrt : -200 ≤ rt.toInt ∧ rt.toInt ≤ 200) :
    sim np ng G (mRunI MI MJ rt np) (mRunJ MI MJ rt np) (xRunI XI XJ G rt np ng) (xRunJ XI XJ G rt np ng) (y + 1) ∧ mMtN np np (mS0 MI MJ rt np) = xMtN np G 30 (xS0 XI XJ rt np ng) := by
  have h1 := h.thrown 0
  unfold mRunI mRunJ xRunI xRunJ mS0 xS0 xJ3
  have hMI0 : ∀ c, c ≠ 0 → (u2 MI 0 7 0) c = MI c := fun c hc => u2_k hc
  generalize u2 MI 0 7 0 = M1 at h1 hMI0 ⊢
  obtain ⟨⟨hy1, hy2⟩, hK, hF, hP, hC, hT, hr, hcnt, hfr⟩ := h1
  have hok := hK.2.2.2.1
  have hng30 : ng ≤ 30 := Nat.le_trans hK.gle hok.2.1
  have hRy := (RBb y (by omega)).1
  have hRy1 := (RBb (y + 1) (by omega)).1
  have hBy := (RBb y (by omega)).2
  have hBy1 := (RBb (y + 1) (by omega)).2
  have hR' : 6 * (Rb y + 1) ≤ 5 * Rb (y + 1) ∧ 0 ≤ Rb (y + 1) := ⟨by simp only [Rb]; omega, hRy1.1⟩
  have hRm : Rb y ≤ Rb (y + 1) := by simp only [Rb]; omega
  have hB' : Bb y + Bb y / 5 ≤ Bb (y + 1) := by simp only [Bb]; omega
  have hBm : Bb y ≤ Bb (y + 1) := by simp only [Bb]; omega
  obtain ⟨g1, g2, g3, g4, g5, g6⟩ := grow_1 (rt := rt) hK hF hC.1.2.2.1 hC.2.2.1 hrt hRy hR' np (Nat.le_refl _)
  rw [hK.2.2.1.2] at g2 g3 g5 g6
  rw [xGG_ge 30 hng30]
  generalize mGrow M1 rt np np MJ = J at *
  generalize xGG XI ng rt ng XJ = X at *
  have hest : MJ 0 0 = XJ 4 0 := hF.2.2.1
  rw [hest, ← fThou_part]
  generalize fThou (XJ 4 0) (Int32.toInt64 rt) = e0
  obtain ⟨J2, hJ2⟩ : ∃ z, z = u2 (u2 J 0 0 (J 0 0 + e0)) 0 1 (J 0 1 + e0) := ⟨_, rfl⟩
  obtain ⟨X2, hX2⟩ : ∃ z, z = u2 (u2 X 4 0 (X 4 0 + e0)) 4 1 (X 4 1 + e0) := ⟨_, rfl⟩
  rw [← hJ2, ← hX2]
  have j2k : ∀ c, c ≠ 0 → J2 c = J c := fun c hc => by rw [hJ2, u2_k hc, u2_k hc]
  have x2k : ∀ c, c ≠ 4 → X2 c = X c := fun c hc => by rw [hX2, u2_k hc, u2_k hc]
  have j20 : J2 0 0 = X2 4 0 := by rw [hJ2, hX2]; simp [u2, g5]
  have j21 : J2 0 1 = X2 4 1 := by rw [hJ2, hX2]; simp [u2, g6]
  obtain ⟨M2, hM2⟩ : ∃ z, z = mCpy 9 8 21 (mGrI np M1) := ⟨_, rfl⟩
  obtain ⟨J3, hJ3⟩ : ∃ z, z = mGrJ rt np M1 J2 := ⟨_, rfl⟩
  obtain ⟨X3, hX3⟩ : ∃ z, z = xCpy 21 (xGB XI np 30 (xPA XI np rt 30 X2)) := ⟨_, rfl⟩
  rw [← hM2, ← hJ3, ← hX3]
  have m2k : ∀ c, c ≠ 6 → c ≠ 9 → M2 c = M1 c := fun c h6 h9 => by rw [hM2, mCpy_k h9, mGrI_k h6]
  have j3k : ∀ c, c ≠ 1 → J3 c = J2 c := fun c hc => by rw [hJ3, mGrJ_a hc]
  have x3k : ∀ c, c ≠ 6 → c ≠ 9 → c ≠ 10 → X3 c = X2 c := fun c h6 h9 h10 => by rw [hX3, xCpy_k h6, xGB_a h10, xPA_a h9]
  have cK : sK np ng G M2 XI := hK.cast (by rw [m2k 0 (by decide) (by decide)]) (m2k 1 (by decide) (by decide)) (m2k 2 (by decide) (by decide)) (m2k 3 (by decide) (by decide)) (m2k 4 (by decide) (by decide)) (fun j hj => by rw [m2k 5 (by decide) (by decide)]; exact (hK.1 j hj).2.2.2.2.1) rfl rfl rfl rfl
  have hpm : ∀ k, mPr M2 np k = mPr M1 np k := fun k => by unfold mPr; rw [m2k 1 (by decide) (by decide), m2k 2 (by decide) (by decide), m2k 3 (by decide) (by decide), m2k 5 (by decide) (by decide)]
  have hmm : ∀ k, hm M2 np k = hm M1 np k := hm_cast (m2k 1 (by decide) (by decide)) (m2k 2 (by decide) (by decide))
  have cF : sF np G M2 J3 X3 (Rb (y + 1)) := by
    refine ⟨fun j hj => ?_, fun k hk => ?_, ?_, ?_⟩
    · obtain ⟨f1, f2, f3, f4⟩ := hF.1 j hj
      obtain ⟨q1, q2, -⟩ := g3 j hj
      obtain ⟨q3, q4⟩ := q2 (hK.1 j hj).2.2.2.2.2
      have e7 : X3 7 = XJ 7 := by rw [x3k 7 (by decide) (by decide) (by decide), x2k 7 (by decide), g2 7 (by decide) (by decide)]
      have e8 : X3 8 = X 8 := by rw [x3k 8 (by decide) (by decide) (by decide), x2k 8 (by decide)]
      have e2 : J3 2 = J 2 := by rw [j3k 2 (by decide), j2k 2 (by decide)]
      rw [hpm, hmm, e7, e8, e2]
      exact ⟨f1, q1, q3, q4⟩
    · have e2 : J3 2 = J 2 := by rw [j3k 2 (by decide), j2k 2 (by decide)]
      rw [hmm] at hk
      rw [e2, g4 k hk]
      exact hF.2.1 k hk
    · rw [j3k 0 (by decide), x3k 4 (by decide) (by decide) (by decide)]; exact j20
    · rw [j3k 0 (by decide), x3k 4 (by decide) (by decide) (by decide)]; exact j21
  have e15 : ∀ j, j < np → XI 15 j = M1 5 j := fun j hj => (hK.1 j hj).2.2.2.2.1.symm
  have cP : sP np M2 XI J3 X3 (Rb (y + 1)) (Bb (y + 1)) := by
    intro j hj
    have hj30 : j < 30 := Nat.lt_of_lt_of_le hj hok.2.1
    obtain ⟨⟨a1, a2, a3⟩, ⟨b1, b2, b3⟩, c1⟩ := hP j hj
    obtain ⟨k1, k2, k3, k4, k5, k6⟩ := hK.1 j hj
    have eJ : J3 1 j = if j < np ∧ M1 5 j = 0 then alF (MJ 1 j) (M1 3 j) rt (M1 0 2) else MJ 1 j := by
      rw [hJ3, mGrJ_at, j2k 1 (by decide), g1 1 (by decide) (by decide)]
    have eX9 : X3 9 j = if j < 30 ∧ j < np ∧ XI 15 j = 0 then alX (XJ 9 j) (XI 13 j) rt (XI 10 4) else XJ 9 j := by
      rw [hX3, xCpy_k (by decide), xGB_a (by decide), xPA_at, x2k 9 (by decide), g2 9 (by decide) (by decide)]
    have eM6 : M2 6 j = if j < np ∧ M1 5 j = 0 then boF (M1 4 j) (M1 6 j) (M1 0 1) else M1 6 j := by
      rw [hM2, mCpy_k (by decide), mGrI_at]
    have eX10 : X3 10 j = if j < 30 ∧ j < np ∧ XI 15 j = 0 then XJ 10 j + fThou (Int32.toInt64 (XI 14 j) + XJ 10 j) (Int32.toInt64 (XI 10 3)) else XJ 10 j := by
      rw [hX3, xCpy_k (by decide), xGB_at, xPA_a (by decide), x2k 10 (by decide), g2 10 (by decide) (by decide)]
    have eX11 : X3 11 = XJ 11 := by rw [x3k 11 (by decide) (by decide) (by decide), x2k 11 (by decide), g2 11 (by decide) (by decide)]
    rw [eJ, eX9, eM6, eX10, eX11, m2k 4 (by decide) (by decide), m2k 5 (by decide) (by decide), m2k 7 (by decide) (by decide), e15 j hj]
    refine ⟨?_, ?_, c1⟩
    · by_cases h5 : M1 5 j = 0
      · rw [if_pos ⟨hj, h5⟩, if_pos ⟨hj30, hj, h5⟩, ← a1, ← k3, ← hC.1.2.2.1]
        obtain ⟨z1, z2, z3⟩ := al_z (a := MJ 1 j) (p := M1 3 j) (rt := rt) (ch := M1 0 2) a2 a3 (hok.pr j hj) hC.2.2.1 hrt hRy hR'.1
        exact ⟨z1.symm, z2, z3⟩
      · rw [if_neg (fun q => h5 q.2), if_neg (fun q => h5 q.2.2)]
        exact ⟨a1, a2, by omega⟩
    · by_cases h5 : M1 5 j = 0
      · rw [if_pos ⟨hj, h5⟩, if_pos ⟨hj30, hj, h5⟩, ← k4, ← hC.1.2.1]
        exact bo_z (B := Bb y) b1 (hK.2.2.2.2 j hj).1 b2 b3 hC.2.1 hB' hBy1.2 (by omega)
      · rw [if_neg (fun q => h5 q.2), if_neg (fun q => h5 q.2.2)]
        exact ⟨b1, b2, by omega⟩
  have cC : sC M2 XI := by unfold sC; rw [m2k 0 (by decide) (by decide)]; exact hC
  have cT : sT np M2 := by unfold sT; rw [m2k 0 (by decide) (by decide), m2k 1 (by decide) (by decide), m2k 2 (by decide) (by decide), m2k 5 (by decide) (by decide)]; exact hT
  have hX5 : X3 5 = XJ 5 := by rw [x3k 5 (by decide) (by decide) (by decide), x2k 5 (by decide), g2 5 (by decide) (by decide)]
  have cr8 : sRat (M2 8) (X3 6) := by
    intro t ht
    have e6 : X3 6 t = XJ 5 t := by
      rw [hX3, xCpy_at 21 _ t ht, xGB_a (by decide), xPA_a (by decide), x2k 5 (by decide), g2 5 (by decide) (by decide)]
    rw [e6, m2k 8 (by decide) (by decide)]
    exact hr t ht
  have cr9 : sRat (M2 9) (X3 5) := by
    intro t ht
    have e9 : M2 9 t = M1 8 t := by rw [hM2, mCpy_at (by decide) 21 _ t ht, mGrI_k (by decide)]
    rw [e9, hX5]
    exact hr t ht
  obtain ⟨⟨f1, f2, f3, f4, f5, f6, f7, f8⟩, fn⟩ := mat_loop cK cF cP hRy1 hBy1.2 cC cT cr8 cr9 np (Nat.le_refl _)
  obtain ⟨v1, v2⟩ := xMt_ge (np := np) (G := G) (T := (XI, X3)) 30 hok.2.1
  rw [v1, v2]
  refine ⟨?_, fn⟩
  have ms : ∀ a, a ≠ 5 → a ≠ 7 → a ≠ 9 → (mMtS np np (M2, J3)).1 a = M2 a := fun a h5 h7 h9 => mMtS_k h5 h7 h9 np (M2, J3)
  have xs : ∀ a, a ≠ 15 → (xMtS np G np (XI, X3)).1 a = XI a := fun a h => xMtS_k h np (XI, X3)
  generalize mMtS np np (M2, J3) = S at *
  generalize xMtS np G np (XI, X3) = T at *
  obtain ⟨M, JJ⟩ := S
  obtain ⟨XM, XX⟩ := T
  simp only at f1 f2 f3 f4 f5 f6 f7 f8 ms xs ⊢
  have s0 : M 0 = M1 0 := by rw [ms 0 (by decide) (by decide) (by decide), m2k 0 (by decide) (by decide)]
  have s1 : M 1 = M1 1 := by rw [ms 1 (by decide) (by decide) (by decide), m2k 1 (by decide) (by decide)]
  have s2 : M 2 = M1 2 := by rw [ms 2 (by decide) (by decide) (by decide), m2k 2 (by decide) (by decide)]
  have s10 : XM 10 = XI 10 := xs 10 (by decide)
  have fk : ∀ c, c ≠ 0 → c ≠ 8 → (u2 (mCpy 8 9 21 M) 0 0 (mCpy 8 9 21 M 0 0 + 1)) c = M c := fun c h0 h8 => by rw [u2_k h0, mCpy_k h8]
  have f0 : ∀ c, c ≠ 0 → (u2 (mCpy 8 9 21 M) 0 0 (mCpy 8 9 21 M 0 0 + 1)) 0 c = M1 0 c := fun c hc => by rw [u2_n hc, mCpy_k (by decide), s0]
  have f00 : (u2 (mCpy 8 9 21 M) 0 0 (mCpy 8 9 21 M 0 0 + 1)) 0 0 = M1 0 0 + 1 := by rw [u2_s, mCpy_k (by decide), s0]
  have f8t : ∀ t, t < 21 → (u2 (mCpy 8 9 21 M) 0 0 (mCpy 8 9 21 M 0 0 + 1)) 8 t = M 9 t := fun t ht => by rw [u2_k (by decide), mCpy_at (by decide) 21 _ t ht]
  generalize u2 (mCpy 8 9 21 M) 0 0 (mCpy 8 9 21 M 0 0 + 1) = MF at fk f0 f00 f8t ⊢
  have xk : ∀ c, c ≠ 10 → (u2 XM 10 2 (XM 10 2 + 1)) c = XM c := fun c hc => u2_k hc
  have x10 : ∀ c, c ≠ 2 → (u2 XM 10 2 (XM 10 2 + 1)) 10 c = XI 10 c := fun c hc => by rw [u2_n hc, s10]
  have x12 : (u2 XM 10 2 (XM 10 2 + 1)) 10 2 = XI 10 2 + 1 := by rw [u2_s, s10]
  generalize u2 XM 10 2 (XM 10 2 + 1) = XF at xk x10 x12 ⊢
  have hone : (1 : Int32).toInt = 1 := by decide
  have hyr : (MF 0 0).toInt = (y : Int) + 1 := by rw [f00, i_add (by rw [hy2, hone]; omega) (by rw [hy2, hone]; omega), hy2, hone]
  refine ⟨⟨by omega, by rw [hyr]; omega⟩, ?_, ?_, ?_, ⟨⟨?_, ?_, ?_, ?_, ?_, ?_⟩, ?_⟩, ⟨?_, fun j hj => ?_⟩, fun t ht => ?_, ⟨?_, ?_⟩, fun m hm => ?_⟩
  · refine f1.cast ?_ (fk 1 (by decide) (by decide)) (fk 2 (by decide) (by decide)) (fk 3 (by decide) (by decide)) (fk 4 (by decide) (by decide)) (fun j hj => ?_) (xk 11 (by decide)) (xk 12 (by decide)) (xk 13 (by decide)) (xk 14 (by decide))
    · rw [f0 6 (by decide), s0]
    · rw [fk 5 (by decide) (by decide), xk 15 (by decide)]; exact (f1.1 j hj).2.2.2.2.1
  · exact f2.cast (fk 1 (by decide) (by decide)) (fk 2 (by decide) (by decide)) (fk 3 (by decide) (by decide)) (fk 5 (by decide) (by decide)) rfl rfl rfl rfl rfl
  · exact f3.cast (fk 4 (by decide) (by decide)) (fk 5 (by decide) (by decide)) (fk 6 (by decide) (by decide)) (fk 7 (by decide) (by decide)) rfl rfl rfl rfl
  · rw [f00, x12, hC.1.1]
  · rw [f0 1 (by decide), x10 3 (by decide)]; exact hC.1.2.1
  · rw [f0 2 (by decide), x10 4 (by decide)]; exact hC.1.2.2.1
  · rw [f0 3 (by decide), x10 5 (by decide)]; exact hC.1.2.2.2.1
  · rw [f0 4 (by decide), x10 6 (by decide)]; exact hC.1.2.2.2.2.1
  · rw [f0 5 (by decide), x10 7 (by decide)]; exact hC.1.2.2.2.2.2
  · rw [f0 1 (by decide), f0 2 (by decide), f0 3 (by decide), f0 4 (by decide), f0 5 (by decide)]; exact hC.2
  · rw [hyr]; omega
  · rw [fk 1 (by decide) (by decide), fk 2 (by decide) (by decide), fk 5 (by decide) (by decide), s1, s2, hyr]
    obtain ⟨t1, t2, t3⟩ := hT.2 j hj
    refine ⟨t1, by omega, fun h5 => ?_⟩
    obtain ⟨-, z2⟩ := f6 j hj h5
    have := z2 hj
    rw [m2k 0 (by decide) (by decide), m2k 1 (by decide) (by decide), m2k 2 (by decide) (by decide)] at this
    omega
  · rw [f8t t ht]; exact f4 t ht
  · rw [x10 0 (by decide)]; exact hcnt.1
  · rw [x10 1 (by decide)]; exact hcnt.2
  · obtain ⟨z1, z2, z3⟩ := hfr m hm
    refine ⟨?_, ?_, ?_⟩
    · rw [fk 5 (by decide) (by decide), f7 m hm, m2k 5 (by decide) (by decide)]; exact z1
    · rw [fk 6 (by decide) (by decide), ms 6 (by decide) (by decide) (by decide), hM2, mCpy_k (by decide), mGrI_at, if_neg (fun q => by omega)]; exact z2
    · rw [f8, hJ3, mGrJ_at, if_neg (fun q => by omega), j2k 1 (by decide), g1 1 (by decide) (by decide)]; exact z3
end ZSH
end
section
/-! the two sides agree: a policy begins -/
section ZSI
variable {np ng : Nat} {G : Nat → Nat} {MI : Nat → Nat → Int32} {MJ : Nat → Nat → Int64} {XI : Nat → Nat → Int32} {XJ : Nat → Nat → Int64}
theorem mP_congr {b t st pr b' t' st' pr' : Nat → Int32} {y te : Int32} : ∀ (n : Nat), (∀ k, k < n → b' k = b k ∧ t' k = t k ∧ st' k = st k ∧ pr' k = pr k) → mP b' t' st' pr' y te n = mP b t st pr y te n := by
  intro n
  induction n with
  | zero => intro _; rfl
  | succ n ih =>
    intro h
    obtain ⟨h1, h2, h3, h4⟩ := h n (Nat.lt_succ_self n)
    simp only [mP]
    rw [ih (fun k hk => h k (by omega)), h1, h2, h3, h4]
theorem mP_none {b t st pr : Nat → Int32} {y te : Int32} : ∀ (n : Nat), (∀ k, k < n → ¬ (b k = y ∧ t k = te)) → mP b t st pr y te n = 0 := by
  intro n
  induction n with
  | zero => intro _; rfl
  | succ n ih =>
    intro h
    simp only [mP]
    rw [ih (fun k hk => h k (by omega)), if_neg (fun q => h n (Nat.lt_succ_self n) ⟨q.1, q.2.1⟩)]
    rfl
set_option maxHeartbeats 1000000 in
theorem sim_begin {y : Nat} (h : sim np ng G MI MJ XI XJ y) (hn : np < 30) {te pr su : Int32} (hte : 2 ≤ te.toInt ∧ te.toInt ≤ 20) (hpr : 1 ≤ pr.toInt ∧ pr.toInt ≤ 1000) (hsu : 0 ≤ su.toInt ∧ su.toInt ≤ 100000)
    {ng' i : Nat} {G' : Nat → Nat} {M X : Nat → Nat → Int32} {X' : Nat → Nat → Int64} (hi : (i < ng ∧ ng' = ng) ∨ (i = ng ∧ ng' = ng + 1 ∧ ∀ k, k < ng → ¬ (XI 11 k = MI 0 0 ∧ XI 12 k = te)))
    (m1 : ∀ j, M 1 j = if j = np then MI 0 0 else MI 1 j) (m2 : ∀ j, M 2 j = if j = np then te else MI 2 j) (m3 : ∀ j, M 3 j = if j = np then pr else MI 3 j) (m4 : ∀ j, M 4 j = if j = np then su else MI 4 j) (m5 : M 5 = MI 5) (m6 : M 6 = MI 6) (m7 : M 7 = MI 7) (m8 : M 8 = MI 8) (m0 : ∀ c, c < 6 → M 0 c = MI 0 c) (m06 : M 0 6 = nI (np + 1))
    (gj : ∀ j, j < np → G' j = G j) (gn : G' np = i) (x11 : ∀ k, k < ng → X 11 k = XI 11 k) (x12 : ∀ k, k < ng → X 12 k = XI 12 k) (x11i : X 11 i = MI 0 0) (x12i : X 12 i = te) (x13 : ∀ j, X 13 j = if j = np then pr else XI 13 j) (x14 : ∀ j, X 14 j = if j = np then su else XI 14 j) (x15 : ∀ j, X 15 j = if j = np then 0 else XI 15 j)
    (x10 : ∀ c, 2 ≤ c → X 10 c = XI 10 c) (x100 : X 10 0 = nI (np + 1)) (x101 : X 10 1 = nI ng')
    (j4 : X' 4 = XJ 4) (j5 : X' 5 = XJ 5) (j7 : ∀ k, k < ng → k ≠ i → X' 7 k = XJ 7 k) (j7i : X' 7 i = (if i < ng then XJ 7 i else 0) + Int32.toInt64 pr) (j8 : ∀ k, k < ng → X' 8 k = XJ 8 k) (j8i : i = ng → X' 8 i = 0) (j9 : ∀ j, X' 9 j = if j = np then 0 else XJ 9 j) (j10 : ∀ j, X' 10 j = if j = np then 0 else XJ 10 j) (j11 : ∀ j, X' 11 j = if j = np then -1 else XJ 11 j) :
    sim (np + 1) ng' G' M MJ X X' y := by
  obtain ⟨⟨hy1, hy2⟩, hK, hF, hP, hC, hT, hr, hcnt, hfr⟩ := h
  have hok := hK.2.2.2.1
  have hRy := (RBb y (by omega)).1
  have hBy := (RBb y (by omega)).2
  have m1j : ∀ j, j < np → M 1 j = MI 1 j := fun j hj => by rw [m1, if_neg (by omega)]
  have m2j : ∀ j, j < np → M 2 j = MI 2 j := fun j hj => by rw [m2, if_neg (by omega)]
  have m3j : ∀ j, j < np → M 3 j = MI 3 j := fun j hj => by rw [m3, if_neg (by omega)]
  have m4j : ∀ j, j < np → M 4 j = MI 4 j := fun j hj => by rw [m4, if_neg (by omega)]
  have m1n : M 1 np = MI 0 0 := by rw [m1, if_pos rfl]
  have m2n : M 2 np = te := by rw [m2, if_pos rfl]
  have m3n : M 3 np = pr := by rw [m3, if_pos rfl]
  have m4n : M 4 np = su := by rw [m4, if_pos rfl]
  have hing : i < ng' := by rcases hi with ⟨a, b⟩ | ⟨a, b, -⟩ <;> omega
  have hngle : ng ≤ ng' := by rcases hi with ⟨a, b⟩ | ⟨a, b, -⟩ <;> omega
  -- the key of an older policy is the new one's just when its generation is i
  have hkey : ∀ j, j < np → (G j = i ↔ (MI 1 j = MI 0 0 ∧ MI 2 j = te)) := fun j hj => by
    obtain ⟨a1, a2, -, -, -, a6⟩ := hK.1 j hj
    constructor
    · intro e
      rw [a1, a2, ← x11 _ a6, ← x12 _ a6, e]
      exact ⟨x11i, x12i⟩
    · rintro ⟨e1, e2⟩
      rcases hi with ⟨b1, b2⟩ | ⟨b1, b2, b3⟩
      · exact hK.2.1 _ _ a6 b1 (by rw [← a1, e1, ← x11 i b1, x11i]) (by rw [← a2, e2, ← x12 i b1, x12i])
      · exact absurd ⟨by rw [← a1, e1], by rw [← a2, e2]⟩ (b3 _ a6)
  -- homes of older policies
  have hhm : ∀ j, j < np → hm M (np + 1) j = hm MI np j := fun j hj => by
    obtain ⟨a1, a2, a3, a4⟩ := hm_spec (MI := MI) hj
    obtain ⟨b1, b2, b3, b4⟩ := hm_spec (MI := M) (np := np + 1) (j := j) (by omega)
    rcases Nat.lt_trichotomy (hm M (np + 1) j) (hm MI np j) with q | q | q
    · exact absurd ⟨by rw [← m1j _ (by omega), b2, m1j j hj], by rw [← m2j _ (by omega), b3, m2j j hj]⟩ (a4 _ q)
    · exact q
    · exact absurd ⟨by rw [m1j _ (by omega), a2, m1j j hj], by rw [m2j _ (by omega), a3, m2j j hj]⟩ (b4 _ q)
  have hcn : ∀ k, k ≤ np → cnt M (np + 1) k = cnt MI np k := fun k => by
    induction k with
    | zero => intro _; rfl
    | succ k ih => intro hk; simp only [cnt]; rw [ih (by omega), hhm k (by omega)]
  -- the new one's home
  have hnew : (i < ng → ∃ k, k < np ∧ hm MI np k = k ∧ G k = i ∧ hm M (np + 1) np = k) ∧ (¬ i < ng → hm M (np + 1) np = np) := by
    obtain ⟨b1, b2, b3, b4⟩ := hm_spec (MI := M) (np := np + 1) (j := np) (by omega)
    rw [m1n, m2n] at b4
    rw [m1n] at b2
    rw [m2n] at b3
    constructor
    · intro hlt
      obtain ⟨k, c1, c2, c3, -⟩ := hK.sur hlt
      have hkk := (hkey k c1).mp c3
      refine ⟨k, c1, c2, c3, ?_⟩
      rcases Nat.lt_trichotomy (hm M (np + 1) np) k with q | q | q
      · have hlt2 : hm M (np + 1) np < np := by omega
        obtain ⟨-, -, -, a4⟩ := hm_spec (MI := MI) c1
        rw [c2] at a4
        exact absurd ⟨by rw [← m1j _ hlt2, b2, hkk.1], by rw [← m2j _ hlt2, b3, hkk.2]⟩ (a4 _ q)
      · exact q
      · exact absurd ⟨by rw [m1j k c1]; exact hkk.1, by rw [m2j k c1]; exact hkk.2⟩ (b4 k q)
    · intro hge
      rcases Nat.lt_or_ge (hm M (np + 1) np) np with q | q
      · have e := (hkey _ q).mpr ⟨by rw [← m1j _ q, b2], by rw [← m2j _ q, b3]⟩
        have := (hK.1 _ q).2.2.2.2.2
        omega
      · omega
  have hpm : ∀ j, mPr M (np + 1) j = mP (MI 1) (MI 2) (MI 5) (MI 3) (M 1 j) (M 2 j) np + (if M 1 j = MI 0 0 ∧ M 2 j = te then Int32.toInt64 pr else 0) := fun j => by
    unfold mPr
    simp only [mP]
    rw [mP_congr np (fun k hk => ⟨m1j k hk, m2j k hk, by rw [m5], m3j k hk⟩), m1n, m2n, m3n, m5, (hfr np (Nat.le_refl _)).1]
    congr 1
    by_cases q : M 1 j = MI 0 0 ∧ M 2 j = te
    · rw [if_pos q, if_pos ⟨q.1.symm, q.2.symm, rfl⟩]
    · rw [if_neg q, if_neg (fun z => q ⟨z.1.symm, z.2.1.symm⟩)]
  have hpj : ∀ j, j < np → mPr M (np + 1) j = mPr MI np j + (if G j = i then Int32.toInt64 pr else 0) := fun j hj => by
    rw [hpm j, m1j j hj, m2j j hj]
    show mPr MI np j + _ = _
    congr 1
    by_cases q : G j = i
    · rw [if_pos q, if_pos ((hkey j hj).mp q)]
    · rw [if_neg q, if_neg (fun z => q ((hkey j hj).mpr z))]
  have hadd : ∀ (P : Int64), 0 ≤ P.toInt → P.toInt ≤ 30000 → (P + Int32.toInt64 pr).toInt = P.toInt + pr.toInt := fun P h0 h1 => by rw [l_add (by rw [to64]; omega) (by rw [to64]; omega), to64]
  -- funds of a generation with an older policy
  have hfund : ∀ j, j < np → X' 7 (G j) = mPr MI np j + (if G j = i then Int32.toInt64 pr else 0) ∧ X' 8 (G j) = XJ 8 (G j) ∧ (XJ 8 (G j)).toInt ≤ Rb y * (mPr MI np j + (if G j = i then Int32.toInt64 pr else 0)).toInt := fun j hj => by
    obtain ⟨f1, f2, f3, f4⟩ := hF.1 j hj
    have a6 := (hK.1 j hj).2.2.2.2.2
    have hb := mPr_b hok j
    by_cases q : G j = i
    · rw [if_pos q, q, j7i, if_pos (by omega), ← q, f1, j8 _ a6]
      refine ⟨rfl, rfl, ?_⟩
      rw [hadd _ hb.1 hb.2, Int.mul_add]
      rw [f1] at f4
      have := Int.mul_nonneg hRy.1 (show 0 ≤ pr.toInt by omega)
      omega
    · rw [if_neg q, j7 _ a6 q, j8 _ a6, f1]
      rw [f1] at f4
      simp only [Int64.add_zero]
      exact ⟨trivial, trivial, f4⟩
  refine ⟨⟨hy1, by rw [m0 0 (by omega)]; exact hy2⟩, ⟨fun j hj => ?_, fun a b ha hb e1 e2 => ?_, ⟨fun k hk hh => ?_, ?_⟩, ⟨m06, by omega, fun k hk => ?_⟩, fun j hj => ?_⟩, ⟨fun j hj => ?_, fun k hk => ?_, ?_, ?_⟩, fun j hj => ?_, ?_, ⟨?_, fun j hj => ?_⟩, fun t ht => ?_, ⟨x100, x101⟩, fun m hm => ?_⟩
  · by_cases q : j = np
    · subst q
      rw [m1n, m2n, m3n, m4n, m5, gn, x11i, x12i, x13, x14, x15, if_pos rfl, if_pos rfl, if_pos rfl, (hfr j (Nat.le_refl _)).1]
      exact ⟨rfl, rfl, rfl, rfl, rfl, hing⟩
    · have hj2 : j < np := by omega
      obtain ⟨a1, a2, a3, a4, a5, a6⟩ := hK.1 j hj2
      rw [m1j j hj2, m2j j hj2, m3j j hj2, m4j j hj2, m5, gj j hj2, x11 _ a6, x12 _ a6, x13, x14, x15, if_neg q, if_neg q, if_neg q]
      exact ⟨a1, a2, a3, a4, a5, by omega⟩
  · rcases hi with ⟨b1, b2⟩ | ⟨b1, b2, b3⟩
    · rw [b2] at ha hb
      rw [x11 a ha, x11 b hb] at e1
      rw [x12 a ha, x12 b hb] at e2
      exact hK.2.1 a b ha hb e1 e2
    · by_cases qa : a < ng <;> by_cases qb : b < ng
      · rw [x11 a qa, x11 b qb] at e1
        rw [x12 a qa, x12 b qb] at e2
        exact hK.2.1 a b qa qb e1 e2
      · have hbi : b = i := by omega
        rw [hbi, x11i, x11 a qa] at e1
        rw [hbi, x12i, x12 a qa] at e2
        exact absurd ⟨e1, e2⟩ (b3 a qa)
      · have hai : a = i := by omega
        rw [hai, x11i, x11 b qb] at e1
        rw [hai, x12i, x12 b qb] at e2
        exact absurd ⟨e1.symm, e2.symm⟩ (b3 b qb)
      · omega
  · rw [hcn k (by omega)]
    by_cases q : k = np
    · subst q
      rw [gn, hK.2.2.1.2]
      rcases Nat.lt_or_ge i ng with c | c
      · obtain ⟨k2, d1, -, -, d4⟩ := hnew.1 c
        omega
      · rcases hi with ⟨b1, b2⟩ | ⟨b1, b2, b3⟩ <;> omega
    · have hk2 : k < np := by omega
      rw [hhm k hk2] at hh
      rw [gj k hk2]
      exact hK.2.2.1.1 k hk2 hh
  · simp only [cnt]
    rw [hcn np (Nat.le_refl _), hK.2.2.1.2]
    rcases Nat.lt_or_ge i ng with c | c
    · obtain ⟨k2, d1, -, -, d4⟩ := hnew.1 c
      rw [if_neg (by omega)]
      rcases hi with ⟨b1, b2⟩ | ⟨b1, b2, b3⟩ <;> omega
    · rw [if_pos (hnew.2 (by omega))]
      rcases hi with ⟨b1, b2⟩ | ⟨b1, b2, b3⟩ <;> omega
  · by_cases q : k = np
    · subst q; rw [m2n, m3n]; exact ⟨hte, hpr⟩
    · rw [m2j k (by omega), m3j k (by omega)]; exact hok.2.2 k (by omega)
  · by_cases q : j = np
    · subst q; rw [m4n]; exact hsu
    · rw [m4j j (by omega)]; exact hK.2.2.2.2 j (by omega)
  · by_cases q : j = np
    · subst q
      rw [gn]
      have hp1 := hpm j
      rw [m1n, m2n, if_pos ⟨rfl, rfl⟩] at hp1
      rw [hp1]
      rcases Nat.lt_or_ge i ng with c | c
      · obtain ⟨k2, d1, d2, d3, d4⟩ := hnew.1 c
        obtain ⟨f1, f2, f3, f4⟩ := hF.1 k2 d1
        obtain ⟨u1, u2', u3⟩ := hfund k2 d1
        rw [if_pos d3, d3] at u1
        rw [if_pos d3] at u3
        rw [d3] at u2' u3 f2 f3
        have hkk := (hkey k2 d1).mp d3
        have hpp : mPr MI j k2 = mP (MI 1) (MI 2) (MI 5) (MI 3) (MI 0 0) te j := by unfold mPr; rw [hkk.1, hkk.2]
        rw [d4, ← hpp, u1, u2', ← f2, d2]
        refine ⟨rfl, rfl, by rw [f2.symm, d2] at f3; exact f3, ?_⟩
        rw [← f2, d2] at u3; exact u3
      · have hz : mP (MI 1) (MI 2) (MI 5) (MI 3) (MI 0 0) te j = 0 := mP_none j (fun k hk q => by
          have e := (hkey k hk).mpr q
          have := (hK.1 k hk).2.2.2.2.2
          omega)
        rw [hz, hnew.2 (by omega), j7i, if_neg (by omega), j8i (by rcases hi with ⟨b1, b2⟩ | ⟨b1, b2, b3⟩ <;> omega), hF.2.1 j (Or.inl (Nat.le_refl _))]
        refine ⟨rfl, rfl, by decide, ?_⟩
        have e0 : (0 + Int32.toInt64 pr).toInt = pr.toInt := by rw [Int64.zero_add, to64]
        rw [e0]
        exact Int.mul_nonneg hRy.1 (by omega)
    · have hj2 : j < np := by omega
      obtain ⟨f1, f2, f3, f4⟩ := hF.1 j hj2
      obtain ⟨u1, u2', u3⟩ := hfund j hj2
      rw [gj j hj2, hhm j hj2, hpj j hj2, u1, u2']
      exact ⟨rfl, f2, f3, u3⟩
  · rcases Nat.lt_or_ge k np with c | c
    · rw [hhm k c] at hk
      exact hF.2.1 k (Or.inr (by rcases hk with q | q; omega; exact q))
    · exact hF.2.1 k (Or.inl c)
  · rw [j4]; exact hF.2.2.1
  · rw [j4]; exact hF.2.2.2
  · by_cases q : j = np
    · subst q
      obtain ⟨z1, z2, z3⟩ := hfr j (Nat.le_refl _)
      rw [j9, j10, j11, if_pos rfl, if_pos rfl, if_pos rfl, m4n, m5, m6, z1, z2, z3, if_pos rfl]
      have hz : (0 : Int32).toInt = 0 := by decide
      have hz6 : (0 : Int64).toInt = 0 := by decide
      refine ⟨⟨rfl, by decide, by rw [hz6]; omega⟩, ⟨by decide, by decide, by rw [hz]; omega⟩, rfl⟩
    · rw [j9, j10, j11, if_neg q, if_neg q, if_neg q, m4j j (by omega), m5, m6, m7]
      exact hP j (by omega)
  · unfold sC
    rw [m0 0 (by omega), m0 1 (by omega), m0 2 (by omega), m0 3 (by omega), m0 4 (by omega), m0 5 (by omega), x10 2 (by omega), x10 3 (by omega), x10 4 (by omega), x10 5 (by omega), x10 6 (by omega), x10 7 (by omega)]
    exact hC
  · rw [m0 0 (by omega)]; exact hT.1
  · rw [m0 0 (by omega)]
    by_cases q : j = np
    · subst q
      rw [m1n, m2n]
      have := hT.1
      exact ⟨this.1, Int.le_refl _, fun _ => by omega⟩
    · rw [m1j j (by omega), m2j j (by omega), m5]
      exact hT.2 j (by omega)
  · rw [m8, j5]; exact hr t ht
  · rw [m5, m6]
    exact hfr m (by omega)
end ZSI
end
section
/-! the two sides agree: the other calls, what they answer -/
section ZSJ
variable {np ng : Nat} {G : Nat → Nat} {MI : Nat → Nat → Int32} {MJ : Nat → Nat → Int64} {XI : Nat → Nat → Int32} {XJ : Nat → Nat → Int64}
theorem fIn_1 {v lo hi : Int32} (h : fIn v lo hi = 1) : lo.toInt ≤ v.toInt ∧ v.toInt ≤ hi.toInt := by
  unfold fIn at h
  by_cases q : lo ≤ v ∧ v ≤ hi
  · exact ⟨Int32.le_iff_toInt_le.mp q.1, Int32.le_iff_toInt_le.mp q.2⟩
  · rw [if_neg q] at h; exact absurd h (by decide)
theorem fIn_01 (v lo hi : Int32) : fIn v lo hi = 0 ∨ fIn v lo hi = 1 := by
  unfold fIn
  split
  · exact Or.inr rfl
  · exact Or.inl rfl
/-- an index names a policy, or none -/
theorem pol_cases {x : Int32} (hx : x = nI np) (hN : np ≤ 30) (q : Int32) : (∃ j, j < np ∧ q = nI j) ∨ ((¬ ∃ j, j < np ∧ q = nI j) ∧ fIn q 0 (x - 1) = 0) := by
  by_cases h : ∃ j, j < np ∧ q = nI j
  · exact Or.inl h
  · refine Or.inr ⟨h, ?_⟩
    rcases fIn_01 q 0 (x - 1) with e | e
    · exact e
    · exfalso
      obtain ⟨h1, h2⟩ := fIn_1 e
      have hnp : (nI np).toInt = np := nI_toInt (by omega)
      have h0 : (0 : Int32).toInt = 0 := by decide
      have hone : (1 : Int32).toInt = 1 := by decide
      rw [hx, i_sub (by rw [hnp, hone]; omega) (by rw [hnp, hone]; omega), hnp, hone] at h2
      rw [h0] at h1
      refine h ⟨q.toInt.toNat, by omega, ?_⟩
      apply Int32.toInt_inj.mp
      rw [nI_toInt (by omega)]
      omega
theorem sim.np30 {y : Nat} (h : sim np ng G MI MJ XI XJ y) : np ≤ 30 := h.2.1.2.2.2.1.2.1
theorem sim_rates {y : Nat} (h : sim np ng G MI MJ XI XJ y) {bo ch : Int32} (h0 : fIn bo 0 200 = 1) (h1 : fIn ch 0 100 = 1) : sim np ng G (u2 (u2 (u2 MI 0 7 0) 0 1 bo) 0 2 ch) MJ (u2 (u2 XI 10 3 bo) 10 4 ch) XJ y := by
  obtain ⟨hy, hK, hF, hP, hC, hT, hr, hcnt, hfr⟩ := h
  refine ⟨hy, hK.cast rfl rfl rfl rfl rfl (fun j hj => (hK.1 j hj).2.2.2.2.1) rfl rfl rfl rfl, hF.cast rfl rfl rfl rfl rfl rfl rfl rfl rfl, hP.cast rfl rfl rfl rfl rfl rfl rfl rfl, ⟨⟨hC.1.1, rfl, rfl, hC.1.2.2.2⟩, fIn_1 h0, fIn_1 h1, hC.2.2.2⟩, hT, hr, hcnt, hfr⟩
theorem sim_scale {y : Nat} (h : sim np ng G MI MJ XI XJ y) {sc sp fl : Int32} (h0 : fIn sc 500 1500 = 1) (h1 : fIn sp 0 1000 = 1) (h2 : fIn fl 0 1000 = 1) : sim np ng G (u2 (u2 (u2 (u2 MI 0 7 0) 0 3 sc) 0 4 sp) 0 5 fl) MJ (u2 (u2 (u2 XI 10 5 sc) 10 6 sp) 10 7 fl) XJ y := by
  obtain ⟨hy, hK, hF, hP, hC, hT, hr, hcnt, hfr⟩ := h
  refine ⟨hy, hK.cast rfl rfl rfl rfl rfl (fun j hj => (hK.1 j hj).2.2.2.2.1) rfl rfl rfl rfl, hF.cast rfl rfl rfl rfl rfl rfl rfl rfl rfl, hP.cast rfl rfl rfl rfl rfl rfl rfl rfl, ⟨⟨hC.1.1, hC.1.2.1, hC.1.2.2.1, rfl, rfl, rfl⟩, hC.2.1, hC.2.2.1, fIn_1 h0, fIn_1 h1, fIn_1 h2⟩, hT, hr, hcnt, hfr⟩
theorem sim_endow {y : Nat} (h : sim np ng G MI MJ XI XJ y) (am : Int64) : sim np ng G (u2 MI 0 7 0) (u2 (u2 MJ 0 0 (MJ 0 0 + am)) 0 1 (MJ 0 1 + am)) XI (u2 (u2 XJ 4 0 (XJ 4 0 + am)) 4 1 (XJ 4 1 + am)) y := by
  obtain ⟨hy, hK, hF, hP, hC, hT, hr, hcnt, hfr⟩ := h.thrown 0
  refine ⟨hy, hK, ⟨hF.1, hF.2.1, ?_, ?_⟩, hP, hC, hT, hr, hcnt, hfr⟩
  · have := hF.2.2.1
    simp [u2, this]
  · have := hF.2.2.2
    simp [u2, this]
/-- a surrender's worth -/
theorem worth_eq {y : Nat} (h : sim np ng G MI MJ XI XJ y) {j : Nat} (hj : j < np) (hs : MI 5 j = 0) : fWorth (XI 10 2 - XI 11 (G j)) (XI 12 (G j)) (fAsset (XI 15 j) (XJ 8 (G j)) (XI 13 j) (XJ 7 (G j))) (XI 13 j) (XI 10 7) = mWorth MI MJ np j ∧ 0 ≤ (mWorth MI MJ np j).toInt ∧ (mWorth MI MJ np j).toInt < 2 ^ 31 := by
  obtain ⟨⟨hy1, hy2⟩, hK, hF, hP, hC, hT, hr, hcnt, hfr⟩ := h
  have hRy := (RBb y (by omega)).1
  obtain ⟨sh, sh1, sh0, shb⟩ := share_eq hK hF hRy hj
  obtain ⟨a1, a2, a3, a4, a5, a6⟩ := hK.1 j hj
  obtain ⟨⟨te1, te2⟩, hp1, hp2⟩ := hK.2.2.2.1.2.2 j hj
  obtain ⟨t1, t2, t3⟩ := hT.2 j hj
  have t4 := t3 hs
  obtain ⟨ag, -⟩ := age1 hT.1 ⟨t1, t2⟩
  rw [sh, ← a1, ← a2, ← a3, ← hC.1.1, ← hC.1.2.2.2.2.2]
  unfold fWorth mWorth
  generalize mShare MI MJ np j = S at *
  generalize MI 0 0 - MI 1 j = yr at *
  have hte : (Int32.toInt64 (MI 2 j)).toInt = (MI 2 j).toInt := to64 _
  rw [fParted_pos (by omega)]
  have h400 : (400 : Int64).toInt = 400 := by decide
  have h600 : (600 : Int64).toInt = 600 := by decide
  have e1 : (400 * Int32.toInt64 yr).toInt = 400 * yr.toInt := by rw [l_mul (by rw [to64, h400]; omega) (by rw [to64, h400]; omega), to64, h400]
  have e2 : (400 * Int32.toInt64 yr / Int32.toInt64 (MI 2 j)).toInt = 400 * yr.toInt / (MI 2 j).toInt := by rw [q_div (by omega), e1, hte, Int.tdiv_eq_ediv_of_nonneg (by omega)]
  have e3 : 0 ≤ 400 * yr.toInt / (MI 2 j).toInt := Int.ediv_nonneg (by omega) (by omega)
  have e4 : 400 * yr.toInt / (MI 2 j).toInt ≤ 16000 := by
    refine Int.ediv_le_of_le_mul (by omega) ?_
    have : 16000 * 2 ≤ 16000 * (MI 2 j).toInt := Int.mul_le_mul_of_nonneg_left te1 (by decide)
    omega
  have e5 : (600 + 400 * Int32.toInt64 yr / Int32.toInt64 (MI 2 j)).toInt = 600 + 400 * yr.toInt / (MI 2 j).toInt := by rw [l_add (by rw [e2, h600]; omega) (by rw [e2, h600]; omega), e2, h600]
  generalize 600 + 400 * Int32.toInt64 yr / Int32.toInt64 (MI 2 j) = W0 at *
  have hSb : S.toInt ≤ 20000 * 1000 := Int.le_trans shb (i_mulb hRy.1 hRy.2 (by decide) (Int.le_refl _)).2
  have f1 := i_mulb (a := S.toInt) (A := 20000000) (b := W0.toInt) (B := 16600) sh0 (by omega) (by omega) (by omega)
  have f2 := fPart_z (a := S) (b := W0) (by omega) (by omega)
  have g0 := i_mulb (a := yr.toInt) (A := 40) (b := (MI 3 j).toInt) (B := 1000) (by omega) (by omega) (by omega) hp2
  have g1 : (Int32.toInt64 yr * Int32.toInt64 (MI 3 j)).toInt = yr.toInt * (MI 3 j).toInt := by rw [l_mul (by rw [to64, to64]; omega) (by rw [to64, to64]; omega), to64, to64]
  have g2 := i_mulb (a := yr.toInt * (MI 3 j).toInt) (A := 40000) (b := (MI 0 5).toInt) (B := 1000) g0.1 (by omega) hC.2.2.2.2.2.1 hC.2.2.2.2.2.2
  have g3 := fPart_z (a := Int32.toInt64 yr * Int32.toInt64 (MI 3 j)) (b := Int32.toInt64 (MI 0 5)) (by rw [g1, to64]; omega) (by rw [g1, to64]; omega)
  rw [g1, to64] at g3
  rw [fThou_part, fThou_part]
  generalize fPart S W0 = F at *
  generalize fPart (Int32.toInt64 yr * Int32.toInt64 (MI 3 j)) (Int32.toInt64 (MI 0 5)) = U at *
  have hmx : fMax F U = fMore F U := rfl
  rw [hmx]
  have hb : 0 ≤ (fMore F U).toInt ∧ (fMore F U).toInt < 2 ^ 31 := by
    unfold fMore
    split <;> omega
  refine ⟨if_neg (fun q => ?_), hb⟩
  have := (q_neg _).mp q
  omega
theorem sim_surrender {y : Nat} (h : sim np ng G MI MJ XI XJ y) {j : Nat} (hj : j < np) (hs : MI 5 j = 0) {w : Int64} (hw : w = mWorth MI MJ np j) :
    sim np ng G (u2 (u2 (u2 (u2 MI 0 7 0) 0 7 0) 5 j 2) 7 j (Int64.toInt32 w)) (lvJ (mPr (u2 (u2 (u2 (u2 MI 0 7 0) 0 7 0) 5 j 2) 7 j (Int64.toInt32 w)) np j) MJ (hm (u2 (u2 MI 0 7 0) 0 7 0) np j) (mShare MI MJ np j) (Int64.toInt32 w)) (u2 XI 15 j 2) (xCloJ XI G j w XJ) y := by
  obtain ⟨-, w1, w2⟩ := worth_eq h hj hs
  rw [← hw] at w1 w2
  obtain ⟨hy, hK, hF, hP, hC, hT, hr, hcnt, hfr⟩ := (h.thrown 0).thrown 0
  have hRy := (RBb y (by omega)).1
  have hpay : Int32.toInt64 (Int64.toInt32 w) = w := by
    apply Int64.toInt_inj.mp
    rw [to64, to32 (by omega) w2]
  obtain ⟨l1, l2, l3⟩ := leave (st := 2) hK hF hP hRy hj hs (by decide) hpay
  refine ⟨hy, l1, l2, l3, hC, ⟨hT.1, fun k hk => ?_⟩, ?_, hcnt, fun m hm => ?_⟩
  · obtain ⟨t1, t2, t3⟩ := hT.2 k hk
    refine ⟨t1, t2, fun h5 => ?_⟩
    rw [u2_5a] at h5
    by_cases q : k = j
    · rw [if_pos q] at h5; exact absurd h5 (by decide)
    · rw [if_neg q] at h5; exact t3 h5
  · have e5 : xCloJ XI G j w XJ 5 = XJ 5 := by unfold xCloJ; rw [u2_k (by decide), u2_k (by decide), u2_k (by decide), u2_k (by decide), u2_k (by decide)]
    intro t ht
    rw [e5]
    exact hr t ht
  · obtain ⟨z1, z2, z3⟩ := hfr m hm
    refine ⟨?_, z2, ?_⟩
    · rw [u2_5a, if_neg (by omega)]; exact z1
    · rw [← z3]
      unfold lvJ
      split <;> simp [u2]
theorem gen_eq (hK : sK np ng G MI XI) {R : Int} (hF : sF np G MI MJ XJ R) (yq te : Int32) : (∃ i k, i < ng ∧ k < np ∧ xF (XI 11) (XI 12) yq te ng 0 = some i ∧ mF (MI 1) (MI 2) yq te np (-1) = nI k ∧ MJ 2 k = XJ 8 i) ∨ (xF (XI 11) (XI 12) yq te ng 0 = none ∧ mF (MI 1) (MI 2) yq te np (-1) = -1) := by
  rcases xF_spec (b := XI 11) (t := XI 12) (y := yq) (te := te) ng 0 with ⟨i, -, h2, ⟨h3, h4⟩, h5⟩ | ⟨h1, h2⟩
  · have hi : i < ng := by omega
    refine Or.inl ?_
    rcases mF_spec (b := MI 1) (t := MI 2) (y := yq) (te := te) np (-1) with ⟨k, g1, ⟨g2, g3⟩, g4, g5⟩ | ⟨g1, g2⟩
    · obtain ⟨a1, a2, -, -, -, a6⟩ := hK.1 k g1
      have hGk : G k = i := hK.2.1 _ _ a6 hi (by rw [← a1, g2, h3]) (by rw [← a2, g3, h4])
      obtain ⟨b1, b2, b3, b4⟩ := hm_spec (MI := MI) g1
      have hk : hm MI np k = k := by
        rcases Nat.lt_or_ge (hm MI np k) k with q | q
        · exact absurd ⟨by rw [b2, g2], by rw [b3, g3]⟩ (g5 _ q)
        · omega
      refine ⟨i, k, hi, g1, h5, g4, ?_⟩
      have := (hF.1 k g1).2.1
      rw [hk, hGk] at this
      exact this
    · obtain ⟨k, c1, -, c3, -⟩ := hK.sur hi
      obtain ⟨a1, a2, -, -, -, a6⟩ := hK.1 k c1
      exact absurd ⟨by rw [a1, c3, h3], by rw [a2, c3, h4]⟩ (g2 k c1)
  · refine Or.inr ⟨h1, ?_⟩
    rcases mF_spec (b := MI 1) (t := MI 2) (y := yq) (te := te) np (-1) with ⟨k, g1, ⟨g2, g3⟩, g4, g5⟩ | ⟨g1, g2⟩
    · obtain ⟨a1, a2, -, -, -, a6⟩ := hK.1 k g1
      exact absurd ⟨by rw [← a1, g2], by rw [← a2, g3]⟩ (h2 (G k) (Nat.zero_le _) (by omega))
    · exact g1
theorem xSh_ge : ∀ (n : Nat), ng ≤ n → xSh XJ ng n = xSh XJ ng ng := by
  intro n
  induction n with
  | zero => intro h; rw [show ng = 0 by omega]
  | succ n ih =>
    intro h
    rcases Nat.eq_or_lt_of_le h with h | h
    · rw [h]
    · simp only [xSh]; rw [if_neg (by omega)]; exact ih (by omega)
theorem sh_eq (hK : sK np ng G MI XI) {R : Int} (hF : sF np G MI MJ XJ R) : xSh XJ ng 30 = mSh MJ np := by
  have key : ∀ k, k ≤ np → mSh MJ k = xSh XJ ng (cnt MI np k) := by
    intro k
    induction k with
    | zero => intro _; exact hF.2.2.1
    | succ k ih =>
      intro hk
      simp only [mSh, cnt]
      rw [ih (by omega)]
      by_cases hh : hm MI np k = k
      · rw [if_pos hh]
        have hGk := hK.2.2.1.1 k (by omega) hh
        have a6 := (hK.1 k (by omega)).2.2.2.2.2
        have := (hF.1 k (by omega)).2.1
        rw [hh] at this
        show _ = xSh XJ ng (cnt MI np k + 1)
        simp only [xSh]
        rw [if_pos (by omega), this, hGk]
      · rw [if_neg hh, hF.2.1 k (Or.inr hh)]
        simp
  rw [xSh_ge 30 (Nat.le_trans hK.gle hK.2.2.2.1.2.1), key np (Nat.le_refl _), hK.2.2.1.2]
theorem sf_eq {y : Nat} (h : sim np ng G MI MJ XI XJ y) : xSf XI XJ G np 30 = mSf MI MJ np np := by
  obtain ⟨⟨hy1, hy2⟩, hK, hF, hP, hC, hT, hr, hcnt, hfr⟩ := h
  have hRy := (RBb y (by omega)).1
  have hBy := (RBb y (by omega)).2
  have hge : ∀ n, np ≤ n → xSf XI XJ G np n = xSf XI XJ G np np := by
    intro n
    induction n with
    | zero => intro h; rw [show np = 0 by omega]
    | succ n ih =>
      intro h
      rcases Nat.eq_or_lt_of_le h with h | h
      · rw [h]
      · simp only [xSf]; rw [if_neg (fun q => by omega)]; exact ih (by omega)
  rw [hge 30 hK.2.2.2.1.2.1]
  have key : ∀ k, k ≤ np → xSf XI XJ G np k = mSf MI MJ np k := by
    intro k
    induction k with
    | zero => intro _; rfl
    | succ k ih =>
      intro hk
      have hkn : k < np := hk
      obtain ⟨a1, a2, a3, a4, a5, a6⟩ := hK.1 k hkn
      simp only [xSf, mSf]
      rw [ih (by omega)]
      by_cases hs : MI 5 k = 0
      · rw [if_pos ⟨hkn, by rw [← a5]; exact hs⟩]
        congr 1
        unfold xSf1 mSf1
        rw [if_pos hs, (share_eq hK hF hRy hkn).1, ← a4]
        obtain ⟨-, ⟨q1, q2, q3⟩, -⟩ := hP k hkn
        have hsm := hK.2.2.2.2 k hkn
        have e : Int32.toInt64 (MI 4 k + MI 6 k) = Int32.toInt64 (MI 4 k) + XJ 10 k := by
          rw [← q1]
          apply Int64.toInt_inj.mp
          rw [to64, i_add (by omega) (by omega), l_add (by rw [to64, to64]; omega) (by rw [to64, to64]; omega), to64, to64]
        rw [e]
        generalize Int32.toInt64 (MI 4 k) + XJ 10 k - mShare MI MJ np k = z
        simp only [fMax]
        by_cases c : 0 < z
        · rw [if_pos c, if_neg (fun q => by have := (q_pos z).mp c; have := (q_neg z).mp q; omega)]
        · rw [if_neg c]
          by_cases c2 : z < 0
          · rw [if_pos c2]
          · rw [if_neg c2]
            apply Int64.toInt_inj.mp
            have g1 := Int.not_lt.mp (fun q => c ((q_pos z).mpr q))
            have g2 := Int.not_lt.mp (fun q => c2 ((q_neg z).mpr q))
            show z.toInt = 0
            omega
      · rw [if_neg (fun q => hs (by rw [a5]; exact q.2))]
        unfold mSf1
        rw [if_neg hs]
        simp
  exact key np (Nat.le_refl _)
end ZSJ
end
section
/-! THE CLAIM OUT OF ONE WALK OF THE LAW'S BODY. Your part is whole_start (and what it stands on); all else here is the same for every law, but numbers. -/
def R_law : String := "ProfitsOfficeLaw"
def lw_P (b : Addr) (xs : List Int32) (args : Array Value) (s : State) : Prop := args = #[.ref b] ∧ s.IntsAt b xs ∧ xs.length ≤ 260 ∧ (Jvm.Cond.and given_1 narrow_1).before args s = true
def lw_Q (_ : Array Value) (s : State) (o : Outcome) (t : State) : Prop := o = .returned (some (.int 1)) ∧ Framed s o t [] 659795 7122083
def lw_Z (below : List Frame) (a : Array Value) (s : State) : State → Prop := fun t => ∃ o, t.status = .running ∧ Ended t below o ∧ lw_Q a s o t
/-- the law's own end, with 1 on the stack, nothing written that was there before, its room as the claim has it -/
theorem lw_ret {p : Program} {l : Launch} {e : Env} {s : State} {m : MethodId} {below : List Frame} {meth : Method} {c : Code} {b : Nat} (hx : p.tables.exec = Jvm.exec) (hb : c.code = code) (hr : meth.sig.returnType = ret) (hlocks : meth.locks = false) {pc : Nat} {H : Heap} {ls : Array Slot} (hdg : decode code pc = .ok (.ireturn, 1)) : W p l e room_1 s m #[Value.ref b] below meth c H [] 659795 7122083 (lw_Z below #[Value.ref b] s) (F0 m pc ls [.int 1]) := by
  intro T hT X
  obtain ⟨fs, hret, hrun, hended, hW, hframe⟩ := X.leave (v := some (.int 1)) (hlocks := hlocks) (fun h => by rw [hr] at h; cases h)
  have hmeth' : T.vm.method? m = some meth := X.method'
  refine ⟨T.setFrames fs, ?_, .returned (some (.int 1)), hrun, hended, rfl, ⟨_, rfl⟩, hW, hframe⟩
  jvm_step X.here [X.here.top, hx, hb, hdg, hmeth', hr, ret, narrow_b1]
  (try refine ⟨rfl, ?_⟩); (try refine ⟨rfl, ?_⟩)
  first | (intro acts; rw [hret _ acts rfl rfl rfl]) | rw [hret _ _ rfl rfl rfl]
  exact Steps.refl _
/-- what holds at the law's entry: the machine, the code, the tables' words (any of lw_tbl by 'hts w (by decide +kernel)'), the script of L ints xs at the cell b, what the Statement gives of the start (any of its parts by flat_of_before) -/
def lw_At (p : Program) (s : State) (m : MethodId) (meth : Method) (c : Code) (b L : Nat) (xs : Nat → Int32) : Prop :=
  p.tables.exec = Jvm.exec ∧ c.code = code ∧ meth.sig.returnType = ret ∧ c.maxLocals = 13 ∧ s.vm.findClass R_law = some m.cls ∧ (∀ w ∈ lw_tbl, w.before #[Value.ref b] s = true) ∧ va_X b L xs s s.heap ∧ b < s.heap.size ∧ meth.locks = false ∧ (Jvm.Cond.and given_1 narrow_1).before #[Value.ref b] s = true
/-! the law: its start -/
section ZLA
variable {p : Program} {l : Launch} {e : Env} {R : Room} {s : State} {m : MethodId} {args : Array Value} {below : List Frame} {meth : Method} {c : Code} {H : Heap} {locs : List Loc} {cells slots : Nat} {Q : State → Prop}
theorem law_T (hts : ∀ w ∈ lw_tbl, w.before args s = true) : ∀ w ∈ WS, w.before args s = true := fun w hw => hts w (List.mem_filter.mp hw).1
theorem law_AO (hts : ∀ w ∈ lw_tbl, w.before args s = true) : va_AO RX2 s ∧ va_AO RX1 s := ⟨va_AO.of (hts (.arrayOver (.object RX2)) (by decide +kernel)), va_AO.of (hts (.arrayOver (.object RX1)) (by decide +kernel))⟩
theorem law_K (hts : ∀ w ∈ lw_tbl, w.before args s = true) : ∃ (D : va_G) (ks : Nat → ClassId), zK D ks s := by
  have hT := law_T hts
  obtain ⟨c0, i0, h0⟩ := u_known hT ly_X0 (hT _ mk_X0)
  obtain ⟨c1, i1, h1⟩ := u_known hT ly_X1 (hT _ mk_X1)
  obtain ⟨c2, i2, h2⟩ := u_known hT ly_X2 (hT _ mk_X2)
  obtain ⟨c3, i3, h3⟩ := u_known hT ly_X3 (hT _ mk_X3)
  obtain ⟨k1, a1, m1, p1, q1, r1⟩ := Cond.arrayClass_spec (hT _ ac_long)
  obtain ⟨m2, k2, a2, f2, -, p2, q2, r2⟩ := Cond.arrayOver_spec (hts (.arrayOver (.object RX1)) (by decide +kernel))
  obtain ⟨m3, k3, a3, f3, -, p3, q3, r3⟩ := Cond.arrayOver_spec (hts (.arrayOver (.object RX2)) (by decide +kernel))
  refine ⟨(fun c => match c with | 0 => c0 | 1 => c1 | 2 => c2 | _ => c3, fun c => match c with | 0 => i0 | 1 => i1 | 2 => i2 | _ => i3), fun k => match k with | 0 => k1 | 1 => k1 | 2 => k2 | _ => k3, ⟨fun c q hq => ?_, fun k q hq => ?_⟩, fun w hw => va_Nw.of (ns_tab w hw) (hts w (ns_tbl w hw))⟩
  · match c with
    | 0 => cases hq; exact h0
    | 1 => cases hq; exact h1
    | 2 => cases hq; exact h2
    | 3 => cases hq; exact h3
    | n + 4 => simp at hq
  · match k with
    | 0 => cases hq; exact ⟨fun n z => ⟨(fun k h => by cases h), a1, q1, m1, r1⟩, p1⟩
    | 1 => cases hq; exact ⟨fun n z => ⟨(fun k h => by cases h), a1, q1, m1, r1⟩, p1⟩
    | 2 => cases hq; exact ⟨fun n z => ⟨(fun k h => by cases h), a2, p2, m2, q2⟩, a2, m2, p2, q2, f2, r2⟩
    | 3 => cases hq; exact ⟨fun n z => ⟨(fun k h => by cases h), a3, p3, m3, q3⟩, a3, m3, p3, q3, f3, r3⟩
    | n + 4 => simp [zT] at hq
theorem str_tbl : ∀ q ∈ xStr, Cond.stringRef RX3 q.1 q.2 ∈ lw_tbl := by decide +kernel
theorem str_nar : ∀ q ∈ xStr, Cond.exactly (Term.string RX3 q.1) "java/lang/String" ∈ flatC (Jvm.Cond.and given_1 narrow_1) := by decide +kernel
theorem ds_tbl : ∀ Y ∈ xDs, Cond.declares (Bundle.initS Y) ∈ lw_tbl := by decide +kernel
theorem law_Z (hts : ∀ w ∈ lw_tbl, w.before args s = true) (hgv : (Jvm.Cond.and given_1 narrow_1).before args s = true) : zZ s := by
  have hs := flat_of_before _ hgv
  refine ⟨fun q hq => ?_, ⟨va_Nw.of rfl (hts _ (by decide +kernel)), va_Nw.of rfl (hts _ (by decide +kernel)), va_Nw.of rfl (hts _ (by decide +kernel))⟩, ⟨trivial, trivial⟩, fun Y hY => va_Nw.of rfl (hts _ (ds_tbl Y hY))⟩
  obtain ⟨a, -, -, -, h, -⟩ := Cond.exactly_spec (hs _ (str_nar q hq))
  exact ⟨a, vk_R.of (hts _ (str_tbl q hq)) h⟩
theorem law_Un (hts : ∀ w ∈ lw_tbl, w.before args s = true) (hgv : (Jvm.Cond.and given_1 narrow_1).before args s = true) : zUn (fun q => s.heap.size ≤ q) s s.heap := by
  have hs := flat_of_before _ hgv
  exact ⟨vx_Zqof (hts _ (by decide +kernel)) (hts _ (by decide +kernel)) (hs _ (by decide +kernel)) (fun a h q => absurd q (by omega)), vx_Zqof (hts _ (by decide +kernel)) (hts _ (by decide +kernel)) (hs _ (by decide +kernel)) (fun a h q => absurd q (by omega))⟩
/-- the state that a call is given, for one that may throw -/
theorem law_X {D : va_G} {ks : Nat → ClassId} (hK : zK D ks s) (hZ : zZ s) (hUn : zUn (fun q => s.heap.size ≤ q) s s.heap) (hS : va_S (fun q => s.heap.size ≤ q) s.heap H locs) {U : State} (hU : U.heap = H) (hW : s.WarmedH U.vm) : zX D ks U := by
  refine ⟨hK.warm hW, hZ.warm hW, ?_⟩
  rw [hU]
  have h1 : zUn (fun q => s.heap.size ≤ q) U s.heap := zUn.moved hW.alike hUn
  have h2 : zUn (fun q => s.heap.size ≤ q) U H := h1.kept (fun a h3 h4 => hS.2.1 a h3 h4)
  exact h2.narrow (fun q h3 => Nat.le_trans hS.1 h3)
theorem z_preY {D : va_G} {ks : Nat → ClassId} {As : List Value} {P : Heap → Prop} (hK : zK D ks s) (hZ : zZ s) (hUn : zUn (fun q => s.heap.size ≤ q) s s.heap) (hS : va_S (fun q => s.heap.size ≤ q) s.heap H locs) (hP : P H) : PreS s H (zPY D ks H.size As P) As :=
  ⟨zPY.blind, fun U hU hW => ⟨rfl, by rw [hU], by rw [hU]; exact hP, law_X hK hZ hUn hS hU hW⟩⟩
theorem z_runY {cc : ByteArray} {nL pc : Nat} {ls : Array Slot} {st0 rest : List Value} {y : MethodName} {cy : ByteArray} {n2 k index fr lo mc ms : Nat} {hh : List (Nat × Nat × Nat × Nat)} {D : va_G} {ks : Nat → ClassId} {sz : Nat} {As : List Value} {P : Heap → Prop} {v : Int32} {B : Heap → Prop} {A1 : Nat → Prop}
    (F : zFx p m c cc nL s args RL) (hM : zMY l y cy n2 hh fr lo mc ms D ks sz As P v B A1) (hc : Cond.codeWith y cy n2 (some .int) hh ∈ WS) (hl : Cond.methodLink RL index y ∈ WS) (hst : Cond.static y ∈ WS) (hi : Cond.initialized y.cls ∈ WS) (hd : zcD y k) (hp : PreS s H (zPY D ks sz As P) As) (hn : As.length = k) (hR : fr + 1 ≤ R.frames ∧ 8 + (n2 + 11) + lo ≤ R.locals) (hsz : ls.size = nL) (hstk : st0 = As.reverse ++ rest) (hW : (rest.map fun v => v.category).sum ≤ 8) (hdg : decode cc pc = .ok (.invokestatic index, 3)) (hf : cells + mc ≤ R.cells ∧ slots + ms ≤ R.slots) :
    va_Run p l e R s m args below meth c H locs cells slots mc ms (F0 m pc ls st0) rest (zQW (some (.int v)) B A1 As.toArray) A1 := by
  refine vx_runSW (g := F0 m pc ls st0) F hM (vx_cwSW k F.2.2.2.2 (fun w hw => ?_) rfl rfl rfl hd hR) hp rfl hn hsz hstk (lv_room hW) hdg hf
  have h : w ∈ WS := by
    unfold va_wsS at hw
    rcases List.mem_append.mp hw with h | h
    · simp only [List.mem_cons, List.not_mem_nil, or_false] at h
      rcases h with rfl | rfl | rfl
      · exact hl
      · exact hst
      · exact hi
    · rcases List.mem_cons.mp h with rfl | h
      · exact hc
      · exact h
  exact ⟨h, ws_good h⟩
end ZLA
end
section
/-! what the law's loop wants besides -/
section ZLC
variable {D : va_G} {ks : Nat → ClassId} {ad : Nat → Nat} {np ng : Nat} {G : Nat → Nat} {MI : Nat → Nat → Int32} {MJ : Nat → Nat → Int64} {XI : Nat → Nat → Int32} {XJ : Nat → Nat → Int64} {Rs : List Nat}
theorem sim.out {y : Nat} (h : sim np ng G MI MJ XI XJ y) (v : Int64) : sim np ng G MI (u2 MJ 3 0 v) XI XJ y :=
  ⟨h.1, h.2.1, h.2.2.1.cast rfl rfl rfl rfl rfl rfl rfl rfl rfl, h.2.2.2.1.cast rfl rfl rfl rfl rfl rfl rfl rfl, h.2.2.2.2.1, h.2.2.2.2.2.1, h.2.2.2.2.2.2.1, h.2.2.2.2.2.2.2⟩
theorem lvJ_3 {z : Int64} {h : Nat} {sh : Int64} {pay : Int32} : lvJ z MJ h sh pay 3 = MJ 3 := by
  unfold lvJ
  split <;> simp [u2]
theorem mGrow_3 {rt : Int32} : ∀ (k : Nat) (J : Nat → Nat → Int64), mGrow MI rt np k J 3 = J 3 := by
  intro k
  induction k with
  | zero => intro J; rfl
  | succ k ih =>
    intro J
    simp only [mGrow]
    unfold mGrow1
    split
    · rw [u2_k (by decide), u2_k (by decide), u2_k (by decide), u2_k (by decide)]; exact ih J
    · exact ih J
theorem mMtS_3 : ∀ (k : Nat) (S : mST), (mMtS np k S).2 3 = S.2 3 := by
  intro k
  induction k with
  | zero => intro S; rfl
  | succ k ih =>
    intro S
    simp only [mMtS]
    split
    · show lvJ _ _ _ _ _ 3 = _
      rw [lvJ_3]; exact ih S
    · exact ih S
theorem mRunJ_3 {rt : Int32} : mRunJ MI MJ rt np 3 = MJ 3 := by
  unfold mRunJ
  rw [mMtS_3]
  unfold mS0
  show mGrJ rt np (u2 MI 0 7 0) _ 3 = _
  rw [mGrJ_a (by decide), u2_k (by decide), u2_k (by decide), mGrow_3]
theorem mRunI_7 {rt : Int32} : mRunI MI MJ rt np 0 7 = 0 := by
  unfold mRunI
  rw [u2_n (by decide), mCpy_k (by decide), mMtS_k (by decide) (by decide) (by decide)]
  unfold mS0
  show mCpy 9 8 21 (mGrI np (u2 MI 0 7 0)) 0 7 = 0
  rw [mCpy_k (by decide), mGrI_k (by decide)]
  rfl
/-- who may leave -/
theorem leav_eq {y : Nat} (h : sim np ng G MI MJ XI XJ y) {j : Nat} (hj : j < np) : (MI 5 j = 0 ∧ MI 1 j < MI 0 0) ↔ (XI 15 j = 0 ∧ 1 ≤ XI 10 2 - XI 11 (G j)) := by
  obtain ⟨a1, a2, a3, a4, a5, a6⟩ := h.2.1.1 j hj
  obtain ⟨t1, t2, t3⟩ := h.2.2.2.2.2.1.2 j hj
  obtain ⟨ag, -⟩ := age1 h.2.2.2.2.2.1.1 ⟨t1, t2⟩
  rw [← a5, ← a1, ← h.2.2.2.2.1.1.1]
  have hone : (1 : Int32).toInt = 1 := by decide
  rw [Int32.lt_iff_toInt_lt, Int32.le_iff_toInt_le, ag, hone]
  constructor
  · rintro ⟨p1, p2⟩; exact ⟨p1, by omega⟩
  · rintro ⟨p1, p2⟩; exact ⟨p1, by omega⟩
/-- what the two start with -/
def MI0 : Nat → Nat → Int32 := fun a b => if a = 0 then (if b = 1 then 20 else if b = 2 then 5 else if b = 3 then 1000 else if b = 4 then 100 else if b = 5 then 500 else 0) else 0
def XI0 : Nat → Nat → Int32 := fun a b => if a = 10 then (if b = 3 then 20 else if b = 4 then 5 else if b = 5 then 1000 else if b = 6 then 100 else if b = 7 then 500 else 0) else 0
def XJ0 : Nat → Nat → Int64 := fun a => if a = 5 then cF 21 else fun _ => 0
theorem sim_start : sim 0 0 (fun _ => 0) MI0 (fun _ _ => 0) XI0 XJ0 0 := by
  have z : ∀ {P : Nat → Prop}, ∀ j, j < 0 → P j := fun j h => absurd h (Nat.not_lt_zero _)
  refine ⟨⟨by decide, by decide⟩, ⟨z, fun i k h => absurd h (Nat.not_lt_zero _), ⟨z, rfl⟩, ⟨rfl, by decide, z⟩, z⟩, ⟨z, fun k _ => rfl, rfl, rfl⟩, z, ⟨⟨rfl, rfl, rfl, rfl, rfl, rfl⟩, by decide, by decide, by decide, by decide, by decide⟩, ⟨by decide, z⟩, fun t ht => ?_, ⟨rfl, rfl⟩, fun m _ => ⟨rfl, rfl, rfl⟩⟩
  refine ⟨?_, by show 0 ≤ (0 : Int32).toInt; decide, by show (0 : Int32).toInt ≤ _; decide⟩
  show cF 21 t = Int32.toInt64 0 - 1
  unfold cF
  rw [if_pos ht]
  decide
theorem pd_eq {y : Nat} (h : sim np ng G MI MJ XI XJ y) {j : Nat} (hj : j < np) : Int64.toInt32 (XJ 11 j) = (if MI 5 j = 0 then -1 else MI 7 j) := by
  have := (h.2.2.2.1 j hj).2.2
  by_cases h5 : MI 5 j = 0
  · rw [if_pos h5] at this ⊢
    rw [this]; decide
  · rw [if_neg h5] at this ⊢
    exact this.symm
end ZLC
end
