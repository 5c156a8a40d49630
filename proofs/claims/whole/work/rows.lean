section
-- ===== PART A: goes FIRST, ahead of the names: the tables' words, and 'selects' of the private methods out of them =====
/-- a private method of a class that the tables say can be made, by its rows of tables_1 -/
def lw_okq (q : MethodName × Nat) : Prop := (q.1.cls ≠ "java/lang/invoke/MethodHandle" ∧ q.1.cls ≠ "java/lang/invoke/VarHandle") ∧ Cond.instantiable q.1.cls q.2 ∈ tables_1 ∧ Cond.privateMethod q.1 ∈ tables_1 ∧ Cond.instanceMethod q.1 ∈ tables_1
theorem lw_p0 : lw_okq (⟨"ProfitsOffice$Policy", "isInForce", "()Z"⟩, 7) := ⟨⟨by decide +kernel, by decide +kernel⟩, List.mem_of_getElem? (i := 97) (by decide +kernel), List.mem_of_getElem? (i := 95) (by decide +kernel), List.mem_of_getElem? (i := 96) (by decide +kernel)⟩
theorem lw_p1 : lw_okq (⟨"ProfitsOffice$Policy", "guaranteed", "()J"⟩, 7) := ⟨⟨by decide +kernel, by decide +kernel⟩, List.mem_of_getElem? (i := 97) (by decide +kernel), List.mem_of_getElem? (i := 100) (by decide +kernel), List.mem_of_getElem? (i := 101) (by decide +kernel)⟩
theorem lw_p2 : lw_okq (⟨"ProfitsOffice$Policy", "assetShare", "()J"⟩, 7) := ⟨⟨by decide +kernel, by decide +kernel⟩, List.mem_of_getElem? (i := 97) (by decide +kernel), List.mem_of_getElem? (i := 104) (by decide +kernel), List.mem_of_getElem? (i := 105) (by decide +kernel)⟩
theorem lw_p3 : lw_okq (⟨"ProfitsOffice$Generation", "shareFor", "(I)J"⟩, 4) := ⟨⟨by decide +kernel, by decide +kernel⟩, List.mem_of_getElem? (i := 111) (by decide +kernel), List.mem_of_getElem? (i := 109) (by decide +kernel), List.mem_of_getElem? (i := 110) (by decide +kernel)⟩
theorem lw_p4 : lw_okq (⟨"java/lang/Throwable", "fillInStackTrace", "(I)Ljava/lang/Throwable;"⟩, 6) := ⟨⟨by decide +kernel, by decide +kernel⟩, List.mem_of_getElem? (i := 174) (by decide +kernel), List.mem_of_getElem? (i := 172) (by decide +kernel), List.mem_of_getElem? (i := 173) (by decide +kernel)⟩
theorem lw_p5 : lw_okq (⟨"ProfitsOffice", "joinGeneration", "(II)LProfitsOffice$Generation;"⟩, 14) := ⟨⟨by decide +kernel, by decide +kernel⟩, List.mem_of_getElem? (i := 14) (by decide +kernel), List.mem_of_getElem? (i := 220) (by decide +kernel), List.mem_of_getElem? (i := 221) (by decide +kernel)⟩
theorem lw_p6 : lw_okq (⟨"ProfitsOffice", "findGeneration", "(II)LProfitsOffice$Generation;"⟩, 14) := ⟨⟨by decide +kernel, by decide +kernel⟩, List.mem_of_getElem? (i := 14) (by decide +kernel), List.mem_of_getElem? (i := 224) (by decide +kernel), List.mem_of_getElem? (i := 225) (by decide +kernel)⟩
theorem lw_p7 : lw_okq (⟨"ProfitsOffice", "knownPolicy", "(I)LProfitsOffice$Policy;"⟩, 14) := ⟨⟨by decide +kernel, by decide +kernel⟩, List.mem_of_getElem? (i := 14) (by decide +kernel), List.mem_of_getElem? (i := 304) (by decide +kernel), List.mem_of_getElem? (i := 305) (by decide +kernel)⟩
theorem lw_p8 : lw_okq (⟨"ProfitsOffice", "checkSurrenderable", "(LProfitsOffice$Policy;)V"⟩, 14) := ⟨⟨by decide +kernel, by decide +kernel⟩, List.mem_of_getElem? (i := 14) (by decide +kernel), List.mem_of_getElem? (i := 324) (by decide +kernel), List.mem_of_getElem? (i := 325) (by decide +kernel)⟩
theorem lw_p9 : lw_okq (⟨"ProfitsOffice", "yearsRun", "(LProfitsOffice$Policy;)I"⟩, 14) := ⟨⟨by decide +kernel, by decide +kernel⟩, List.mem_of_getElem? (i := 14) (by decide +kernel), List.mem_of_getElem? (i := 328) (by decide +kernel), List.mem_of_getElem? (i := 329) (by decide +kernel)⟩
theorem lw_p10 : lw_okq (⟨"ProfitsOffice", "surrenderWorth", "(LProfitsOffice$Policy;)J"⟩, 14) := ⟨⟨by decide +kernel, by decide +kernel⟩, List.mem_of_getElem? (i := 14) (by decide +kernel), List.mem_of_getElem? (i := 333) (by decide +kernel), List.mem_of_getElem? (i := 334) (by decide +kernel)⟩
theorem lw_p11 : lw_okq (⟨"ProfitsOffice", "close", "(LProfitsOffice$Policy;IJ)V"⟩, 14) := ⟨⟨by decide +kernel, by decide +kernel⟩, List.mem_of_getElem? (i := 14) (by decide +kernel), List.mem_of_getElem? (i := 347) (by decide +kernel), List.mem_of_getElem? (i := 348) (by decide +kernel)⟩
theorem lw_p12 : lw_okq (⟨"ProfitsOffice$Generation", "release", "(I)J"⟩, 4) := ⟨⟨by decide +kernel, by decide +kernel⟩, List.mem_of_getElem? (i := 111) (by decide +kernel), List.mem_of_getElem? (i := 351) (by decide +kernel), List.mem_of_getElem? (i := 352) (by decide +kernel)⟩
theorem lw_p13 : lw_okq (⟨"ProfitsOffice", "growGenerations", "(I)V"⟩, 14) := ⟨⟨by decide +kernel, by decide +kernel⟩, List.mem_of_getElem? (i := 14) (by decide +kernel), List.mem_of_getElem? (i := 391) (by decide +kernel), List.mem_of_getElem? (i := 392) (by decide +kernel)⟩
theorem lw_p14 : lw_okq (⟨"ProfitsOffice$Fund", "earn", "(I)J"⟩, 1) := ⟨⟨by decide +kernel, by decide +kernel⟩, List.mem_of_getElem? (i := 232) (by decide +kernel), List.mem_of_getElem? (i := 395) (by decide +kernel), List.mem_of_getElem? (i := 396) (by decide +kernel)⟩
theorem lw_p15 : lw_okq (⟨"ProfitsOffice$Fund", "takeCharge", "(I)J"⟩, 1) := ⟨⟨by decide +kernel, by decide +kernel⟩, List.mem_of_getElem? (i := 232) (by decide +kernel), List.mem_of_getElem? (i := 400) (by decide +kernel), List.mem_of_getElem? (i := 401) (by decide +kernel)⟩
def lw_privs_1 : List (MethodName × Nat) := [(⟨"ProfitsOffice$Policy", "isInForce", "()Z"⟩, 7), (⟨"ProfitsOffice$Policy", "guaranteed", "()J"⟩, 7), (⟨"ProfitsOffice$Policy", "assetShare", "()J"⟩, 7), (⟨"ProfitsOffice$Generation", "shareFor", "(I)J"⟩, 4), (⟨"java/lang/Throwable", "fillInStackTrace", "(I)Ljava/lang/Throwable;"⟩, 6), (⟨"ProfitsOffice", "joinGeneration", "(II)LProfitsOffice$Generation;"⟩, 14), (⟨"ProfitsOffice", "findGeneration", "(II)LProfitsOffice$Generation;"⟩, 14), (⟨"ProfitsOffice", "knownPolicy", "(I)LProfitsOffice$Policy;"⟩, 14), (⟨"ProfitsOffice", "checkSurrenderable", "(LProfitsOffice$Policy;)V"⟩, 14), (⟨"ProfitsOffice", "yearsRun", "(LProfitsOffice$Policy;)I"⟩, 14), (⟨"ProfitsOffice", "surrenderWorth", "(LProfitsOffice$Policy;)J"⟩, 14), (⟨"ProfitsOffice", "close", "(LProfitsOffice$Policy;IJ)V"⟩, 14), (⟨"ProfitsOffice$Generation", "release", "(I)J"⟩, 4), (⟨"ProfitsOffice", "growGenerations", "(I)V"⟩, 14), (⟨"ProfitsOffice$Fund", "earn", "(I)J"⟩, 1), (⟨"ProfitsOffice$Fund", "takeCharge", "(I)J"⟩, 1)]
theorem lw_r1 : ∀ q ∈ lw_privs_1, lw_okq q := List.forall_mem_cons.mpr ⟨lw_p0, List.forall_mem_cons.mpr ⟨lw_p1, List.forall_mem_cons.mpr ⟨lw_p2, List.forall_mem_cons.mpr ⟨lw_p3, List.forall_mem_cons.mpr ⟨lw_p4, List.forall_mem_cons.mpr ⟨lw_p5, List.forall_mem_cons.mpr ⟨lw_p6, List.forall_mem_cons.mpr ⟨lw_p7, List.forall_mem_cons.mpr ⟨lw_p8, List.forall_mem_cons.mpr ⟨lw_p9, List.forall_mem_cons.mpr ⟨lw_p10, List.forall_mem_cons.mpr ⟨lw_p11, List.forall_mem_cons.mpr ⟨lw_p12, List.forall_mem_cons.mpr ⟨lw_p13, List.forall_mem_cons.mpr ⟨lw_p14, List.forall_mem_cons.mpr ⟨lw_p15, fun _ h => absurd h List.not_mem_nil⟩⟩⟩⟩⟩⟩⟩⟩⟩⟩⟩⟩⟩⟩⟩⟩
theorem lw_p16 : lw_okq (⟨"ProfitsOffice", "growPoliciesAlone", "(I)V"⟩, 14) := ⟨⟨by decide +kernel, by decide +kernel⟩, List.mem_of_getElem? (i := 14) (by decide +kernel), List.mem_of_getElem? (i := 404) (by decide +kernel), List.mem_of_getElem? (i := 405) (by decide +kernel)⟩
theorem lw_p17 : lw_okq (⟨"ProfitsOffice", "giveBonuses", "()V"⟩, 14) := ⟨⟨by decide +kernel, by decide +kernel⟩, List.mem_of_getElem? (i := 14) (by decide +kernel), List.mem_of_getElem? (i := 408) (by decide +kernel), List.mem_of_getElem? (i := 409) (by decide +kernel)⟩
theorem lw_p18 : lw_okq (⟨"ProfitsOffice", "maturePolicies", "()I"⟩, 14) := ⟨⟨by decide +kernel, by decide +kernel⟩, List.mem_of_getElem? (i := 14) (by decide +kernel), List.mem_of_getElem? (i := 412) (by decide +kernel), List.mem_of_getElem? (i := 413) (by decide +kernel)⟩
theorem lw_p19 : lw_okq (⟨"ProfitsOffice", "mature", "(LProfitsOffice$Policy;)V"⟩, 14) := ⟨⟨by decide +kernel, by decide +kernel⟩, List.mem_of_getElem? (i := 14) (by decide +kernel), List.mem_of_getElem? (i := 419) (by decide +kernel), List.mem_of_getElem? (i := 420) (by decide +kernel)⟩
theorem lw_p20 : lw_okq (⟨"ProfitsOffice", "smooth", "(JJ)J"⟩, 14) := ⟨⟨by decide +kernel, by decide +kernel⟩, List.mem_of_getElem? (i := 14) (by decide +kernel), List.mem_of_getElem? (i := 423) (by decide +kernel), List.mem_of_getElem? (i := 424) (by decide +kernel)⟩
theorem lw_p21 : lw_okq (⟨"ProfitsOfficeModel", "canLeave", "(I)Z"⟩, 21) := ⟨⟨by decide +kernel, by decide +kernel⟩, List.mem_of_getElem? (i := 488) (by decide +kernel), List.mem_of_getElem? (i := 575) (by decide +kernel), List.mem_of_getElem? (i := 576) (by decide +kernel)⟩
theorem lw_p22 : lw_okq (⟨"ProfitsOfficeModel", "isPolicy", "(I)Z"⟩, 21) := ⟨⟨by decide +kernel, by decide +kernel⟩, List.mem_of_getElem? (i := 488) (by decide +kernel), List.mem_of_getElem? (i := 579) (by decide +kernel), List.mem_of_getElem? (i := 580) (by decide +kernel)⟩
theorem lw_p23 : lw_okq (⟨"ProfitsOfficeModel", "worthOf", "(I)J"⟩, 21) := ⟨⟨by decide +kernel, by decide +kernel⟩, List.mem_of_getElem? (i := 488) (by decide +kernel), List.mem_of_getElem? (i := 583) (by decide +kernel), List.mem_of_getElem? (i := 584) (by decide +kernel)⟩
theorem lw_p24 : lw_okq (⟨"ProfitsOfficeModel", "share", "(I)J"⟩, 21) := ⟨⟨by decide +kernel, by decide +kernel⟩, List.mem_of_getElem? (i := 488) (by decide +kernel), List.mem_of_getElem? (i := 587) (by decide +kernel), List.mem_of_getElem? (i := 588) (by decide +kernel)⟩
theorem lw_p25 : lw_okq (⟨"ProfitsOfficeModel", "home", "(I)I"⟩, 21) := ⟨⟨by decide +kernel, by decide +kernel⟩, List.mem_of_getElem? (i := 488) (by decide +kernel), List.mem_of_getElem? (i := 591) (by decide +kernel), List.mem_of_getElem? (i := 592) (by decide +kernel)⟩
theorem lw_p26 : lw_okq (⟨"ProfitsOfficeModel", "firstOf", "(II)I"⟩, 21) := ⟨⟨by decide +kernel, by decide +kernel⟩, List.mem_of_getElem? (i := 488) (by decide +kernel), List.mem_of_getElem? (i := 595) (by decide +kernel), List.mem_of_getElem? (i := 596) (by decide +kernel)⟩
theorem lw_p27 : lw_okq (⟨"ProfitsOfficeModel", "premiumsOf", "(II)J"⟩, 21) := ⟨⟨by decide +kernel, by decide +kernel⟩, List.mem_of_getElem? (i := 488) (by decide +kernel), List.mem_of_getElem? (i := 599) (by decide +kernel), List.mem_of_getElem? (i := 600) (by decide +kernel)⟩
theorem lw_p28 : lw_okq (⟨"ProfitsOfficeModel", "leaves", "(IIJI)V"⟩, 21) := ⟨⟨by decide +kernel, by decide +kernel⟩, List.mem_of_getElem? (i := 488) (by decide +kernel), List.mem_of_getElem? (i := 609) (by decide +kernel), List.mem_of_getElem? (i := 610) (by decide +kernel)⟩
theorem lw_p29 : lw_okq (⟨"ProfitsOfficeModel", "grows", "(I)V"⟩, 21) := ⟨⟨by decide +kernel, by decide +kernel⟩, List.mem_of_getElem? (i := 488) (by decide +kernel), List.mem_of_getElem? (i := 631) (by decide +kernel), List.mem_of_getElem? (i := 632) (by decide +kernel)⟩
theorem lw_p30 : lw_okq (⟨"ProfitsOfficeModel", "grants", "(I)V"⟩, 21) := ⟨⟨by decide +kernel, by decide +kernel⟩, List.mem_of_getElem? (i := 488) (by decide +kernel), List.mem_of_getElem? (i := 635) (by decide +kernel), List.mem_of_getElem? (i := 636) (by decide +kernel)⟩
theorem lw_p31 : lw_okq (⟨"ProfitsOfficeModel", "matures", "(I)V"⟩, 21) := ⟨⟨by decide +kernel, by decide +kernel⟩, List.mem_of_getElem? (i := 488) (by decide +kernel), List.mem_of_getElem? (i := 639) (by decide +kernel), List.mem_of_getElem? (i := 640) (by decide +kernel)⟩
def lw_privs_2 : List (MethodName × Nat) := [(⟨"ProfitsOffice", "growPoliciesAlone", "(I)V"⟩, 14), (⟨"ProfitsOffice", "giveBonuses", "()V"⟩, 14), (⟨"ProfitsOffice", "maturePolicies", "()I"⟩, 14), (⟨"ProfitsOffice", "mature", "(LProfitsOffice$Policy;)V"⟩, 14), (⟨"ProfitsOffice", "smooth", "(JJ)J"⟩, 14), (⟨"ProfitsOfficeModel", "canLeave", "(I)Z"⟩, 21), (⟨"ProfitsOfficeModel", "isPolicy", "(I)Z"⟩, 21), (⟨"ProfitsOfficeModel", "worthOf", "(I)J"⟩, 21), (⟨"ProfitsOfficeModel", "share", "(I)J"⟩, 21), (⟨"ProfitsOfficeModel", "home", "(I)I"⟩, 21), (⟨"ProfitsOfficeModel", "firstOf", "(II)I"⟩, 21), (⟨"ProfitsOfficeModel", "premiumsOf", "(II)J"⟩, 21), (⟨"ProfitsOfficeModel", "leaves", "(IIJI)V"⟩, 21), (⟨"ProfitsOfficeModel", "grows", "(I)V"⟩, 21), (⟨"ProfitsOfficeModel", "grants", "(I)V"⟩, 21), (⟨"ProfitsOfficeModel", "matures", "(I)V"⟩, 21)]
theorem lw_r2 : ∀ q ∈ lw_privs_2, lw_okq q := List.forall_mem_cons.mpr ⟨lw_p16, List.forall_mem_cons.mpr ⟨lw_p17, List.forall_mem_cons.mpr ⟨lw_p18, List.forall_mem_cons.mpr ⟨lw_p19, List.forall_mem_cons.mpr ⟨lw_p20, List.forall_mem_cons.mpr ⟨lw_p21, List.forall_mem_cons.mpr ⟨lw_p22, List.forall_mem_cons.mpr ⟨lw_p23, List.forall_mem_cons.mpr ⟨lw_p24, List.forall_mem_cons.mpr ⟨lw_p25, List.forall_mem_cons.mpr ⟨lw_p26, List.forall_mem_cons.mpr ⟨lw_p27, List.forall_mem_cons.mpr ⟨lw_p28, List.forall_mem_cons.mpr ⟨lw_p29, List.forall_mem_cons.mpr ⟨lw_p30, List.forall_mem_cons.mpr ⟨lw_p31, fun _ h => absurd h List.not_mem_nil⟩⟩⟩⟩⟩⟩⟩⟩⟩⟩⟩⟩⟩⟩⟩⟩
def lw_privs : List (MethodName × Nat) := lw_privs_1 ++ (lw_privs_2)
def lw_tbl : List Cond := k2_sels lw_privs ++ tables_1
theorem lw_privs_ok : ∀ q ∈ lw_privs, lw_okq q := by
  show ∀ q ∈ lw_privs_1 ++ (lw_privs_2), lw_okq q
  exact List.forall_mem_append.mpr ⟨lw_r1, lw_r2⟩
end
section
/-! ===== BEGIN words of one list among another's, by their places ===== -/
theorem goodIn_r {big : List Cond} (ws : List Cond) (ps : List Nat) (hp : ws = ps.filterMap (fun i => big[i]?)) (h : ws.all goodWord = true) : GoodIn big ws := by
  intro w hw
  have h1 := List.all_eq_true.mp h w hw
  rw [hp] at hw
  obtain ⟨i, -, hi⟩ := List.mem_filterMap.mp hw
  have hm : w ∈ big := by first | exact List.mem_of_getElem? hi | exact List.getElem?_mem hi
  exact ⟨hm, good_of_word h1⟩
theorem goodIn_app {big a b : List Cond} (ha : GoodIn big a) (hb : GoodIn big b) : GoodIn big (a ++ b) := fun w h => (List.mem_append.mp h).elim (ha w) (hb w)
theorem goodIn_ca {big a b : List Cond} {c : Cond} (ha : GoodIn big (c :: a)) (hb : GoodIn big b) : GoodIn big (c :: (a ++ b)) := fun w h => (List.mem_cons.mp h).elim (fun e => ha w (List.mem_cons.mpr (Or.inl e))) (fun h => (List.mem_append.mp h).elim (fun h => ha w (List.mem_cons.mpr (Or.inr h))) (hb w))
theorem goodIn_sub {big ws : List Cond} (hm : ∀ w ∈ ws, w ∈ big) (h : ws.all goodWord = true) : GoodIn big ws := fun w hw => ⟨hm w hw, good_of_word (List.all_eq_true.mp h w hw)⟩
/-! ===== END ===== -/

/-! ===== BEGIN exceptions that leave a method, and their catching by the caller (launches without stack traces) ===== -/
section VXA
/-! The laws vx_back, vx_callV, vx_callS, vx_callSW, vx_throw0, vx_throwS follow proofs of the library, with one case more: JvmDerived/Free/Laws.lean (Back.of_free), Shelf42/LK1.lean (callV, callS), Shelf/KitTraced.lean (throwNew0V, throwNewS). -/
/-- where a method has thrown q: the class by its name, the cell, what was written, the world -/
def vx_T (XC : String → State → State → Prop) (st : State) (q : Addr) (t : State) (mc ms : Nat) (free : Addr → Prop) : Prop :=
  ∃ (E : String) (ce : Cell) (L : List Loc), XC E st t ∧ t.heap[q]? = some ce ∧ ce.vm = .none ∧ st.vm.findClass E = some ce.cls ∧ st.WarmedH t.vm ∧ st.sameButNew ({ t with vm := st.vm } : State) L mc ms ∧ ∀ z ∈ L, free z.base
def vx_Q (Qc : Array Value → State → Outcome → State → Prop) (XC : String → State → State → Prop) (mc ms : Nat) (free : Addr → Prop) : Array Value → State → Outcome → State → Prop := fun a st o t =>
  (Qc a st o t ∧ ∃ L, FrameEnd st o t L mc ms ∧ ∀ q ∈ L, free q.base) ∨ ∃ q, o = .threw q ∧ vx_T XC st q t mc ms free
/-- a callee that returns or throws -/
def vx_Met (l : Launch) (y : MethodName) (ws : List Cond) (rm : Room) (Pc : Array Value → State → Prop) (Qc : Array Value → State → Outcome → State → Prop) (XC : String → State → State → Prop) (mc ms : Nat) (free : Addr → Prop) : Prop :=
  MetFree l y (headSpec ws rm) Pc (fun _ _ _ _ _ => True) (vx_Q Qc XC mc ms free)
def vx_Post (XC : String → State → State → Prop) (mc ms : Nat) (free : Addr → Prop) : Pt → Array Value → Addr → Pt → Prop := fun A a q B =>
  ∃ (g : JFrame) (mk : MethodId) (t : State) (L : List Loc) (E : String) (ce : Cell), B.U.heap = t.heap ∧ B.U.vm = t.vm ∧ XC E (A.U.calling g mk a) t ∧ t.heap[q]? = some ce ∧ ce.vm = .none ∧ A.U.vm.findClass E = some ce.cls ∧ B.locs = A.locs ++ L ∧ (∀ z ∈ L, free z.base) ∧ B.cells = A.cells + mc ∧ B.slots = A.slots + ms
def vx_Back (l : Launch) (R : Room) (p : Program) (e : Env) (below : List Frame) (s : State) (sargs : Array Value) (y : MethodName) (len W9 : Nat)
    (Pre : Pt → Array Value → Prop) (Post : Pt → Array Value → Option Value → Pt → Prop) (PostX : Pt → Array Value → Addr → Pt → Prop) : Prop :=
  ∀ (m : MethodId) (meth : Method) (c : Code) (A : Pt) (g : JFrame) (ig : Instr) (mk : MethodId) (a : Array Value),
    Stand p l e R s m sargs below meth c A.U A.locs A.cells A.slots → g.method = m → g.locals.size = c.maxLocals → decode c.code g.pc = .ok (ig, len) →
    2 * g.monitorRoom + (g.stack.map fun v => v.category).sum ≤ W9 → A.U.methodNamed? y = some mk → Pre A a →
    (∃ (v : Option Value) (B : Pt), Stand p l e R s m sargs below meth c B.U B.locs B.cells B.slots ∧ Post A a v B ∧
      Steps p.tables e below (doInvoke e (A.U.setTop g) [] mk a).1 (B.U.setTop { g with pc := g.pc + len, stack := v.toList ++ g.stack })) ∨
    (∃ (q : Addr) (B : Pt), Stand p l e R s m sargs below meth c B.U B.locs B.cells B.slots ∧ PostX A a q B ∧
      Steps p.tables e below (doInvoke e (A.U.setTop g) [] mk a).1 ((B.U.setTop g).pushFrame (.throwing q)))
section Payer
variable {l : Launch} {R : Room} {p : Program} {e : Env} {below : List Frame} {s : State} {sargs : Array Value} {y : MethodName} {len W9 : Nat}
theorem vx_back {ws : List Cond} {rm : Room} {Pc : Array Value → State → Prop} {Qc : Array Value → State → Outcome → State → Prop} {XC : String → State → State → Prop} {mc ms : Nat} {free : Addr → Prop} {bytes : ByteArray} {maxL : Nat} {ret : Option FieldType}
    (hM : vx_Met l y ws rm Pc Qc XC mc ms free) (hblind : FrameBlind Pc) (hrc : rm.cells = mc) (hrs : rm.slots = ms)
    (hframes : rm.frames + 1 ≤ R.frames) (hlocals : W9 + (maxL + 11) + rm.locals ≤ R.locals)
    (hws : ∀ w ∈ ws, ∀ a' U, s.WarmedH U.vm → w.before a' U = true) (hcode : Cond.code y bytes maxL ret ∈ ws) (hinit : ∀ a' U, s.WarmedH U.vm → (Cond.initialized y.cls).before a' U = true) :
    vx_Back l R p e below s sargs y len W9 (PreOf R mc ms Pc) (PostOf Qc mc ms free) (vx_Post XC mc ms free) := by
  intro m meth c A g ig mk a X hg hsize hdg hW hn hp
  have h1 : (headSpec ws rm).pre.before a A.U = true := atoms_intro fun w hw => hws w hw _ _ X.warmed
  have h2 : (Cond.code y bytes maxL ret).before a A.U = true := hws _ hcode _ _ X.warmed
  have h3 : (Cond.initialized y.cls).before a A.U = true := hinit _ _ X.warmed
  have h4 : A.cells + (headSpec ws rm).room.cells ≤ R.cells := by rw [show (headSpec ws rm).room.cells = mc from hrc]; exact hp.1
  have h5 : A.slots + (headSpec ws rm).room.slots ≤ R.slots := by rw [show (headSpec ws rm).room.slots = ms from hrs]; exact hp.2.1
  have hPc : Pc a (A.U.calling g mk a) := hblind _ _ _ _ hp.2.2
  obtain ⟨U, Ls, c0, s0⟩ := A
  dsimp only [Pt.U, Pt.locs, Pt.cells, Pt.slots] at h1 h2 h3 h4 h5 X hn hPc ⊢
  obtain ⟨methY, cY, hmY, hcY, -, hlY, -, -, -, -⟩ := Cond.code_spec hn h2
  obtain ⟨kY, hkY, -⟩ := className_of_methodNamed hn
  have hinitY : kY.init = .initialized := Cond.initialized_spec (findClass_of_methodNamed hn) hkY h3
  have h : At U g.method c below := by rw [hg]; exact X.here
  have hlocals9 : W9 + (maxL + 11) + (headSpec ws rm).room.locals ≤ R.locals := hlocals
  have happ : (headSpec ws rm).appliesLoose y e.platform (U.calling g mk a) = true :=
    Spec.appliesLoose_calling (g := g) h hdg hn hkY hinitY
      (X.room_calling (g := g) (R' := (headSpec ws rm).room) hsize hmY hcY hframes (by rw [hlY]; omega) h4 h5) h1
  obtain ⟨mid, hmid⟩ := h.above
  have hfr : (U.setTop g).frames = (.java g :: mid) ++ below := by rw [State.frames_setTop' g h.top, hmid]; rfl
  obtain ⟨o, s₂, hsteps, -, hend, hq⟩ := Steps.callFree hM p X.admits X.cas X.clock (acts := []) hfr happ hPc trivial
  have hq' : vx_Q Qc XC mc ms free a (U.calling g mk a) o s₂ := hq
  rw [State.frames_setTop' g h.top] at hend
  obtain ⟨g₀, hg0⟩ := Option.isSome_iff_exists.mp h.top
  obtain ⟨r, hr⟩ := State.topJava?_eq_some.mp hg0
  have hr' : (({ U with heap := s₂.heap, slotsUsed := s₂.slotsUsed } : State).setVm s₂.vm).frames = .java g₀ :: r := hr
  rcases hq' with ⟨hqc, L, hfe, hL⟩ | ⟨q, rfl, E, ce, L, hx, hce, hcv, hcl, hW₂, hsm, hL⟩
  · obtain ⟨⟨v, rfl⟩, hW₂, e2, q2, q3, q4, q5, q6⟩ := id hfe
    have e3 : s₂ = ({ (U.calling g mk a).setFrames s₂.frames with heap := s₂.heap, slotsUsed := s₂.slotsUsed } : State).setVm s₂.vm := by
      have : s₂ = ({ s₂ with vm := (U.calling g mk a).vm } : State).setVm s₂.vm := rfl
      rw [e2] at this
      exact this
    obtain ⟨c₂, i₂, len₂, hc₂, hd₂, hf₂⟩ := hend
    have hW' : U.WarmedH s₂.vm := hW₂
    have hcc : c₂ = c := by
      have h1 : s₂.code? g.method = U.code? g.method := by
        rw [State.code?_eq, State.code?_eq, hW'.alike.method?]
      exact Option.some.inj (hc₂.symm.trans (h1.trans h.code))
    subst hcc
    have hlen : len₂ = len := by rw [hdg] at hd₂; cases hd₂; rfl
    subst hlen
    have hs₂ : s₂ = (({ U with heap := s₂.heap, slotsUsed := s₂.slotsUsed } : State).setVm s₂.vm).setTop { g with pc := g.pc + len₂, stack := v.toList ++ g.stack } := by
      refine e3.trans ?_
      rw [hf₂, State.calling_eq h.top, State.setFrames_setFrames, State.setTop_of_frames _ hr', hr]
      rfl
    have hsame : U.sameButNew ({ U with heap := s₂.heap, slotsUsed := s₂.slotsUsed } : State) L mc ms := by
      refine ⟨?_, q2, q3, q4, q5, q6⟩
      obtain ⟨t, ht, -⟩ := State.frames_cons hr
      show ({ U with heap := s₂.heap, slotsUsed := s₂.slotsUsed } : State) = { U.setFrames U.frames with heap := s₂.heap, slotsUsed := s₂.slotsUsed }
      rw [State.setFrames_self ht]
    subst hg
    refine Or.inl ⟨v, ⟨(({ U with heap := s₂.heap, slotsUsed := s₂.slotsUsed } : State).setVm s₂.vm), Ls ++ L, c0 + mc, s0 + ms⟩,
      ⟨X.admits, X.cas, X.clock, X.frames, X.room, X.hears, X.method, X.code, (X.here.setHeapUsed s₂.heap s₂.slotsUsed).setVm hW'.alike, X.tail, State.WarmedH.trans X.warmed hW', X.limits, X.bytes, X.same.trans (hsame.setVm s.vm)⟩,
      ⟨g, mk, s₂, L, rfl, rfl, hqc, rfl, hL, rfl, rfl⟩, ?_⟩
    show Steps p.tables e below _ ((({ U with heap := s₂.heap, slotsUsed := s₂.slotsUsed } : State).setVm s₂.vm).setTop { g with pc := g.pc + len₂, stack := v.toList ++ g.stack })
    rw [← hs₂]
    exact hsteps
  · obtain ⟨e2, q2, q3, q4, q5, q6⟩ := id hsm
    have e3 : s₂ = ({ (U.calling g mk a).setFrames s₂.frames with heap := s₂.heap, slotsUsed := s₂.slotsUsed } : State).setVm s₂.vm := by
      have : s₂ = ({ s₂ with vm := (U.calling g mk a).vm } : State).setVm s₂.vm := rfl
      rw [e2] at this
      exact this
    have hf₂ : s₂.frames = .throwing q :: .java g :: U.frames.tail := hend
    have hW' : U.WarmedH s₂.vm := hW₂
    have hs₂ : s₂ = ((({ U with heap := s₂.heap, slotsUsed := s₂.slotsUsed } : State).setVm s₂.vm).setTop g).pushFrame (.throwing q) := by
      refine e3.trans ?_
      rw [hf₂, State.calling_eq h.top, State.setFrames_setFrames, State.pushFrame, State.frames_setTop _ hr', State.setTop_of_frames _ hr', State.setFrames_setFrames, hr]
      rfl
    have hsame : U.sameButNew ({ U with heap := s₂.heap, slotsUsed := s₂.slotsUsed } : State) L mc ms := by
      refine ⟨?_, q2, q3, q4, q5, q6⟩
      obtain ⟨t, ht, -⟩ := State.frames_cons hr
      show ({ U with heap := s₂.heap, slotsUsed := s₂.slotsUsed } : State) = { U.setFrames U.frames with heap := s₂.heap, slotsUsed := s₂.slotsUsed }
      rw [State.setFrames_self ht]
    subst hg
    refine Or.inr ⟨q, ⟨(({ U with heap := s₂.heap, slotsUsed := s₂.slotsUsed } : State).setVm s₂.vm), Ls ++ L, c0 + mc, s0 + ms⟩,
      ⟨X.admits, X.cas, X.clock, X.frames, X.room, X.hears, X.method, X.code, (X.here.setHeapUsed s₂.heap s₂.slotsUsed).setVm hW'.alike, X.tail, State.WarmedH.trans X.warmed hW', X.limits, X.bytes, X.same.trans (hsame.setVm s.vm)⟩,
      ⟨g, mk, s₂, L, E, ce, rfl, rfl, hx, hce, hcv, hcl, rfl, hL, rfl, rfl⟩, ?_⟩
    show Steps p.tables e below _ (((({ U with heap := s₂.heap, slotsUsed := s₂.slotsUsed } : State).setVm s₂.vm).setTop g).pushFrame (.throwing q))
    rw [← hs₂]
    exact hsteps
end Payer
section Calls
variable {p : Program} {l : Launch} {e : Env} {R : Room} {s : State} {m : MethodId} {args : Array Value} {below : List Frame} {meth : Method} {c : Code} {T : State} {locs : List Loc} {cells slots : Nat}
theorem vx_callV (X : Stand p l e R s m args below meth c T locs cells slots) (hexec : p.tables.exec = Jvm.exec) {own C : String} {index : Nat} {y : MethodName} {bytes : ByteArray} {maxL : Nat} {ret : Option FieldType}
    (hown : s.vm.findClass own = some m.cls) (hlink : (Cond.methodLink own index y).before args s = true) (hinst : (Cond.instanceMethod y).before args s = true) (hsel : (Cond.selects C y y).before args s = true)
    (hcode : (Cond.code y bytes maxL ret).before args s = true) (hy : y.cls ≠ "java/lang/invoke/MethodHandle" ∧ y.cls ≠ "java/lang/invoke/VarHandle")
    {W9 : Nat} {Pre : Pt → Array Value → Prop} {Post : Pt → Array Value → Option Value → Pt → Prop} {PostX : Pt → Array Value → Addr → Pt → Prop} (hK : vx_Back l R p e below s args y 3 W9 Pre Post PostX)
    {b : Addr} {cellB : Cell} (hcell : T.heap[b]? = some cellB) (hobj : cellB.vm.isStatics = false) (hcls : s.vm.findClass C = some cellB.cls)
    {g : JFrame} (hg : g.method = m) (hsize : g.locals.size = c.maxLocals) {argsL rest : List Value} (hlen : ∀ sig, parseMethodDescriptor y.desc = some sig → argsL.length = sig.parameters.length)
    (hstack : g.stack = argsL.reverse ++ .ref b :: rest) (hW : 2 * g.monitorRoom + (rest.map fun v => v.category).sum ≤ W9) (hdg : decode c.code g.pc = .ok (.invokevirtual index, 3))
    (hpre : ∀ vm₁, s.WarmedH vm₁ → Pre ⟨T.setVm vm₁, locs, cells, slots⟩ (Value.ref b :: argsL).toArray) :
    (∃ (v : Option Value) (vm₁ : Vm) (B : Pt), s.WarmedH vm₁ ∧ Stand p l e R s m args below meth c B.U B.locs B.cells B.slots ∧ Post ⟨T.setVm vm₁, locs, cells, slots⟩ (Value.ref b :: argsL).toArray v B ∧
      ∀ target, Steps p.tables e below (B.U.setTop { g with pc := g.pc + 3, stack := v.toList ++ rest }) target → Steps p.tables e below (T.setTop g) target) ∨
    (∃ (q : Addr) (vm₁ : Vm) (B : Pt), s.WarmedH vm₁ ∧ Stand p l e R s m args below meth c B.U B.locs B.cells B.slots ∧ PostX ⟨T.setVm vm₁, locs, cells, slots⟩ (Value.ref b :: argsL).toArray q B ∧
      Steps p.tables e below (T.setTop g) ((B.U.setTop { g with stack := rest }).pushFrame (.throwing q))) := by
  obtain ⟨mk, methM, hnamed, hmethM, hstM, habM⟩ := Cond.instanceMethod_spec hinst
  obtain ⟨methM', cM, hmethM', -, -, -, -, -, -, hsigM⟩ := Cond.code_spec hnamed hcode
  cases hmethM.symm.trans hmethM'
  obtain ⟨c2, r2, m2, q1, q2, q3, q4, kP, hkP, hkPi⟩ := Cond.selects_spec hsel
  cases hcls.symm.trans q1
  cases (State.methodFound?_of_named hnamed hy).symm.trans q2
  cases hnamed.symm.trans q3
  have hselP : selectMethod e.platform s.vm cellB.cls mk = .method mk := by rw [Launch.admits_selectMethod X.admits]; exact q4
  obtain ⟨vm₁, X₁, hstep₁⟩ := X.invokevirtual hexec hown hlink hnamed hmethM hstM hkP hkPi hy (a := b) (cell := cellB) hcell
    (fun z h => by rw [h] at hobj; cases hobj) hselP hmethM habM hkP hkPi (g := g) hg (argsL := argsL) (rest := rest) (hlen _ hsigM) hstack hdg
  rcases hK m meth c ⟨T.setVm vm₁, locs, cells, slots⟩ { g with stack := rest } (.invokevirtual index) mk (Value.ref b :: argsL).toArray X₁ hg hsize hdg hW (X₁.named hnamed) (hpre vm₁ X₁.warmed) with ⟨v, B, X', hpost, hsteps⟩ | ⟨q, B, X', hpost, hsteps⟩
  · exact Or.inl ⟨v, vm₁, B, X₁.warmed, X', hpost, fun target h => hstep₁ _ fun acts => by rw [doInvoke_state]; exact hsteps.trans h⟩
  · exact Or.inr ⟨q, vm₁, B, X₁.warmed, X', hpost, hstep₁ _ fun acts => by rw [doInvoke_state]; exact hsteps⟩
theorem vx_callS (X : Stand p l e R s m args below meth c T locs cells slots) (hexec : p.tables.exec = Jvm.exec) {own : String} {index : Nat} {y : MethodName} {bytes : ByteArray} {maxL : Nat} {ret : Option FieldType}
    (hown : s.vm.findClass own = some m.cls) (hlink : (Cond.methodLink own index y).before args s = true) (hstat : (Cond.static y).before args s = true) (hinit : (Cond.initialized y.cls).before args s = true)
    (hcode : (Cond.code y bytes maxL ret).before args s = true) (hy : y.cls ≠ "java/lang/invoke/MethodHandle" ∧ y.cls ≠ "java/lang/invoke/VarHandle")
    {W9 : Nat} {Pre : Pt → Array Value → Prop} {Post : Pt → Array Value → Option Value → Pt → Prop} {PostX : Pt → Array Value → Addr → Pt → Prop} (hK : vx_Back l R p e below s args y 3 W9 Pre Post PostX)
    {g : JFrame} (hg : g.method = m) (hsize : g.locals.size = c.maxLocals) {argsL rest : List Value} (hlen : ∀ sig, parseMethodDescriptor y.desc = some sig → argsL.length = sig.parameters.length)
    (hstack : g.stack = argsL.reverse ++ rest) (hW : 2 * g.monitorRoom + (rest.map fun v => v.category).sum ≤ W9) (hdg : decode c.code g.pc = .ok (.invokestatic index, 3))
    (hpre : ∀ vm₁, s.WarmedH vm₁ → Pre ⟨T.setVm vm₁, locs, cells, slots⟩ argsL.toArray) :
    (∃ (v : Option Value) (vm₁ : Vm) (B : Pt), s.WarmedH vm₁ ∧ Stand p l e R s m args below meth c B.U B.locs B.cells B.slots ∧ Post ⟨T.setVm vm₁, locs, cells, slots⟩ argsL.toArray v B ∧
      ∀ target, Steps p.tables e below (B.U.setTop { g with pc := g.pc + 3, stack := v.toList ++ rest }) target → Steps p.tables e below (T.setTop g) target) ∨
    (∃ (q : Addr) (vm₁ : Vm) (B : Pt), s.WarmedH vm₁ ∧ Stand p l e R s m args below meth c B.U B.locs B.cells B.slots ∧ PostX ⟨T.setVm vm₁, locs, cells, slots⟩ argsL.toArray q B ∧
      Steps p.tables e below (T.setTop g) ((B.U.setTop { g with stack := rest }).pushFrame (.throwing q))) := by
  obtain ⟨mk, hnamed⟩ := Cond.code_named hcode
  obtain ⟨methM, cM, hmethM, -, -, -, -, -, -, hsigM⟩ := Cond.code_spec hnamed hcode
  have hstatic : methM.isStatic = true := Cond.static_spec hnamed hmethM hstat
  obtain ⟨kP, hkP, -⟩ := className_of_methodNamed hnamed
  have hinitP : kP.init = .initialized := Cond.initialized_spec (findClass_of_methodNamed hnamed) hkP hinit
  obtain ⟨vm₁, X₁, hstep₁⟩ := X.invokestatic hexec hown hlink hnamed hmethM hstatic hkP hinitP hy (g := g) hg (argsL := argsL) (rest := rest) (hlen _ hsigM) hstack hdg
  rcases hK m meth c ⟨T.setVm vm₁, locs, cells, slots⟩ { g with stack := rest } (.invokestatic index) mk argsL.toArray X₁ hg hsize hdg hW (X₁.named hnamed) (hpre vm₁ X₁.warmed) with ⟨v, B, X', hpost, hsteps⟩ | ⟨q, B, X', hpost, hsteps⟩
  · exact Or.inl ⟨v, vm₁, B, X₁.warmed, X', hpost, fun target h => hstep₁ _ fun acts => by rw [doInvoke_state]; exact hsteps.trans h⟩
  · exact Or.inr ⟨q, vm₁, B, X₁.warmed, X', hpost, hstep₁ _ fun acts => by rw [doInvoke_state]; exact hsteps⟩
end Calls
theorem vx_cls {s : State} {T : State} {vm₁ : Vm} {E : String} {k : ClassId} (hW : s.WarmedH vm₁) (h : (T.setVm vm₁).vm.findClass E = some k) : s.vm.findClass E = some k := by
  have h1 : vm₁.findClass E = some k := h
  rw [hW.alike.findClass] at h1
  exact h1
/-- the method's frame g, with q thrown over it -/
def vx_W (p : Program) (l : Launch) (e : Env) (R : Room) (s : State) (m : MethodId) (args : Array Value) (below : List Frame) (meth : Method) (c : Code) (H : Heap) (locs : List Loc) (cells slots : Nat) (Q : State → Prop) (g : JFrame) (q : Addr) : Prop :=
  ∀ T : State, T.heap = H → Stand p l e R s m args below meth c T locs cells slots → ∃ t, Steps p.tables e below ((T.setTop g).pushFrame (.throwing q)) t ∧ Q t
def vx_Run (p : Program) (l : Launch) (e : Env) (R : Room) (s : State) (m : MethodId) (args : Array Value) (below : List Frame) (meth : Method) (c : Code) (H : Heap) (locs : List Loc) (cells slots mc ms : Nat) (g : JFrame) (rest : List Value) (Qa : State → Outcome → State → Prop) (XC : String → State → State → Prop) (free : Addr → Prop) : Prop :=
  ∀ T : State, T.heap = H → Stand p l e R s m args below meth c T locs cells slots →
    (∃ (v : Option Value) (st₀ t T' : State) (L : List Loc), st₀.heap = H ∧ Stand p l e R s m args below meth c T' (locs ++ L) (cells + mc) (slots + ms) ∧ (∀ q ∈ L, free q.base) ∧ T'.heap = t.heap ∧ T'.vm = t.vm ∧ Qa st₀ (.returned v) t ∧
      Goes p e below T g T' { g with pc := g.pc + 3, stack := v.toList ++ rest }) ∨
    (∃ (q : Addr) (st₀ t T' : State) (L : List Loc) (E : String) (ce : Cell), st₀.heap = H ∧ Stand p l e R s m args below meth c T' (locs ++ L) (cells + mc) (slots + ms) ∧ (∀ z ∈ L, free z.base) ∧ T'.heap = t.heap ∧ T'.vm = t.vm ∧ XC E st₀ t ∧ t.heap[q]? = some ce ∧ ce.vm = .none ∧ s.vm.findClass E = some ce.cls ∧
      Steps p.tables e below (T.setTop g) ((T'.setTop { g with stack := rest }).pushFrame (.throwing q)))
def vx_X {S : Type} (px : S → Prop) (B : String → S → State → Prop) (A : Nat → Prop) : String → State → State → Prop := fun E st t => ∃ u : S, px u ∧ B E u t ∧ va_F A st t
section Runs
variable {p : Program} {l : Launch} {e : Env} {R : Room} {s : State} {m : MethodId} {args : Array Value} {below : List Frame} {meth : Method} {c : Code} {H : Heap} {locs : List Loc} {cells slots : Nat}
variable {y : MethodName} {bytes cc : ByteArray} {maxL nL mc ms n index : Nat} {ret : Option FieldType} {ws : List Cond} {rm : Room} {Pc : Array Value → State → Prop} {Qc : Array Value → State → Outcome → State → Prop} {XC : String → State → State → Prop} {free : Addr → Prop} {Ts : List Cond} {own C : String} {b : Addr} {As rest : List Value} {g : JFrame}
theorem vx_callBack (cb : CallB R s args own index y bytes maxL ret ws rm mc ms n) (hM : vx_Met l y ws rm Pc Qc XC mc ms free) (hbl : FrameBlind Pc) : vx_Back l R p e below s args y 3 8 (PreOf R mc ms Pc) (PostOf Qc mc ms free) (vx_Post XC mc ms free) := by
  obtain ⟨hrc, hrs, hfr, hlo, hws, hcw, -, hini, -⟩ := cb
  exact vx_back (bytes := bytes) (maxL := maxL) (ret := ret) hM hbl hrc hrs hfr hlo hws hcw (fun a' U hW => word_at hW (Or.inl (by first | rfl | simp [Cond.onTables, Cond.keeps, Cond.steady])) hini)
theorem vx_runV (S : CallFix p m c cc nL s args Ts own) (hM : vx_Met l y ws rm Pc Qc XC mc ms free) (cw : CallW R s args own C index y bytes maxL ret ws rm mc ms n) (hp : PreV s H C b Pc As)
    (hg : g.method = m) (hn : As.length = n) (hsize : g.locals.size = nL) (hstack : g.stack = As.reverse ++ .ref b :: rest) (hW : 2 * g.monitorRoom + (rest.map fun v => v.category).sum ≤ 8) (hdg : decode cc g.pc = .ok (.invokevirtual index, 3)) (hf : cells + mc ≤ R.cells ∧ slots + ms ≤ R.slots) :
    vx_Run p l e R s m args below meth c H locs cells slots mc ms g rest (Qc (Value.ref b :: As).toArray) XC free := by
  have hK : vx_Back l R p e below s args y 3 8 (PreOf R mc ms Pc) (PostOf Qc mc ms free) (vx_Post XC mc ms free) := vx_callBack cw.1 hM hp.1
  obtain ⟨⟨-, -, -, -, -, -, hcode, -, hy, hlen, hl⟩, hin, hse⟩ := cw
  obtain ⟨hx, hb, hml, ho, -⟩ := S
  obtain ⟨-, ⟨cellB, hcB, hoB, hclB⟩, hPc⟩ := hp
  intro T hT X
  rcases vx_callV X hx (C := C) (bytes := bytes) (maxL := maxL) (ret := ret) ho hl hin hse hcode hy hK (by rw [hT]; exact hcB) hoB hclB hg (hsize.trans hml.symm) (argsL := As) (rest := rest) (fun sig h => hn.trans (hlen sig h)) hstack hW (by rw [hb]; exact hdg)
    (fun vm₁ hW₁ => ⟨hf.1, hf.2, hPc (T.setVm vm₁) hT hW₁⟩) with ⟨v, vm₁, ⟨U', l2, c2, s2⟩, hW₁, X', ⟨g', mk, t, L, e1, e2, hq, h1, hL, h2, h3⟩, st⟩ | ⟨q, vm₁, ⟨U', l2, c2, s2⟩, hW₁, X', ⟨g', mk, t, L, E, ce, e1, e2, hq, hce, hcv, hcl, h1, hL, h2, h3⟩, st⟩
  · dsimp only [Pt.U, Pt.locs, Pt.cells, Pt.slots] at X' e1 e2 h1 h2 h3 st
    subst h1; subst h2; subst h3
    exact Or.inl ⟨v, (T.setVm vm₁).calling g' mk (Value.ref b :: As).toArray, t, U', L, hT, X', hL, e1, e2, hq, st⟩
  · dsimp only [Pt.U, Pt.locs, Pt.cells, Pt.slots] at X' e1 e2 h1 h2 h3 st hcl
    subst h1; subst h2; subst h3
    exact Or.inr ⟨q, (T.setVm vm₁).calling g' mk (Value.ref b :: As).toArray, t, U', L, E, ce, hT, X', hL, e1, e2, hq, hce, hcv, vx_cls hW₁ hcl, st⟩
theorem vx_runS (S : CallFix p m c cc nL s args Ts own) (hM : vx_Met l y ws rm Pc Qc XC mc ms free) (cw : CallB R s args own index y bytes maxL ret ws rm mc ms n ∧ (Cond.static y).before args s = true) (hp : PreS s H Pc As)
    (hg : g.method = m) (hn : As.length = n) (hsize : g.locals.size = nL) (hstack : g.stack = As.reverse ++ rest) (hW : 2 * g.monitorRoom + (rest.map fun v => v.category).sum ≤ 8) (hdg : decode cc g.pc = .ok (.invokestatic index, 3)) (hf : cells + mc ≤ R.cells ∧ slots + ms ≤ R.slots) :
    vx_Run p l e R s m args below meth c H locs cells slots mc ms g rest (Qc As.toArray) XC free := by
  have hK : vx_Back l R p e below s args y 3 8 (PreOf R mc ms Pc) (PostOf Qc mc ms free) (vx_Post XC mc ms free) := vx_callBack cw.1 hM hp.1
  obtain ⟨⟨-, -, -, -, -, -, hcode, hini, hy, hlen, hl⟩, hstt⟩ := cw
  obtain ⟨hx, hb, hml, ho, -⟩ := S
  intro T hT X
  rcases vx_callS X hx (bytes := bytes) (maxL := maxL) (ret := ret) ho hl hstt hini hcode hy hK hg (hsize.trans hml.symm) (argsL := As) (rest := rest) (fun sig h => hn.trans (hlen sig h)) hstack hW (by rw [hb]; exact hdg)
    (fun vm₁ hW₁ => ⟨hf.1, hf.2, hp.2 (T.setVm vm₁) hT hW₁⟩) with ⟨v, vm₁, ⟨U', l2, c2, s2⟩, hW₁, X', ⟨g', mk, t, L, e1, e2, hq, h1, hL, h2, h3⟩, st⟩ | ⟨q, vm₁, ⟨U', l2, c2, s2⟩, hW₁, X', ⟨g', mk, t, L, E, ce, e1, e2, hq, hce, hcv, hcl, h1, hL, h2, h3⟩, st⟩
  · dsimp only [Pt.U, Pt.locs, Pt.cells, Pt.slots] at X' e1 e2 h1 h2 h3 st
    subst h1; subst h2; subst h3
    exact Or.inl ⟨v, (T.setVm vm₁).calling g' mk As.toArray, t, U', L, hT, X', hL, e1, e2, hq, st⟩
  · dsimp only [Pt.U, Pt.locs, Pt.cells, Pt.slots] at X' e1 e2 h1 h2 h3 st hcl
    subst h1; subst h2; subst h3
    exact Or.inr ⟨q, (T.setVm vm₁).calling g' mk As.toArray, t, U', L, E, ce, hT, X', hL, e1, e2, hq, hce, hcv, vx_cls hW₁ hcl, st⟩
end Runs
section Rows
variable {p : Program} {l : Launch} {e : Env} {R : Room} {s : State} {m : MethodId} {args : Array Value} {below : List Frame} {meth : Method} {c : Code} {H : Heap} {locs : List Loc} {cells slots : Nat} {Q : State → Prop}
variable {mc ms : Nat} {free : Addr → Prop} {A0 A1 : Nat → Prop} {H0 : Heap} {a : Array Value} {pc : Nat} {ls : Array Slot} {st0 rest : List Value}
theorem vx_keep {st₀ t T' : State} {L : List Loc} (h0 : st₀.heap = H) (e1 : T'.heap = t.heap) (hS : va_S A0 H0 H locs) (hA : ∀ q, q < H.size → A1 q → A0 q) (hf : ∀ q, free q → A0 q) (hL : ∀ q ∈ L, free q.base) (hF : va_F A1 st₀ t) :
    H.size ≤ T'.heap.size ∧ (∀ q : Nat, q < H.size → ¬ A1 q → T'.heap[q]? = H[q]?) ∧ va_S A0 H0 T'.heap (locs ++ L) := by
  obtain ⟨hz, hk⟩ := hF
  rw [h0] at hz hk
  exact ⟨by rw [e1]; exact hz, fun q h1 h2 => by rw [e1]; exact hk q h1 h2,
    ⟨Nat.le_trans hS.1 (by rw [e1]; exact hz), fun q h1 h2 => by rw [e1, hk q (Nat.lt_of_lt_of_le h1 hS.1) (fun z => h2 (hA q (Nat.lt_of_lt_of_le h1 hS.1) z))]; exact hS.2.1 q h1 h2, fun q hq => by
      rcases List.mem_append.mp hq with h | h
      · exact hS.2.2 q h
      · exact hf _ (hL q h)⟩⟩
theorem vx_calli {S SX : Type} {post : Int32 → S → Prop} {px : SX → Prop} {B : S → State → Prop} {BX : String → SX → State → Prop} {AX : Nat → Prop} (hr : vx_Run p l e R s m args below meth c H locs cells slots mc ms (F0 m pc ls st0) rest (va_Qi post B A1 a) (vx_X px BX AX) free) (hS : va_S A0 H0 H locs) (hA : ∀ q, q < H.size → A1 q → A0 q) (hf : ∀ q, free q → A0 q) (hAX : ∀ q, q < H.size → AX q → A0 q)
    (kx : ∀ (E : String) (ce : Cell) (q9 : Addr) (u : SX) (t : State) (H1 : Heap) (locs1 : List Loc), t.heap = H1 → s.vm.Alike t.vm → px u → BX E u t → H.size ≤ H1.size → (∀ q : Nat, q < H.size → ¬ AX q → H1[q]? = H[q]?) → va_S A0 H0 H1 locs1 → H1[q9]? = some ce → ce.vm = .none → s.vm.findClass E = some ce.cls → vx_W p l e R s m args below meth c H1 locs1 (cells + mc) (slots + ms) Q (F0 m pc ls rest) q9)
    (kk : ∀ (r : Int32) (u : S) (t : State) (H1 : Heap) (locs1 : List Loc), t.heap = H1 → s.vm.Alike t.vm → post r u → B u t → H.size ≤ H1.size → (∀ q : Nat, q < H.size → ¬ A1 q → H1[q]? = H[q]?) → va_S A0 H0 H1 locs1 → W p l e R s m args below meth c H1 locs1 (cells + mc) (slots + ms) Q (F0 m (pc + 3) ls (.int r :: rest))) : W p l e R s m args below meth c H locs cells slots Q (F0 m pc ls st0) := by
  intro T hT X
  rcases hr T hT X with ⟨v, st₀, t, T', L, h0, X', hL, e1, e2, ⟨⟨r, u, hv, hp, hb⟩, hF⟩, st⟩ | ⟨q, st₀, t, T', L, E, ce, h0, X', hL, e1, e2, ⟨u, hp, hb, hF⟩, hce, hcv, hcl, st⟩
  · cases hv
    obtain ⟨k1, k2, k3⟩ := vx_keep h0 e1 hS hA hf hL hF
    obtain ⟨t2, a1, b1⟩ := kk r u t T'.heap (locs ++ L) e1.symm (by rw [← e2]; exact X'.warmed.alike) hp hb k1 k2 k3 T' rfl X'
    exact ⟨t2, st t2 a1, b1⟩
  · obtain ⟨k1, k2, k3⟩ := vx_keep h0 e1 hS hAX hf hL hF
    obtain ⟨t2, a1, b1⟩ := kx E ce q u t T'.heap (locs ++ L) e1.symm (by rw [← e2]; exact X'.warmed.alike) hp hb k1 k2 k3 (by rw [e1]; exact hce) hcv hcl T' rfl X'
    exact ⟨t2, st.trans a1, b1⟩
theorem vx_calll {S SX : Type} {post : Int64 → S → Prop} {px : SX → Prop} {B : S → State → Prop} {BX : String → SX → State → Prop} {AX : Nat → Prop} (hr : vx_Run p l e R s m args below meth c H locs cells slots mc ms (F0 m pc ls st0) rest (va_Ql post B A1 a) (vx_X px BX AX) free) (hS : va_S A0 H0 H locs) (hA : ∀ q, q < H.size → A1 q → A0 q) (hf : ∀ q, free q → A0 q) (hAX : ∀ q, q < H.size → AX q → A0 q)
    (kx : ∀ (E : String) (ce : Cell) (q9 : Addr) (u : SX) (t : State) (H1 : Heap) (locs1 : List Loc), t.heap = H1 → s.vm.Alike t.vm → px u → BX E u t → H.size ≤ H1.size → (∀ q : Nat, q < H.size → ¬ AX q → H1[q]? = H[q]?) → va_S A0 H0 H1 locs1 → H1[q9]? = some ce → ce.vm = .none → s.vm.findClass E = some ce.cls → vx_W p l e R s m args below meth c H1 locs1 (cells + mc) (slots + ms) Q (F0 m pc ls rest) q9)
    (kk : ∀ (r : Int64) (u : S) (t : State) (H1 : Heap) (locs1 : List Loc), t.heap = H1 → s.vm.Alike t.vm → post r u → B u t → H.size ≤ H1.size → (∀ q : Nat, q < H.size → ¬ A1 q → H1[q]? = H[q]?) → va_S A0 H0 H1 locs1 → W p l e R s m args below meth c H1 locs1 (cells + mc) (slots + ms) Q (F0 m (pc + 3) ls (.long r :: rest))) : W p l e R s m args below meth c H locs cells slots Q (F0 m pc ls st0) := by
  intro T hT X
  rcases hr T hT X with ⟨v, st₀, t, T', L, h0, X', hL, e1, e2, ⟨⟨r, u, hv, hp, hb⟩, hF⟩, st⟩ | ⟨q, st₀, t, T', L, E, ce, h0, X', hL, e1, e2, ⟨u, hp, hb, hF⟩, hce, hcv, hcl, st⟩
  · cases hv
    obtain ⟨k1, k2, k3⟩ := vx_keep h0 e1 hS hA hf hL hF
    obtain ⟨t2, a1, b1⟩ := kk r u t T'.heap (locs ++ L) e1.symm (by rw [← e2]; exact X'.warmed.alike) hp hb k1 k2 k3 T' rfl X'
    exact ⟨t2, st t2 a1, b1⟩
  · obtain ⟨k1, k2, k3⟩ := vx_keep h0 e1 hS hAX hf hL hF
    obtain ⟨t2, a1, b1⟩ := kx E ce q u t T'.heap (locs ++ L) e1.symm (by rw [← e2]; exact X'.warmed.alike) hp hb k1 k2 k3 (by rw [e1]; exact hce) hcv hcl T' rfl X'
    exact ⟨t2, st.trans a1, b1⟩
theorem vx_callf {S SX : Type} {post : UInt32 → S → Prop} {px : SX → Prop} {B : S → State → Prop} {BX : String → SX → State → Prop} {AX : Nat → Prop} (hr : vx_Run p l e R s m args below meth c H locs cells slots mc ms (F0 m pc ls st0) rest (va_Qf post B A1 a) (vx_X px BX AX) free) (hS : va_S A0 H0 H locs) (hA : ∀ q, q < H.size → A1 q → A0 q) (hf : ∀ q, free q → A0 q) (hAX : ∀ q, q < H.size → AX q → A0 q)
    (kx : ∀ (E : String) (ce : Cell) (q9 : Addr) (u : SX) (t : State) (H1 : Heap) (locs1 : List Loc), t.heap = H1 → s.vm.Alike t.vm → px u → BX E u t → H.size ≤ H1.size → (∀ q : Nat, q < H.size → ¬ AX q → H1[q]? = H[q]?) → va_S A0 H0 H1 locs1 → H1[q9]? = some ce → ce.vm = .none → s.vm.findClass E = some ce.cls → vx_W p l e R s m args below meth c H1 locs1 (cells + mc) (slots + ms) Q (F0 m pc ls rest) q9)
    (kk : ∀ (r : UInt32) (u : S) (t : State) (H1 : Heap) (locs1 : List Loc), t.heap = H1 → s.vm.Alike t.vm → post r u → B u t → H.size ≤ H1.size → (∀ q : Nat, q < H.size → ¬ A1 q → H1[q]? = H[q]?) → va_S A0 H0 H1 locs1 → W p l e R s m args below meth c H1 locs1 (cells + mc) (slots + ms) Q (F0 m (pc + 3) ls (.float r :: rest))) : W p l e R s m args below meth c H locs cells slots Q (F0 m pc ls st0) := by
  intro T hT X
  rcases hr T hT X with ⟨v, st₀, t, T', L, h0, X', hL, e1, e2, ⟨⟨r, u, hv, hp, hb⟩, hF⟩, st⟩ | ⟨q, st₀, t, T', L, E, ce, h0, X', hL, e1, e2, ⟨u, hp, hb, hF⟩, hce, hcv, hcl, st⟩
  · cases hv
    obtain ⟨k1, k2, k3⟩ := vx_keep h0 e1 hS hA hf hL hF
    obtain ⟨t2, a1, b1⟩ := kk r u t T'.heap (locs ++ L) e1.symm (by rw [← e2]; exact X'.warmed.alike) hp hb k1 k2 k3 T' rfl X'
    exact ⟨t2, st t2 a1, b1⟩
  · obtain ⟨k1, k2, k3⟩ := vx_keep h0 e1 hS hAX hf hL hF
    obtain ⟨t2, a1, b1⟩ := kx E ce q u t T'.heap (locs ++ L) e1.symm (by rw [← e2]; exact X'.warmed.alike) hp hb k1 k2 k3 (by rw [e1]; exact hce) hcv hcl T' rfl X'
    exact ⟨t2, st.trans a1, b1⟩
theorem vx_calld {S SX : Type} {post : UInt64 → S → Prop} {px : SX → Prop} {B : S → State → Prop} {BX : String → SX → State → Prop} {AX : Nat → Prop} (hr : vx_Run p l e R s m args below meth c H locs cells slots mc ms (F0 m pc ls st0) rest (va_Qd post B A1 a) (vx_X px BX AX) free) (hS : va_S A0 H0 H locs) (hA : ∀ q, q < H.size → A1 q → A0 q) (hf : ∀ q, free q → A0 q) (hAX : ∀ q, q < H.size → AX q → A0 q)
    (kx : ∀ (E : String) (ce : Cell) (q9 : Addr) (u : SX) (t : State) (H1 : Heap) (locs1 : List Loc), t.heap = H1 → s.vm.Alike t.vm → px u → BX E u t → H.size ≤ H1.size → (∀ q : Nat, q < H.size → ¬ AX q → H1[q]? = H[q]?) → va_S A0 H0 H1 locs1 → H1[q9]? = some ce → ce.vm = .none → s.vm.findClass E = some ce.cls → vx_W p l e R s m args below meth c H1 locs1 (cells + mc) (slots + ms) Q (F0 m pc ls rest) q9)
    (kk : ∀ (r : UInt64) (u : S) (t : State) (H1 : Heap) (locs1 : List Loc), t.heap = H1 → s.vm.Alike t.vm → post r u → B u t → H.size ≤ H1.size → (∀ q : Nat, q < H.size → ¬ A1 q → H1[q]? = H[q]?) → va_S A0 H0 H1 locs1 → W p l e R s m args below meth c H1 locs1 (cells + mc) (slots + ms) Q (F0 m (pc + 3) ls (.double r :: rest))) : W p l e R s m args below meth c H locs cells slots Q (F0 m pc ls st0) := by
  intro T hT X
  rcases hr T hT X with ⟨v, st₀, t, T', L, h0, X', hL, e1, e2, ⟨⟨r, u, hv, hp, hb⟩, hF⟩, st⟩ | ⟨q, st₀, t, T', L, E, ce, h0, X', hL, e1, e2, ⟨u, hp, hb, hF⟩, hce, hcv, hcl, st⟩
  · cases hv
    obtain ⟨k1, k2, k3⟩ := vx_keep h0 e1 hS hA hf hL hF
    obtain ⟨t2, a1, b1⟩ := kk r u t T'.heap (locs ++ L) e1.symm (by rw [← e2]; exact X'.warmed.alike) hp hb k1 k2 k3 T' rfl X'
    exact ⟨t2, st t2 a1, b1⟩
  · obtain ⟨k1, k2, k3⟩ := vx_keep h0 e1 hS hAX hf hL hF
    obtain ⟨t2, a1, b1⟩ := kx E ce q u t T'.heap (locs ++ L) e1.symm (by rw [← e2]; exact X'.warmed.alike) hp hb k1 k2 k3 (by rw [e1]; exact hce) hcv hcl T' rfl X'
    exact ⟨t2, st.trans a1, b1⟩
theorem vx_callv {S SX : Type} {post : S → Prop} {px : SX → Prop} {B : S → State → Prop} {BX : String → SX → State → Prop} {AX : Nat → Prop} (hr : vx_Run p l e R s m args below meth c H locs cells slots mc ms (F0 m pc ls st0) rest (va_Qv post B A1 a) (vx_X px BX AX) free) (hS : va_S A0 H0 H locs) (hA : ∀ q, q < H.size → A1 q → A0 q) (hf : ∀ q, free q → A0 q) (hAX : ∀ q, q < H.size → AX q → A0 q)
    (kx : ∀ (E : String) (ce : Cell) (q9 : Addr) (u : SX) (t : State) (H1 : Heap) (locs1 : List Loc), t.heap = H1 → s.vm.Alike t.vm → px u → BX E u t → H.size ≤ H1.size → (∀ q : Nat, q < H.size → ¬ AX q → H1[q]? = H[q]?) → va_S A0 H0 H1 locs1 → H1[q9]? = some ce → ce.vm = .none → s.vm.findClass E = some ce.cls → vx_W p l e R s m args below meth c H1 locs1 (cells + mc) (slots + ms) Q (F0 m pc ls rest) q9)
    (kk : ∀ (u : S) (t : State) (H1 : Heap) (locs1 : List Loc), t.heap = H1 → s.vm.Alike t.vm → post u → B u t → H.size ≤ H1.size → (∀ q : Nat, q < H.size → ¬ A1 q → H1[q]? = H[q]?) → va_S A0 H0 H1 locs1 → W p l e R s m args below meth c H1 locs1 (cells + mc) (slots + ms) Q (F0 m (pc + 3) ls (rest))) : W p l e R s m args below meth c H locs cells slots Q (F0 m pc ls st0) := by
  intro T hT X
  rcases hr T hT X with ⟨v, st₀, t, T', L, h0, X', hL, e1, e2, ⟨⟨u, hv, hp, hb⟩, hF⟩, st⟩ | ⟨q, st₀, t, T', L, E, ce, h0, X', hL, e1, e2, ⟨u, hp, hb, hF⟩, hce, hcv, hcl, st⟩
  · cases hv
    obtain ⟨k1, k2, k3⟩ := vx_keep h0 e1 hS hA hf hL hF
    obtain ⟨t2, a1, b1⟩ := kk u t T'.heap (locs ++ L) e1.symm (by rw [← e2]; exact X'.warmed.alike) hp hb k1 k2 k3 T' rfl X'
    exact ⟨t2, st t2 a1, b1⟩
  · obtain ⟨k1, k2, k3⟩ := vx_keep h0 e1 hS hAX hf hL hF
    obtain ⟨t2, a1, b1⟩ := kx E ce q u t T'.heap (locs ++ L) e1.symm (by rw [← e2]; exact X'.warmed.alike) hp hb k1 k2 k3 (by rw [e1]; exact hce) hcv hcl T' rfl X'
    exact ⟨t2, st.trans a1, b1⟩
/-- caught by the row x of this method's table; the rows ahead don't take it -/
theorem vx_catch {own name : String} {E : String} {ce : Cell} {q : Addr} (hown : s.vm.findClass own = some m.cls) (pre : List ExceptionTableEntry) (x : ExceptionTableEntry) (suf : List ExceptionTableEntry) (hsplit : c.exceptionTable.toList = pre ++ x :: suf)
    (hpass : ∀ z ∈ pre, covers z pc = false ∨ (z.catchType ≠ 0 ∧ ∃ nm : String, (Cond.classLink own z.catchType nm).before args s = true ∧ va_Nc E nm s)) (hx : covers x pc = true) (h0 : x.catchType ≠ 0)
    (hlink : (Cond.classLink own x.catchType name).before args s = true) (hcast : (Cond.castable E name).before args s = true) (hcell : H[q]? = some ce) (hv : ce.vm = .none) (hcl : s.vm.findClass E = some ce.cls)
    (kk : W p l e R s m args below meth c H locs cells slots Q (F0 m x.handlerPc ls [.ref q])) : vx_W p l e R s m args below meth c H locs cells slots Q (F0 m pc ls rest) q := by
  intro T hT X
  have hpl : e.platform.magicAccessors = ({} : Platform).magicAccessors := by rw [X.admits.platform]
  obtain ⟨c3, c4, hc3, hc4, hasg⟩ := Cond.castable_spec hcast
  cases Option.some.inj (hc3.symm.trans hcl)
  obtain ⟨c5, hc5, hcl5⟩ := Cond.classLink_spec hown hlink e.platform hpl
  cases Option.some.inj (hc4.symm.trans hc5)
  obtain ⟨vm', X', st⟩ := X.thenCaughtThrough q (g := F0 m pc ls rest) rfl (Steps.refl _) (by rw [hT]; exact hcell) (by rw [hv]; rfl) (by obtain ⟨k9, h9, -⟩ := Vm.findClass_spec hcl; exact ⟨k9, h9⟩) pre x suf hsplit
    (fun z hz => by
      rcases hpass z hz with h | ⟨hz0, nm, hl1, hn1⟩
      · exact Or.inl h
      · obtain ⟨c6, hc6, hcl6⟩ := Cond.classLink_spec hown hl1 e.platform hpl
        obtain ⟨a8, b8, h1, h2, h3⟩ := hn1
        cases Option.some.inj (h1.symm.trans hcl)
        cases Option.some.inj (h2.symm.trans hc6)
        exact Or.inr ⟨hz0, _, hcl6, h3⟩) hx (Or.inr ⟨h0, c4, hcl5, hasg⟩)
  obtain ⟨t, a1, b1⟩ := kk (T.setVm vm') hT X'
  exact ⟨t, st.trans a1, b1⟩
end Rows
section Ends
variable {p : Program} {l : Launch} {e : Env} {R : Room} {s : State} {m : MethodId} {args : Array Value} {below : List Frame} {meth : Method} {c : Code} {H : Heap} {locs : List Loc} {cells slots : Nat} {Q : State → Prop}
variable {mc ms : Nat} {free : Addr → Prop} {A0 A1 : Nat → Prop} {H0 : Heap} {a : Array Value} {ls : Array Slot} {st0 rest : List Value}
variable {Qc : Array Value → State → Outcome → State → Prop} {XC : String → State → State → Prop}
/-- what a body that may throw owes at its end -/
def vx_MQ (below : List Frame) (Qc : Array Value → State → Outcome → State → Prop) (XC : String → State → State → Prop) (a : Array Value) (s : State) (mc ms : Nat) (free : Addr → Prop) : State → Prop := fun t =>
  ∃ o, t.status = .running ∧ Ended t below o ∧ vx_Q Qc XC mc ms free a s o t
theorem vx_ret {g : JFrame} {mc ms : Nat} (k : W p l e R s m args below meth c H locs cells slots (MQ below Qc args s mc ms free) g) : W p l e R s m args below meth c H locs cells slots (vx_MQ below Qc XC args s mc ms free) g := by
  intro T hT X
  obtain ⟨t, a1, o, b1, b2, b3, b4⟩ := k T hT X
  exact ⟨t, a1, o, b1, b2, Or.inl ⟨b3, b4⟩⟩
/-- not caught here: it goes on to the caller -/
theorem vx_widen {g : JFrame} {q : Addr} {k n : Nat} (h1 : cells ≤ k) (h2 : slots ≤ n) (kk : vx_W p l e R s m args below meth c H locs k n Q g q) : vx_W p l e R s m args below meth c H locs cells slots Q g q := fun T hT X => kk T hT (stand_widen X h1 h2)
theorem vx_out {pc : Nat} {E : String} {ce : Cell} {q : Addr} {mc ms : Nat} (hout : ∀ x ∈ c.exceptionTable.toList, covers x pc = false) (hlocks : meth.locks = false) (hcell : H[q]? = some ce) (hv : ce.vm = .none) (hcl : s.vm.findClass E = some ce.cls)
    (hx : ∀ t : State, t.heap = H → s.vm.Alike t.vm → XC E s t) (hf : ∀ z ∈ locs, free z.base) (hc : cells ≤ mc) (hs : slots ≤ ms) :
    vx_W p l e R s m args below meth c H locs cells slots (vx_MQ below Qc XC args s mc ms free) (F0 m pc ls rest) q := by
  intro T hT X
  obtain ⟨st1, hrun, hend, hW, hsm⟩ := X.leaveThrown q (g := F0 m pc ls rest) rfl rfl rfl hout hlocks
  have hcell9 : (T.setFrames (.throwing q :: below)).heap[q]? = some ce := by
    show T.heap[q]? = some ce
    rw [hT]; exact hcell
  exact ⟨_, st1, .threw q, hrun, hend, Or.inr ⟨q, rfl, E, ce, locs, hx _ hT hW.alike, hcell9, hv, hcl, hW, hsm.mono hc hs, hf⟩⟩
theorem vx_frame {U : State} {k n : Nat} (h : s.sameButNew ({ U with vm := s.vm } : State) locs k n) : s.heap.size ≤ U.heap.size ∧ ∀ q : Nat, q < s.heap.size → (∀ z ∈ locs, z.base ≠ q) → U.heap[q]? = s.heap[q]? := by
  obtain ⟨-, h2, -, -, -, h6⟩ := h
  refine ⟨h2, fun q hq hz => ?_⟩
  obtain ⟨c9, e1, e2, e3, e4⟩ := h6 q _ (Array.getElem?_eq_getElem hq)
  have hs : c9.slots = (s.heap[q]).slots := Array.ext_getElem? fun i => e4 i fun hm => hz _ hm rfl
  have h9 : c9 = s.heap[q] := by
    rw [hs] at e2
    exact e2
  have e5 : U.heap[q]? = some c9 := e1
  rw [e5, h9, Array.getElem?_eq_getElem hq]
/-- the words of a throw but the four that speak of the heap -/
def vx_no (w : Cond) : Bool := decide (w ≠ .isRef (.static Bundle.tN "UNASSIGNED_STACK" Bundle.steD)) && decide (w ≠ .isRef (.static Bundle.tN "SUPPRESSED_SENTINEL" Bundle.listD)) && decide (w ≠ .laysStatic Bundle.tN "UNASSIGNED_STACK" Bundle.steD) && decide (w ≠ .laysStatic Bundle.tN "SUPPRESSED_SENTINEL" Bundle.listD)
def vx_at0 (own : String) (ic : Nat) (X : String) (names : List String) : List Cond := (Bundle.ownAtoms0 own ic X names).filter vx_no
def vx_atS (own : String) (ic : Nat) (X : String) (names : List String) : List Cond := (Bundle.ownAtoms own ic X names).filter vx_no
/-- a word that the tables alone decide, or a good one -/
def vx_ot (w : Cond) : Bool := w.onTables || goodWord w
theorem vx_ot_at {args a' : Array Value} {s U : State} {w : Cond} (hW : s.WarmedH U.vm) (hvm : s.vm = U.vm) (hg : vx_ot w = true) (h : w.before args s = true) : w.before a' U = true := by
  simp only [vx_ot, Bool.or_eq_true] at hg
  rcases hg with hg | hg
  · exact va_tabs hg hvm h
  · exact word_at hW (good_of_word hg) h
/-- a list's words: the good ones out of the method's own list, the others by premises of their own -/
theorem vx_hat {args : Array Value} {s : State} {L B : List Cond} (h1 : ∀ w ∈ L.filter goodWord, w.before args s = true) (h2 : ∀ w ∈ L.filter (fun w => !goodWord w), w ∈ B) (h3 : ∀ w ∈ B, w.before args s = true) : ∀ w ∈ L, w.before args s = true := by
  intro w hw
  by_cases g : goodWord w = true
  · exact h1 w (List.mem_filter.mpr ⟨hw, g⟩)
  · refine h3 w (h2 w (List.mem_filter.mpr ⟨hw, ?_⟩))
    show (!goodWord w) = true
    cases hgw : goodWord w
    · rfl
    · exact absurd hgw g
theorem vx_c {args : Array Value} {s : State} {w : Cond} {B : List Cond} (h : w.before args s = true) (t : ∀ w ∈ B, w.before args s = true) : ∀ w' ∈ w :: B, w'.before args s = true := fun w' h' => (List.mem_cons.mp h').elim (fun e => by rw [e]; exact h) (t w')
theorem vx_n {args : Array Value} {s : State} : ∀ w ∈ ([] : List Cond), w.before args s = true := fun _ h => nomatch h
theorem vx_own {args : Array Value} {s : State} {L : List Cond} (h1 : ∀ w ∈ L.filter vx_no, w.before args s = true)
    (hU : (Cond.isRef (.static Bundle.tN "UNASSIGNED_STACK" Bundle.steD)).before args s = true) (hN : (Cond.isRef (.static Bundle.tN "SUPPRESSED_SENTINEL" Bundle.listD)).before args s = true)
    (lU : (Cond.laysStatic Bundle.tN "UNASSIGNED_STACK" Bundle.steD).before args s = true) (lN : (Cond.laysStatic Bundle.tN "SUPPRESSED_SENTINEL" Bundle.listD).before args s = true) : ∀ w ∈ L, w.before args s = true := by
  intro w hw
  by_cases e1 : w = .isRef (.static Bundle.tN "UNASSIGNED_STACK" Bundle.steD)
  · rw [e1]; exact hU
  · by_cases e2 : w = .isRef (.static Bundle.tN "SUPPRESSED_SENTINEL" Bundle.listD)
    · rw [e2]; exact hN
    · by_cases e3 : w = .laysStatic Bundle.tN "UNASSIGNED_STACK" Bundle.steD
      · rw [e3]; exact lU
      · by_cases e4 : w = .laysStatic Bundle.tN "SUPPRESSED_SENTINEL" Bundle.listD
        · rw [e4]; exact lN
        · exact h1 w (List.mem_filter.mpr ⟨hw, by unfold vx_no; rw [decide_eq_true e1, decide_eq_true e2, decide_eq_true e3, decide_eq_true e4]; rfl⟩)
/-- where a static field lies, its class's statics cell in H -/
def vx_L (C n d : String) (A : Nat → Prop) (U : State) (H : Heap) : Prop := ∃ (c : ClassId) (k : Class) (i : Nat) (f : Field) (a : Nat) (cell : Cell), U.vm.findClass C = some c ∧ U.fieldFound? C n d = some (c, k, i, f) ∧ f.isStatic = true ∧ k.statics = some a ∧ H[a]? = some cell ∧ cell.vm.isStatics = true ∧ cell.cls = c ∧ f.slot < cell.slots.size ∧ k.staticTypes[f.slot]? = some f.type ∧ ¬ A a
theorem vx_L.moved {C n d : String} {A : Nat → Prop} {u U : State} {H : Heap} (hvm : u.vm.Alike U.vm) (h : vx_L C n d A u H) : vx_L C n d A U H := by
  obtain ⟨c, k, i, f, a, cell, h1, h2, h3, h4, h5, h6, h7, h8, h9, h10⟩ := h
  obtain ⟨k', hi', he⟩ := State.fieldFound?_setVm hvm h2
  exact ⟨c, k', i, f, a, cell, by rw [hvm.findClass]; exact h1, hi', h3, by rw [he]; exact h4, h5, h6, h7, h8, by rw [he]; exact h9, h10⟩
theorem vx_L.kept {C n d : String} {A : Nat → Prop} {U : State} {H H1 : Heap} (h : vx_L C n d A U H) (hq : ∀ a : Nat, a < H.size → ¬ A a → H1[a]? = H[a]?) : vx_L C n d A U H1 := by
  obtain ⟨c, k, i, f, a, cell, h1, h2, h3, h4, h5, h6, h7, h8, h9, h10⟩ := h
  exact ⟨c, k, i, f, a, cell, h1, h2, h3, h4, by rw [hq a (Array.getElem?_eq_some_iff.mp h5).1 h10]; exact h5, h6, h7, h8, h9, h10⟩
theorem vx_L.narrow {C n d : String} {A B : Nat → Prop} {U : State} {H : Heap} (h : vx_L C n d A U H) (hAB : ∀ q, B q → A q) : vx_L C n d B U H := by
  obtain ⟨c, k, i, f, a, cell, h1, h2, h3, h4, h5, h6, h7, h8, h9, h10⟩ := h
  exact ⟨c, k, i, f, a, cell, h1, h2, h3, h4, h5, h6, h7, h8, h9, fun z => h10 (hAB _ z)⟩
theorem vx_L.word {C n d : String} {A : Nat → Prop} {s : State} {args : Array Value} (h : vx_L C n d A s s.heap) : (Cond.laysStatic C n d).before args s = true := by
  obtain ⟨c, k, i, f, a, cell, h1, h2, h3, h4, h5, h6, h7, h8, h9, -⟩ := h
  show (Cond.laysStatic C n d).holds args s none s [] = true
  exact Cond.laysStatic_of h1 h2 h3 h4 h5 h6 h7 h8 h9
/-- .. and what it holds: null or some reference -/
def vx_Zq (C n d : String) (A : Nat → Prop) (U : State) (H : Heap) : Prop := va_Zq C n d A U H ∧ vx_L C n d A U H
theorem vx_Zq.moved {C n d : String} {A : Nat → Prop} {u U : State} {H : Heap} (hvm : u.vm.Alike U.vm) (h : vx_Zq C n d A u H) : vx_Zq C n d A U H := ⟨va_Zq.moved hvm h.1, vx_L.moved hvm h.2⟩
theorem vx_Zq.kept {C n d : String} {A : Nat → Prop} {U : State} {H H1 : Heap} (h : vx_Zq C n d A U H) (hq : ∀ a : Nat, a < H.size → ¬ A a → H1[a]? = H[a]?) : vx_Zq C n d A U H1 := ⟨va_Zq.kept h.1 hq, vx_L.kept h.2 hq⟩
theorem vx_Zq.narrow {C n d : String} {A B : Nat → Prop} {U : State} {H : Heap} (h : vx_Zq C n d A U H) (hAB : ∀ q, B q → A q) : vx_Zq C n d B U H := ⟨va_Zq.narrow h.1 hAB, vx_L.narrow h.2 hAB⟩
theorem vx_Zqof {args : Array Value} {s : State} {C n d : String} {A : Nat → Prop} (hl : (Cond.laysStatic C n d).before args s = true) (hini : (Cond.initialized C).before args s = true) (h : (Cond.isRef (.static C n d)).before args s = true) (hA : ∀ a : Nat, a < s.heap.size → ¬ A a) : vx_Zq C n d A s s.heap := by
  refine ⟨va_Zqof hl hini h hA, ?_⟩
  obtain ⟨c, k, i, f, a, cell, h1, h2, h3, h4, h5, h6, h7, h8, h9⟩ := Cond.laysStatic_spec hl
  exact ⟨c, k, i, f, a, cell, h1, h2, h3, h4, h5, h6, h7, h8, h9, hA a (Array.getElem?_eq_some_iff.mp h5).1⟩
theorem vx_isRef {C n d : String} {v : Value} {A : Nat → Prop} {s : State} {args : Array Value} (h : va_Z C n d v A s s.heap) (hv : v.isRef = true) : (Cond.isRef (.static C n d)).before args s = true := by
  obtain ⟨cf, kf, fi, f, a, cell, h1, h2, h3, h4, h5, h6, h7, -⟩ := h
  have he : (Term.static C n d).eval args s none [] s = some v := by
    simp [Term.eval, State.fieldNamed?, h1, h2, h4, h5, h6, h7]
  simp only [Cond.before, Cond.holds, Cond.value, he]
  cases v <;> simp_all [Value.isRef]
theorem vx_isRefq {C n d : String} {A : Nat → Prop} {s : State} {args : Array Value} (h : va_Zq C n d A s s.heap) : (Cond.isRef (.static C n d)).before args s = true := by
  rcases h with h | ⟨t, h⟩
  · exact vx_isRef h rfl
  · exact vx_isRef h rfl
/-- the same frame, seen from here: as if the method were called anew in this heap -/
theorem vx_rebase {T : State} (X : Stand p l e R s m args below meth c T locs cells slots) {R' : Room} (hf : R'.frames ≤ R.frames) (hl : R'.locals ≤ R.locals) (hc : cells + R'.cells ≤ R.cells) (hs : slots + R'.slots ≤ R.slots) :
    Stand p l e R' ((T.setVm s.vm).setFrames (.invoking m args :: below)) m args below meth c T [] 0 0 := by
  have htop : (T.setVm s.vm).topJava?.isSome := X.here.top
  have hF : ((T.setVm s.vm).setFrames (.invoking m args :: below)).frames = .invoking m args :: below := State.frames_setFrames _ (State.cur_lt_of_top htop)
  obtain ⟨g₀, hg0⟩ := Option.isSome_iff_exists.mp htop
  obtain ⟨r, hr⟩ := State.topJava?_eq_some.mp hg0
  have hl9 : e.platform.stackLimits (T.setVm s.vm).me = e.platform.stackLimits s.me := X.limits
  have hb9 : (T.setVm s.vm).me.stackBytes = s.me.stackBytes := X.bytes
  refine ⟨X.admits, X.cas, X.clock, hF, ?_, X.hears, X.method, X.code, X.here, X.tail, X.warmed, ?_, ?_, ?_⟩
  · have h := X.room
    have hU : ((T.setVm s.vm).setFrames (.invoking m args :: below)).localsInUse = s.localsInUse := by
      rw [State.localsInUse_invoking hF (meth := meth) (c := c) X.method X.code, State.localsInUse_invoking X.frames X.method X.code]
    simp only [State.hasRoom, Bool.and_eq_true, decide_eq_true_eq] at h ⊢
    obtain ⟨⟨⟨⟨h1, h2, h3, h4, h5, h6⟩, h7⟩, h8⟩, h9⟩ := h
    rw [X.frames, List.length_cons] at h2 h3
    have q1 := X.heapSize
    have q2 := X.used
    simp only [hF, hU, List.length_cons, State.stackLimits_setFrames, State.stackBytes_setFrames, hl9, hb9]
    refine ⟨⟨⟨⟨by omega, by omega, by omega, by omega, by omega, h6⟩, ?_⟩, ?_⟩, X.book⟩
    · show T.heap.size + R'.cells ≤ e.platform.maxCells
      omega
    · show T.slotsUsed + R'.slots ≤ e.platform.maxSlots
      omega
  · rw [State.stackLimits_setFrames]; rfl
  · rw [State.stackBytes_setFrames]; rfl
  · refine ⟨?_, Nat.le_refl _, Nat.le_refl _, ?_, ?_, fun a c9 h9 => ⟨c9, h9, rfl, rfl, fun _ _ => rfl⟩⟩
    · obtain ⟨t, ht, -⟩ := State.frames_cons hr
      show T.setVm s.vm = { ((T.setVm s.vm).setFrames (.invoking m args :: below)).setFrames (T.setVm s.vm).frames with heap := T.heap, slotsUsed := T.slotsUsed }
      rw [State.setFrames_setFrames, State.setFrames_self ht]
      rfl
    · show T.slotsUsed = T.slotsUsed + ((T.heap.toList.drop T.heap.size).map (·.slots.size)).sum
      rw [List.drop_eq_nil_of_le (Nat.le_of_eq Array.length_toList)]
      rfl
    · show ((T.heap.toList.drop T.heap.size).map (·.slots.size)).sum ≤ 0
      rw [List.drop_eq_nil_of_le (Nat.le_of_eq Array.length_toList)]
      exact Nat.le_refl _
/-- 'throw new E()': new; dup; invokespecial; athrow -/
theorem vx_throw0 {cc : ByteArray} {pc : Nat} (hexec : p.tables.exec = Jvm.exec) (hb : c.code = cc) (hl : l.stackTraces = false) {own cls : String} {names : List String} {ik ic mc ms : Nat} {A : Nat → Prop}
    (hown : s.vm.findClass own = some m.cls) (hcls : Bundle.fit cls = true) (hnames : ∀ n ∈ names, Bundle.fit n = true)
    (hk : (Cond.classLink own ik cls).before args s = true) (hini : (Cond.initialized cls).before args s = true) (hat : ∀ w ∈ vx_at0 own ic cls names, w.before args s = true)
    (hgood : ∀ w ∈ Cond.classLink own ik cls :: Cond.initialized cls :: vx_at0 own ic cls names, vx_ot w = true)
    (hU : vx_Zq Bundle.tN "UNASSIGNED_STACK" Bundle.steD A s s.heap) (hN : vx_Zq Bundle.tN "SUPPRESSED_SENTINEL" Bundle.listD A s s.heap) (hS : va_S A s.heap H locs) (hsize : ls.size = c.maxLocals)
    (d0 : decode cc pc = .ok (.new ik, 3)) (d3 : decode cc (pc + 3) = .ok (.dup, 1)) (d4 : decode cc (pc + 4) = .ok (.invokespecial ic, 3)) (d7 : decode cc (pc + 7) = .ok (.athrow, 1))
    (hout : ∀ x ∈ c.exceptionTable.toList, covers x (pc + 7) = false)
    (hRframes : names.length + 3 < R.frames) (hRlocals : (rest.map fun v => v.category).sum + (13 * (names.length + 1) + 42) ≤ R.locals) (hRcells : cells + 1 ≤ R.cells) (hRslots : slots + 6 ≤ R.slots) (hlocks : meth.locks = false)
    (hx : ∀ t : State, s.vm.Alike t.vm → H.size ≤ t.heap.size → (∀ q : Nat, q < H.size → t.heap[q]? = H[q]?) → XC cls s t)
    (hf : ∀ z ∈ locs, free z.base) (hc : cells + 1 ≤ mc) (hs : slots + 6 ≤ ms) :
    W p l e R s m args below meth c H locs cells slots (vx_MQ below Qc XC args s mc ms free) (F0 m pc ls rest) := by
  intro T hT X
  have htr : e.platform.stackTraces = false := (show e.platform.stackTraces = l.stackTraces by rw [X.admits.platform]).trans hl
  have Y := vx_rebase X (R' := { frames := R.frames, locals := R.locals, cells := 1, slots := 6 }) (Nat.le_refl _) (Nat.le_refl _) hRcells hRslots
  obtain ⟨s', hA⟩ : ∃ z, z = (T.setVm s.vm).setFrames (.invoking m args :: below) := ⟨_, rfl⟩
  rw [← hA] at Y
  have hvm : s'.vm = s.vm := by rw [hA]; rfl
  have hhp : s'.heap = H := by rw [hA]; exact hT
  have hW0 : s.WarmedH s'.vm := by rw [hvm]; exact State.WarmedH.refl s
  have hat' : ∀ w ∈ vx_at0 own ic cls names, w.before args s' = true := fun w hw => vx_ot_at hW0 hvm.symm (hgood w (List.mem_cons_of_mem _ (List.mem_cons_of_mem _ hw))) (hat w hw)
  have hk' : (Cond.classLink own ik cls).before args s' = true := vx_ot_at hW0 hvm.symm (hgood _ List.mem_cons_self) hk
  have hini' : (Cond.initialized cls).before args s' = true := vx_ot_at hW0 hvm.symm (hgood _ (List.mem_cons_of_mem _ List.mem_cons_self)) hini
  have hU' : vx_Zq Bundle.tN "UNASSIGNED_STACK" Bundle.steD A s' s'.heap := by rw [hhp]; exact vx_Zq.moved hW0.alike (hU.kept hS.2.1)
  have hN' : vx_Zq Bundle.tN "SUPPRESSED_SENTINEL" Bundle.listD A s' s'.heap := by rw [hhp]; exact vx_Zq.moved hW0.alike (hN.kept hS.2.1)
  have h : ∀ w ∈ Bundle.ownAtoms0 own ic cls names, w.before args s' = true := vx_own hat' (vx_isRefq hU'.1) (vx_isRefq hN'.1) hU'.2.word hN'.2.word
  have hown' : s'.vm.findClass own = some m.cls := by rw [hvm]; exact hown
  have hins : (Cond.instantiable cls 6).before args s' = true := h _ (by simp [Bundle.ownAtoms0])
  obtain ⟨vm₁, cX, kX, hfX, hkX, -, -, X₁, st1⟩ := Y.newCold hexec (own := own) (C := cls) (index := ik) (n := 6) hown' hk' hins hini'
    (g := F0 m pc ls rest) rfl (by rw [hb]; exact d0) (Nat.le_refl _) (Nat.le_refl _)
  generalize hT1 : (T.setVm vm₁).pushCell { cls := cX, slots := kX.instanceTypes.map defaultValue, vm := .none } = T1 at X₁ st1
  have hcat : (Value.ref T.heap.size).category = 1 := rfl
  have hcellA : T1.heap[T.heap.size]? = some (freshCell cX kX) := by rw [← hT1]; exact State.heap_pushCell_size _ _
  have d3' : decode c.code (pc + 3) = .ok (.dup, 1) := by rw [hb]; exact d3
  obtain ⟨U, hsteps, hrun, hend, hW, hsame, ce, hce, hO⟩ := X₁.ctorThrow0 hexec htr (own := own) (cls := cls) (names := names) (ic := ic) hown' hcls hnames h (fun x hx => nomatch hx) hfX hkX hcellA (by rw [hhp, hT]; exact Nat.le_refl _)
    (g := { method := m, pc := pc + 4, locals := ls, stack := .ref T.heap.size :: .ref T.heap.size :: rest, locked := none }) rfl hsize rfl rfl (rest := rest) rfl
    (by rw [hb]; exact d4) (by rw [hb]; exact d7) hout hRframes (by simp only [List.map_cons, List.sum_cons, hcat]; omega) hlocks
  obtain ⟨f1, f2⟩ := vx_frame hsame
  rw [hhp] at f1 f2
  have hWs : s.WarmedH U.vm := State.WarmedH.trans hW0 hW
  have hcl : s.vm.findClass cls = some ce.cls := by
    have h9 := hO.cls
    rw [hvm] at h9
    exact h9
  have hall : s.sameButNew ({ U with vm := s.vm } : State) locs mc ms := by
    subst hA
    obtain ⟨e1, e2⟩ := hsame
    rw [State.setFrames_setFrames] at e1
    have h2 : (T.setVm s.vm).sameButNew ({ U with vm := s.vm } : State) [] (0 + 1) (0 + 6) := ⟨e1, e2⟩
    have h3 := X.same.trans h2
    rw [List.append_nil] at h3
    exact h3.mono hc hs
  refine ⟨U, ?_, .threw T.heap.size, hrun, hend, Or.inr ⟨T.heap.size, rfl, cls, ce, locs, hx U hWs.alike f1 (fun q hq => f2 q hq (fun z hz => nomatch hz)), hce, hO.vm, hcl, hWs, hall, hf⟩⟩
  refine st1 _ ?_
  show Steps p.tables e below (T1.setTop { method := m, pc := pc + 3, locals := ls, stack := .ref T.heap.size :: rest, locked := none }) _
  jvm_step X₁.here [X₁.here.top, hexec, d3', Value.category]
  exact hsteps
/-- 'throw new E("text")': new; dup; ldc; invokespecial; athrow -/
theorem vx_throwS {cc : ByteArray} {pc : Nat} (hexec : p.tables.exec = Jvm.exec) (hb : c.code = cc) (hl : l.stackTraces = false) {own cls text : String} {names : List String} {ik is ic mc ms sa : Nat} {A : Nat → Prop}
    (hown : s.vm.findClass own = some m.cls) (hcls : Bundle.fit cls = true) (hnames : ∀ n ∈ names, Bundle.fit n = true)
    (hk : (Cond.classLink own ik cls).before args s = true) (hini : (Cond.initialized cls).before args s = true) (hstr : vk_R own is text sa s) (hat : ∀ w ∈ vx_atS own ic cls names, w.before args s = true)
    (hgood : ∀ w ∈ Cond.classLink own ik cls :: Cond.initialized cls :: vx_atS own ic cls names, vx_ot w = true)
    (hU : vx_Zq Bundle.tN "UNASSIGNED_STACK" Bundle.steD A s s.heap) (hN : vx_Zq Bundle.tN "SUPPRESSED_SENTINEL" Bundle.listD A s s.heap) (hS : va_S A s.heap H locs) (hsize : ls.size = c.maxLocals)
    (d0 : decode cc pc = .ok (.new ik, 3)) (d3 : decode cc (pc + 3) = .ok (.dup, 1)) (d4 : decode cc (pc + 4) = .ok (.ldc is, 2)) (d6 : decode cc (pc + 6) = .ok (.invokespecial ic, 3)) (d9 : decode cc (pc + 9) = .ok (.athrow, 1))
    (hout : ∀ x ∈ c.exceptionTable.toList, covers x (pc + 9) = false)
    (hRframes : names.length + 3 < R.frames) (hRlocals : (rest.map fun v => v.category).sum + (13 * (names.length + 1) + 43) ≤ R.locals) (hRcells : cells + 1 ≤ R.cells) (hRslots : slots + 6 ≤ R.slots) (hlocks : meth.locks = false)
    (hx : ∀ t : State, s.vm.Alike t.vm → H.size ≤ t.heap.size → (∀ q : Nat, q < H.size → t.heap[q]? = H[q]?) → XC cls s t)
    (hf : ∀ z ∈ locs, free z.base) (hc : cells + 1 ≤ mc) (hs : slots + 6 ≤ ms) :
    W p l e R s m args below meth c H locs cells slots (vx_MQ below Qc XC args s mc ms free) (F0 m pc ls rest) := by
  intro T hT X
  have htr : e.platform.stackTraces = false := (show e.platform.stackTraces = l.stackTraces by rw [X.admits.platform]).trans hl
  have Y := vx_rebase X (R' := { frames := R.frames, locals := R.locals, cells := 1, slots := 6 }) (Nat.le_refl _) (Nat.le_refl _) hRcells hRslots
  obtain ⟨s', hA⟩ : ∃ z, z = (T.setVm s.vm).setFrames (.invoking m args :: below) := ⟨_, rfl⟩
  rw [← hA] at Y
  have hvm : s'.vm = s.vm := by rw [hA]; rfl
  have hhp : s'.heap = H := by rw [hA]; exact hT
  have hW0 : s.WarmedH s'.vm := by rw [hvm]; exact State.WarmedH.refl s
  have hat' : ∀ w ∈ vx_atS own ic cls names, w.before args s' = true := fun w hw => vx_ot_at hW0 hvm.symm (hgood w (List.mem_cons_of_mem _ (List.mem_cons_of_mem _ hw))) (hat w hw)
  have hk' : (Cond.classLink own ik cls).before args s' = true := vx_ot_at hW0 hvm.symm (hgood _ List.mem_cons_self) hk
  have hini' : (Cond.initialized cls).before args s' = true := vx_ot_at hW0 hvm.symm (hgood _ (List.mem_cons_of_mem _ List.mem_cons_self)) hini
  have hU' : vx_Zq Bundle.tN "UNASSIGNED_STACK" Bundle.steD A s' s'.heap := by rw [hhp]; exact vx_Zq.moved hW0.alike (hU.kept hS.2.1)
  have hN' : vx_Zq Bundle.tN "SUPPRESSED_SENTINEL" Bundle.listD A s' s'.heap := by rw [hhp]; exact vx_Zq.moved hW0.alike (hN.kept hS.2.1)
  have h : ∀ w ∈ Bundle.ownAtoms own ic cls names, w.before args s' = true := vx_own hat' (vx_isRefq hU'.1) (vx_isRefq hN'.1) hU'.2.word hN'.2.word
  have hown' : s'.vm.findClass own = some m.cls := by rw [hvm]; exact hown
  have hins : (Cond.instantiable cls 6).before args s' = true := h _ (by simp [Bundle.ownAtoms])
  obtain ⟨vm₁, cX, kX, hfX, hkX, -, -, X₁, st1⟩ := Y.newCold hexec (own := own) (C := cls) (index := ik) (n := 6) hown' hk' hins hini'
    (g := F0 m pc ls rest) rfl (by rw [hb]; exact d0) (Nat.le_refl _) (Nat.le_refl _)
  generalize hT1 : (T.setVm vm₁).pushCell { cls := cX, slots := kX.instanceTypes.map defaultValue, vm := .none } = T1 at X₁ st1
  have hcat : (Value.ref T.heap.size).category = 1 := rfl
  have hcellA : T1.heap[T.heap.size]? = some (freshCell cX kX) := by rw [← hT1]; exact State.heap_pushCell_size _ _
  have d3' : decode c.code (pc + 3) = .ok (.dup, 1) := by rw [hb]; exact d3
  have d4' : decode c.code (pc + 4) = .ok (.ldc is, 2) := by rw [hb]; exact d4
  have hstr' : vk_R own is text sa s' := vk_R.warm hW0 hstr
  obtain ⟨U, hsteps, hrun, hend, hW, hsame, ce, hce, hO⟩ := X₁.ctorThrowS hexec htr (own := own) (cls := cls) (names := names) (ic := ic) hown' hcls hnames h (fun x hx => nomatch hx) hfX hkX hcellA (by rw [hhp, hT]; exact Nat.le_refl _) (msg := .ref sa) rfl
    (g := { method := m, pc := pc + 6, locals := ls, stack := .ref sa :: .ref T.heap.size :: .ref T.heap.size :: rest, locked := none }) rfl hsize rfl rfl (rest := rest) rfl
    (by rw [hb]; exact d6) (by rw [hb]; exact d9) hout hRframes (by simp only [List.map_cons, List.sum_cons, hcat]; omega) hlocks
  obtain ⟨f1, f2⟩ := vx_frame hsame
  rw [hhp] at f1 f2
  have hWs : s.WarmedH U.vm := State.WarmedH.trans hW0 hW
  have hcl : s.vm.findClass cls = some ce.cls := by
    have h9 := hO.cls
    rw [hvm] at h9
    exact h9
  have hall : s.sameButNew ({ U with vm := s.vm } : State) locs mc ms := by
    subst hA
    obtain ⟨e1, e2⟩ := hsame
    rw [State.setFrames_setFrames] at e1
    have h2 : (T.setVm s.vm).sameButNew ({ U with vm := s.vm } : State) [] (0 + 1) (0 + 6) := ⟨e1, e2⟩
    have h3 := X.same.trans h2
    rw [List.append_nil] at h3
    exact h3.mono hc hs
  refine ⟨U, ?_, .threw T.heap.size, hrun, hend, Or.inr ⟨T.heap.size, rfl, cls, ce, locs, hx U hWs.alike f1 (fun q hq => f2 q hq (fun z hz => nomatch hz)), hce, hO.vm, hcl, hWs, hall, hf⟩⟩
  refine st1 _ ?_
  show Steps p.tables e below (T1.setTop { method := m, pc := pc + 3, locals := ls, stack := .ref T.heap.size :: rest, locked := none }) _
  jvm_step X₁.here [X₁.here.top, hexec, d3', Value.category]
  exact X₁.ldcString hexec (own := own) (text := text) (index := is) (a := sa) hown' hstr'.1 hstr'.2
    (g := { method := m, pc := pc + 4, locals := ls, stack := .ref T.heap.size :: .ref T.heap.size :: rest, locked := none }) rfl d4' _ hsteps
/-- 'throw new E("text")', the text by a wide index -/
theorem vx_throwSW {cc : ByteArray} {pc : Nat} (hexec : p.tables.exec = Jvm.exec) (hb : c.code = cc) (hl : l.stackTraces = false) {own cls text : String} {names : List String} {ik is ic mc ms sa : Nat} {A : Nat → Prop}
    (hown : s.vm.findClass own = some m.cls) (hcls : Bundle.fit cls = true) (hnames : ∀ n ∈ names, Bundle.fit n = true)
    (hk : (Cond.classLink own ik cls).before args s = true) (hini : (Cond.initialized cls).before args s = true) (hstr : vk_R own is text sa s) (hat : ∀ w ∈ vx_atS own ic cls names, w.before args s = true)
    (hgood : ∀ w ∈ Cond.classLink own ik cls :: Cond.initialized cls :: vx_atS own ic cls names, vx_ot w = true)
    (hU : vx_Zq Bundle.tN "UNASSIGNED_STACK" Bundle.steD A s s.heap) (hN : vx_Zq Bundle.tN "SUPPRESSED_SENTINEL" Bundle.listD A s s.heap) (hS : va_S A s.heap H locs) (hsize : ls.size = c.maxLocals)
    (d0 : decode cc pc = .ok (.new ik, 3)) (d3 : decode cc (pc + 3) = .ok (.dup, 1)) (d4 : decode cc (pc + 4) = .ok (.ldc_w is, 3)) (d7 : decode cc (pc + 7) = .ok (.invokespecial ic, 3)) (d10 : decode cc (pc + 10) = .ok (.athrow, 1))
    (hout : ∀ x ∈ c.exceptionTable.toList, covers x (pc + 10) = false)
    (hRframes : names.length + 3 < R.frames) (hRlocals : (rest.map fun v => v.category).sum + (13 * (names.length + 1) + 43) ≤ R.locals) (hRcells : cells + 1 ≤ R.cells) (hRslots : slots + 6 ≤ R.slots) (hlocks : meth.locks = false)
    (hx : ∀ t : State, s.vm.Alike t.vm → H.size ≤ t.heap.size → (∀ q : Nat, q < H.size → t.heap[q]? = H[q]?) → XC cls s t)
    (hf : ∀ z ∈ locs, free z.base) (hc : cells + 1 ≤ mc) (hs : slots + 6 ≤ ms) :
    W p l e R s m args below meth c H locs cells slots (vx_MQ below Qc XC args s mc ms free) (F0 m pc ls rest) := by
  intro T hT X
  have htr : e.platform.stackTraces = false := (show e.platform.stackTraces = l.stackTraces by rw [X.admits.platform]).trans hl
  have Y := vx_rebase X (R' := { frames := R.frames, locals := R.locals, cells := 1, slots := 6 }) (Nat.le_refl _) (Nat.le_refl _) hRcells hRslots
  obtain ⟨s', hA⟩ : ∃ z, z = (T.setVm s.vm).setFrames (.invoking m args :: below) := ⟨_, rfl⟩
  rw [← hA] at Y
  have hvm : s'.vm = s.vm := by rw [hA]; rfl
  have hhp : s'.heap = H := by rw [hA]; exact hT
  have hW0 : s.WarmedH s'.vm := by rw [hvm]; exact State.WarmedH.refl s
  have hat' : ∀ w ∈ vx_atS own ic cls names, w.before args s' = true := fun w hw => vx_ot_at hW0 hvm.symm (hgood w (List.mem_cons_of_mem _ (List.mem_cons_of_mem _ hw))) (hat w hw)
  have hk' : (Cond.classLink own ik cls).before args s' = true := vx_ot_at hW0 hvm.symm (hgood _ List.mem_cons_self) hk
  have hini' : (Cond.initialized cls).before args s' = true := vx_ot_at hW0 hvm.symm (hgood _ (List.mem_cons_of_mem _ List.mem_cons_self)) hini
  have hU' : vx_Zq Bundle.tN "UNASSIGNED_STACK" Bundle.steD A s' s'.heap := by rw [hhp]; exact vx_Zq.moved hW0.alike (hU.kept hS.2.1)
  have hN' : vx_Zq Bundle.tN "SUPPRESSED_SENTINEL" Bundle.listD A s' s'.heap := by rw [hhp]; exact vx_Zq.moved hW0.alike (hN.kept hS.2.1)
  have h : ∀ w ∈ Bundle.ownAtoms own ic cls names, w.before args s' = true := vx_own hat' (vx_isRefq hU'.1) (vx_isRefq hN'.1) hU'.2.word hN'.2.word
  have hown' : s'.vm.findClass own = some m.cls := by rw [hvm]; exact hown
  have hins : (Cond.instantiable cls 6).before args s' = true := h _ (by simp [Bundle.ownAtoms])
  obtain ⟨vm₁, cX, kX, hfX, hkX, -, -, X₁, st1⟩ := Y.newCold hexec (own := own) (C := cls) (index := ik) (n := 6) hown' hk' hins hini'
    (g := F0 m pc ls rest) rfl (by rw [hb]; exact d0) (Nat.le_refl _) (Nat.le_refl _)
  generalize hT1 : (T.setVm vm₁).pushCell { cls := cX, slots := kX.instanceTypes.map defaultValue, vm := .none } = T1 at X₁ st1
  have hcat : (Value.ref T.heap.size).category = 1 := rfl
  have hcellA : T1.heap[T.heap.size]? = some (freshCell cX kX) := by rw [← hT1]; exact State.heap_pushCell_size _ _
  have d3' : decode c.code (pc + 3) = .ok (.dup, 1) := by rw [hb]; exact d3
  have d4' : decode c.code (pc + 4) = .ok (.ldc_w is, 3) := by rw [hb]; exact d4
  have hstr' : vk_R own is text sa s' := vk_R.warm hW0 hstr
  obtain ⟨U, hsteps, hrun, hend, hW, hsame, ce, hce, hO⟩ := X₁.ctorThrowS hexec htr (own := own) (cls := cls) (names := names) (ic := ic) hown' hcls hnames h (fun x hx => nomatch hx) hfX hkX hcellA (by rw [hhp, hT]; exact Nat.le_refl _) (msg := .ref sa) rfl
    (g := { method := m, pc := pc + 7, locals := ls, stack := .ref sa :: .ref T.heap.size :: .ref T.heap.size :: rest, locked := none }) rfl hsize rfl rfl (rest := rest) rfl
    (by rw [hb]; exact d7) (by rw [hb]; exact d10) hout hRframes (by simp only [List.map_cons, List.sum_cons, hcat]; omega) hlocks
  obtain ⟨f1, f2⟩ := vx_frame hsame
  rw [hhp] at f1 f2
  have hWs : s.WarmedH U.vm := State.WarmedH.trans hW0 hW
  have hcl : s.vm.findClass cls = some ce.cls := by
    have h9 := hO.cls
    rw [hvm] at h9
    exact h9
  have hall : s.sameButNew ({ U with vm := s.vm } : State) locs mc ms := by
    subst hA
    obtain ⟨e1, e2⟩ := hsame
    rw [State.setFrames_setFrames] at e1
    have h2 : (T.setVm s.vm).sameButNew ({ U with vm := s.vm } : State) [] (0 + 1) (0 + 6) := ⟨e1, e2⟩
    have h3 := X.same.trans h2
    rw [List.append_nil] at h3
    exact h3.mono hc hs
  refine ⟨U, ?_, .threw T.heap.size, hrun, hend, Or.inr ⟨T.heap.size, rfl, cls, ce, locs, hx U hWs.alike f1 (fun q hq => f2 q hq (fun z hz => nomatch hz)), hce, hO.vm, hcl, hWs, hall, hf⟩⟩
  refine st1 _ ?_
  show Steps p.tables e below (T1.setTop { method := m, pc := pc + 3, locals := ls, stack := .ref T.heap.size :: rest, locked := none }) _
  jvm_step X₁.here [X₁.here.top, hexec, d3', Value.category]
  exact X₁.ldcStringW hexec (own := own) (text := text) (index := is) (a := sa) hown' hstr'.1 hstr'.2
    (g := { method := m, pc := pc + 4, locals := ls, stack := .ref T.heap.size :: .ref T.heap.size :: rest, locked := none }) rfl d4' _ hsteps
end Ends
section Bodies
variable {l : Launch}
theorem vx_ofW {y : MethodName} {ws ws' : List Cond} {rm : Room} {Pc : Array Value → State → Prop} {Qc : Array Value → State → Outcome → State → Prop} {XC : String → State → State → Prop} {mc ms : Nat} {free : Addr → Prop} {cc : ByteArray} {maxL : Nat} {ret : Option FieldType}
    (hy : plainName y.cls = true) (hw : ws = Cond.code y cc maxL ret :: ws')
    (body : ∀ p e s m args below meth c s₁, BodyLoose p l y (headSpec ws rm) cc maxL ret e s m args below meth c s₁ → c.maxLocals = maxL → (∀ x ∈ c.exceptionTable.toList, False) → Pc args s →
      W p l e (headSpec ws rm).room s m args below meth c s.heap [] 0 0 (vx_MQ below Qc XC args s mc ms free) (entryFrame m args maxL)) : vx_Met l y ws rm Pc Qc XC mc ms free := by
  refine MetFree.of_bodyS (code := cc) (maxLocals := maxL) (ret := ret) hy ?_ ?_
  · intro args s m h hn
    obtain ⟨meth, c, h1, h2, h3, h4, h5, h6, -, -⟩ := Cond.code_spec hn (atoms_spec (ws := ws) h _ (by rw [hw]; exact List.mem_cons_self))
    exact ⟨meth, c, h1, h2, h3, h4, h5, h6⟩
  · intro p e s m args below meth c s₁ B hml hP _
    have hh0 : s₁.heap = s.heap := by rw [B.state]; rfl
    have ht : ∀ x ∈ c.exceptionTable.toList, False := by
      obtain ⟨meth9, c9, h1, h2, -, -, -, -, h7, -⟩ := Cond.code_spec B.named (atoms_spec (ws := ws) B.pre _ (by rw [hw]; exact List.mem_cons_self))
      cases Option.some.inj (h1.symm.trans B.method)
      cases Option.some.inj (h2.symm.trans (Stand.of_body B).code)
      intro x hx
      rw [Array.isEmpty_iff.mp h7] at hx
      cases hx
    obtain ⟨t, a1, o, b1, b2, b3⟩ := body p e s m args below meth c s₁ B hml ht hP s₁ hh0 (Stand.of_body B)
    exact ⟨t, o, a1, b1, b2, b3⟩
/-- the table of a body with handlers -/
theorem vx_table {p : Program} {x y : MethodName} {S : Spec} {cc bytes : ByteArray} {maxL maxL' : Nat} {ret ret' : Option FieldType} {e : Env} {s s₁ : State} {m : MethodId} {args : Array Value} {below : List Frame} {meth : Method} {c : Code} {hh : List (Nat × Nat × Nat × Nat)}
    (B : BodyLoose p l y S cc maxL ret e s m args below meth c s₁) (h : (Cond.codeWith y bytes maxL' ret' hh).before args s = true) : c.exceptionTable.toList = tableOf hh := by
  obtain ⟨m9, meth9, c9, hn9, h1, h2, -, -, h6, -⟩ := Cond.codeWith_spec h
  cases Option.some.inj (hn9.symm.trans B.named)
  cases Option.some.inj (h1.symm.trans B.method)
  cases Option.some.inj (h2.symm.trans (Stand.of_body B).code)
  rw [← h6, table_eq]
end Bodies
end VXA
/-! ===== END ===== -/
/-! ===== BEGIN a static call of a method with an exception table ===== -/
section VXS
variable {p : Program} {l : Launch} {e : Env} {R : Room} {s : State} {m : MethodId} {args : Array Value} {below : List Frame} {meth : Method} {c : Code} {T : State} {H : Heap} {locs : List Loc} {cells slots : Nat}
abbrev vx_CSW (R : Room) (s : State) (args : Array Value) (own : String) (index : Nat) (y : MethodName) (bytes : ByteArray) (maxL : Nat) (ret : Option FieldType) (hh : List (Nat × Nat × Nat × Nat)) (ws : List Cond) (rm : Room) (mc ms n : Nat) : Prop :=
  (rm.cells = mc ∧ rm.slots = ms ∧ rm.frames + 1 ≤ R.frames ∧ 8 + (maxL + 11) + rm.locals ≤ R.locals ∧ (∀ w ∈ ws, ∀ (a' : Array Value) (U : State), s.WarmedH U.vm → w.before a' U = true) ∧ Cond.codeWith y bytes maxL ret hh ∈ ws) ∧
  (Cond.codeWith y bytes maxL ret hh).before args s = true ∧ (Cond.initialized y.cls).before args s = true ∧ (y.cls ≠ "java/lang/invoke/MethodHandle" ∧ y.cls ≠ "java/lang/invoke/VarHandle") ∧
  (∀ sig, parseMethodDescriptor y.desc = some sig → n = sig.parameters.length) ∧ (Cond.methodLink own index y).before args s = true ∧ (Cond.static y).before args s = true
theorem vx_cwSW {own : String} {index maxL mc ms : Nat} {y : MethodName} {bytes : ByteArray} {ret : Option FieldType} {hh : List (Nat × Nat × Nat × Nat)} {Ts ws ws' : List Cond} {rm : Room} (n : Nat) (ht : ∀ w ∈ Ts, w.before args s = true) (hT : GoodIn Ts (va_wsS own index y ws)) (hw : ws = Cond.codeWith y bytes maxL ret hh :: ws') (hrc : rm.cells = mc) (hrs : rm.slots = ms)
    (hd : y.cls ≠ "java/lang/invoke/MethodHandle" ∧ y.cls ≠ "java/lang/invoke/VarHandle" ∧ (parseMethodDescriptor y.desc).map (fun d => d.parameters.length) = some n) (hR : rm.frames + 1 ≤ R.frames ∧ 8 + (maxL + 11) + rm.locals ≤ R.locals) :
    vx_CSW R s args own index y bytes maxL ret hh ws rm mc ms n := by
  have ok : ∀ w ∈ va_wsS own index y ws, w.before args s = true := fun w h => ht w (hT w h).1
  have hG : GoodIn Ts ws := fun w h => hT w (by unfold va_wsS; exact List.mem_append_right _ h)
  have hc : Cond.codeWith y bytes maxL ret hh ∈ ws := by rw [hw]; exact List.mem_cons_self
  refine ⟨⟨hrc, hrs, hR.1, hR.2, pay_in ht hG, hc⟩, ht _ (hG _ hc).1, ok _ (by simp [va_wsS]), ⟨hd.1, hd.2.1⟩, fun sig h => ?_, ok _ (by simp [va_wsS]), ok _ (by simp [va_wsS])⟩
  have h2 := hd.2.2
  rw [h] at h2
  exact (Option.some.inj h2).symm
theorem vx_callSW (X : Stand p l e R s m args below meth c T locs cells slots) (hexec : p.tables.exec = Jvm.exec) {own : String} {index : Nat} {y : MethodName} {bytes : ByteArray} {maxL : Nat} {ret : Option FieldType} {hh : List (Nat × Nat × Nat × Nat)}
    (hown : s.vm.findClass own = some m.cls) (hlink : (Cond.methodLink own index y).before args s = true) (hstat : (Cond.static y).before args s = true) (hinit : (Cond.initialized y.cls).before args s = true)
    (hcode : (Cond.codeWith y bytes maxL ret hh).before args s = true) (hy : y.cls ≠ "java/lang/invoke/MethodHandle" ∧ y.cls ≠ "java/lang/invoke/VarHandle")
    {W9 : Nat} {Pre : Pt → Array Value → Prop} {Post : Pt → Array Value → Option Value → Pt → Prop} (hK : Back l R p e below s args y 3 W9 Pre Post)
    {g : JFrame} (hg : g.method = m) (hsize : g.locals.size = c.maxLocals) {argsL rest : List Value} (hlen : ∀ sig, parseMethodDescriptor y.desc = some sig → argsL.length = sig.parameters.length)
    (hstack : g.stack = argsL.reverse ++ rest) (hW : 2 * g.monitorRoom + (rest.map fun v => v.category).sum ≤ W9) (hdg : decode c.code g.pc = .ok (.invokestatic index, 3))
    (hpre : ∀ vm₁, s.WarmedH vm₁ → Pre ⟨T.setVm vm₁, locs, cells, slots⟩ argsL.toArray) :
    ∃ (v : Option Value) (vm₁ : Vm) (B : Pt), s.WarmedH vm₁ ∧ Stand p l e R s m args below meth c B.U B.locs B.cells B.slots ∧ Post ⟨T.setVm vm₁, locs, cells, slots⟩ argsL.toArray v B ∧
      ∀ target, Steps p.tables e below (B.U.setTop { g with pc := g.pc + 3, stack := v.toList ++ rest }) target → Steps p.tables e below (T.setTop g) target := by
  obtain ⟨mk, methM, cM, hnamed, hmethM, -, -, -, -, -, -, hsigM⟩ := Cond.codeWith_spec hcode
  have hstatic : methM.isStatic = true := Cond.static_spec hnamed hmethM hstat
  obtain ⟨kP, hkP, -⟩ := className_of_methodNamed hnamed
  have hinitP : kP.init = .initialized := Cond.initialized_spec (findClass_of_methodNamed hnamed) hkP hinit
  obtain ⟨vm₁, X₁, hstep₁⟩ := X.invokestatic hexec hown hlink hnamed hmethM hstatic hkP hinitP hy (g := g) hg (argsL := argsL) (rest := rest) (hlen _ hsigM) hstack hdg
  obtain ⟨v, B, X', hpost, hsteps⟩ := hK m meth c ⟨T.setVm vm₁, locs, cells, slots⟩ { g with stack := rest } (.invokestatic index) mk argsL.toArray X₁ hg hsize hdg hW (X₁.named hnamed) (hpre vm₁ X₁.warmed)
  exact ⟨v, vm₁, B, X₁.warmed, X', hpost, fun target h => hstep₁ _ fun acts => by rw [doInvoke_state]; exact hsteps.trans h⟩
theorem vx_runSW {y : MethodName} {bytes cc : ByteArray} {maxL nL mc ms n index : Nat} {ret : Option FieldType} {hh : List (Nat × Nat × Nat × Nat)} {ws : List Cond} {rm : Room} {Pc : Array Value → State → Prop} {Qc : Array Value → State → Outcome → State → Prop} {free : Addr → Prop} {Ts : List Cond} {own : String} {As rest : List Value} {g : JFrame}
    (S : CallFix p m c cc nL s args Ts own) (hM : Met l y ws rm Pc Qc mc ms free) (cw : vx_CSW R s args own index y bytes maxL ret hh ws rm mc ms n) (hp : PreS s H Pc As)
    (hg : g.method = m) (hn : As.length = n) (hsize : g.locals.size = nL) (hstack : g.stack = As.reverse ++ rest) (hW : 2 * g.monitorRoom + (rest.map fun v => v.category).sum ≤ 8) (hdg : decode cc g.pc = .ok (.invokestatic index, 3)) (hf : cells + mc ≤ R.cells ∧ slots + ms ≤ R.slots) :
    va_Run p l e R s m args below meth c H locs cells slots mc ms g rest (Qc As.toArray) (free) := by
  obtain ⟨⟨hrc, hrs, hfr, hlo, hws, hcw⟩, hcode, hini, hy, hlen, hl, hstt⟩ := cw
  have hK : Back l R p e below s args y 3 8 (PreOf R mc ms Pc) (PostOf Qc mc ms free) := va_backW (hh := hh) (bytes := bytes) (maxL := maxL) (ret := ret) hM hp.1 hrc hrs hfr hlo hws hcw (fun a' U hW => word_at hW (Or.inl (by first | rfl | simp [Cond.onTables, Cond.keeps, Cond.steady])) hini)
  obtain ⟨hx, hb, hml, ho, -⟩ := S
  intro T hT X
  obtain ⟨v, vm₁, ⟨U', l2, c2, s2⟩, hW₁, X', ⟨g', mk, t, L, e1, e2, hq, h1, hL, h2, h3⟩, st⟩ := vx_callSW X hx (hh := hh) (bytes := bytes) (maxL := maxL) (ret := ret) ho hl hstt hini hcode hy hK hg (hsize.trans hml.symm) (argsL := As) (rest := rest) (fun sig h => hn.trans (hlen sig h)) hstack hW (by rw [hb]; exact hdg)
    (fun vm₁ hW₁ => ⟨hf.1, hf.2, hp.2 (T.setVm vm₁) hT hW₁⟩)
  dsimp only [Pt.U, Pt.locs, Pt.cells, Pt.slots] at X' e1 e2 h1 h2 h3 st
  subst h1; subst h2; subst h3
  exact ⟨v, (T.setVm vm₁).calling g' mk As.toArray, t, U', L, hT, X', hL, e1, e2, hq, st⟩
/-- not caught here, past rows that name other classes: it goes on to the caller -/
theorem vx_outP {p : Program} {l : Launch} {e : Env} {R : Room} {s : State} {m : MethodId} {args : Array Value} {below : List Frame} {meth : Method} {c : Code} {H : Heap} {locs : List Loc} {cells slots : Nat} {free : Addr → Prop} {ls : Array Slot} {rest : List Value} {Qc : Array Value → State → Outcome → State → Prop} {XC : String → State → State → Prop}
    {pc : Nat} {own E : String} {ce : Cell} {q : Addr} {mc ms : Nat} (hown : s.vm.findClass own = some m.cls) (hlocks : meth.locks = false)
    (hpass : ∀ z ∈ c.exceptionTable.toList, covers z pc = false ∨ (z.catchType ≠ 0 ∧ ∃ nm : String, (Cond.classLink own z.catchType nm).before args s = true ∧ va_Nc E nm s)) (hcell : H[q]? = some ce) (hv : ce.vm = .none) (hcl : s.vm.findClass E = some ce.cls)
    (hx : ∀ t : State, t.heap = H → s.vm.Alike t.vm → XC E s t) (hf : ∀ z ∈ locs, free z.base) (hc : cells ≤ mc) (hs : slots ≤ ms) :
    vx_W p l e R s m args below meth c H locs cells slots (vx_MQ below Qc XC args s mc ms free) (F0 m pc ls rest) q := by
  intro T hT X
  have hpl : e.platform.magicAccessors = ({} : Platform).magicAccessors := by rw [X.admits.platform]
  obtain ⟨vm', hW', X', st⟩ := X.outThrough hlocks q (g := F0 m pc ls rest) rfl rfl rfl (cell := ce) (by rw [hT]; exact hcell) (by rw [hv]; rfl)
    (by obtain ⟨k9, h9, -⟩ := Vm.findClass_spec hcl; exact ⟨k9, h9⟩) (fun z hz => by
      rcases hpass z hz with h | ⟨hz0, nm, hl1, hn1⟩
      · exact Or.inl h
      · obtain ⟨c6, hc6, hcl6⟩ := Cond.classLink_spec hown hl1 e.platform hpl
        obtain ⟨a8, b8, h1, h2, h3⟩ := hn1
        cases Option.some.inj (h1.symm.trans hcl)
        cases Option.some.inj (h2.symm.trans hc6)
        exact Or.inr ⟨hz0, _, hcl6, h3⟩)
  obtain ⟨g₀, hfr⟩ := X'.frames_eq
  have hcell9 : ((T.setVm vm').setFrames (.throwing q :: below)).heap[q]? = some ce := by
    show T.heap[q]? = some ce
    rw [hT]; exact hcell
  have hend : Ended ((T.setVm vm').setFrames (.throwing q :: below)) below (.threw q) := State.frames_setFrames _ (State.cur_lt_of_frames hfr)
  refine ⟨(T.setVm vm').setFrames (.throwing q :: below), ?_, .threw q, X'.here.running, hend, Or.inr ⟨q, rfl, E, ce, locs, hx _ hT (X'.ends _).1.alike, hcell9, hv, hcl, (X'.ends _).1, (X'.ends _).2.mono hc hs, hf⟩⟩
  rw [X.pushThrowing_eq]
  exact st
/-- a thing of a world lies in the heap -/
theorem vx_lt {D : va_G} {cl : List vw_C} {ws : va_W} {H1 : Heap} (h : va_P D cl ws H1) {k : Nat} {q : Nat × va_E} (hk : ws[k]? = some q) : q.1 < H1.size := (h k q hk).lt
end VXS
/-! ===== END ===== -/
/-! ===== BEGIN methods with a table of their own: called by a name, returning or throwing ===== -/
section VXH
/-! vx_backW, vx_callVX, vx_callSX, vx_callVW, vx_runVW, vx_runVX, vx_runSX, vx_ofWH follow the same proofs as their sisters above (Free/Laws.lean, Shelf42/LK1.lean); vx_outP calls Shelf42/NT130.lean (outThrough). -/
section
variable {l : Launch} {R : Room} {p : Program} {e : Env} {below : List Frame} {s : State} {sargs : Array Value} {y : MethodName} {len W9 : Nat}
theorem vx_backW {ws : List Cond} {rm : Room} {Pc : Array Value → State → Prop} {Qc : Array Value → State → Outcome → State → Prop} {XC : String → State → State → Prop} {mc ms : Nat} {free : Addr → Prop} {bytes : ByteArray} {maxL : Nat} {ret : Option FieldType} {hh : List (Nat × Nat × Nat × Nat)}
    (hM : vx_Met l y ws rm Pc Qc XC mc ms free) (hblind : FrameBlind Pc) (hrc : rm.cells = mc) (hrs : rm.slots = ms)
    (hframes : rm.frames + 1 ≤ R.frames) (hlocals : W9 + (maxL + 11) + rm.locals ≤ R.locals)
    (hws : ∀ w ∈ ws, ∀ a' U, s.WarmedH U.vm → w.before a' U = true) (hcode : Cond.codeWith y bytes maxL ret hh ∈ ws) (hinit : ∀ a' U, s.WarmedH U.vm → (Cond.initialized y.cls).before a' U = true) :
    vx_Back l R p e below s sargs y len W9 (PreOf R mc ms Pc) (PostOf Qc mc ms free) (vx_Post XC mc ms free) := by
  intro m meth c A g ig mk a X hg hsize hdg hW hn hp
  have h1 : (headSpec ws rm).pre.before a A.U = true := atoms_intro fun w hw => hws w hw _ _ X.warmed
  have h2 : (Cond.codeWith y bytes maxL ret hh).before a A.U = true := hws _ hcode _ _ X.warmed
  have h3 : (Cond.initialized y.cls).before a A.U = true := hinit _ _ X.warmed
  have h4 : A.cells + (headSpec ws rm).room.cells ≤ R.cells := by rw [show (headSpec ws rm).room.cells = mc from hrc]; exact hp.1
  have h5 : A.slots + (headSpec ws rm).room.slots ≤ R.slots := by rw [show (headSpec ws rm).room.slots = ms from hrs]; exact hp.2.1
  have hPc : Pc a (A.U.calling g mk a) := hblind _ _ _ _ hp.2.2
  obtain ⟨U, Ls, c0, s0⟩ := A
  dsimp only [Pt.U, Pt.locs, Pt.cells, Pt.slots] at h1 h2 h3 h4 h5 X hn hPc ⊢
  obtain ⟨m9, methY, cY, hn9, hmY, hcY, -, hlY, -⟩ := Cond.codeWith_spec h2
  cases Option.some.inj (hn9.symm.trans hn)
  obtain ⟨kY, hkY, -⟩ := className_of_methodNamed hn
  have hinitY : kY.init = .initialized := Cond.initialized_spec (findClass_of_methodNamed hn) hkY h3
  have h : At U g.method c below := by rw [hg]; exact X.here
  have hlocals9 : W9 + (maxL + 11) + (headSpec ws rm).room.locals ≤ R.locals := hlocals
  have happ : (headSpec ws rm).appliesLoose y e.platform (U.calling g mk a) = true :=
    Spec.appliesLoose_calling (g := g) h hdg hn hkY hinitY
      (X.room_calling (g := g) (R' := (headSpec ws rm).room) hsize hmY hcY hframes (by rw [hlY]; omega) h4 h5) h1
  obtain ⟨mid, hmid⟩ := h.above
  have hfr : (U.setTop g).frames = (.java g :: mid) ++ below := by rw [State.frames_setTop' g h.top, hmid]; rfl
  obtain ⟨o, s₂, hsteps, -, hend, hq⟩ := Steps.callFree hM p X.admits X.cas X.clock (acts := []) hfr happ hPc trivial
  have hq' : vx_Q Qc XC mc ms free a (U.calling g mk a) o s₂ := hq
  rw [State.frames_setTop' g h.top] at hend
  obtain ⟨g₀, hg0⟩ := Option.isSome_iff_exists.mp h.top
  obtain ⟨r, hr⟩ := State.topJava?_eq_some.mp hg0
  have hr' : (({ U with heap := s₂.heap, slotsUsed := s₂.slotsUsed } : State).setVm s₂.vm).frames = .java g₀ :: r := hr
  rcases hq' with ⟨hqc, L, hfe, hL⟩ | ⟨q, rfl, E, ce, L, hx, hce, hcv, hcl, hW₂, hsm, hL⟩
  · obtain ⟨⟨v, rfl⟩, hW₂, e2, q2, q3, q4, q5, q6⟩ := id hfe
    have e3 : s₂ = ({ (U.calling g mk a).setFrames s₂.frames with heap := s₂.heap, slotsUsed := s₂.slotsUsed } : State).setVm s₂.vm := by
      have : s₂ = ({ s₂ with vm := (U.calling g mk a).vm } : State).setVm s₂.vm := rfl
      rw [e2] at this
      exact this
    obtain ⟨c₂, i₂, len₂, hc₂, hd₂, hf₂⟩ := hend
    have hW' : U.WarmedH s₂.vm := hW₂
    have hcc : c₂ = c := by
      have h1 : s₂.code? g.method = U.code? g.method := by
        rw [State.code?_eq, State.code?_eq, hW'.alike.method?]
      exact Option.some.inj (hc₂.symm.trans (h1.trans h.code))
    subst hcc
    have hlen : len₂ = len := by rw [hdg] at hd₂; cases hd₂; rfl
    subst hlen
    have hs₂ : s₂ = (({ U with heap := s₂.heap, slotsUsed := s₂.slotsUsed } : State).setVm s₂.vm).setTop { g with pc := g.pc + len₂, stack := v.toList ++ g.stack } := by
      refine e3.trans ?_
      rw [hf₂, State.calling_eq h.top, State.setFrames_setFrames, State.setTop_of_frames _ hr', hr]
      rfl
    have hsame : U.sameButNew ({ U with heap := s₂.heap, slotsUsed := s₂.slotsUsed } : State) L mc ms := by
      refine ⟨?_, q2, q3, q4, q5, q6⟩
      obtain ⟨t, ht, -⟩ := State.frames_cons hr
      show ({ U with heap := s₂.heap, slotsUsed := s₂.slotsUsed } : State) = { U.setFrames U.frames with heap := s₂.heap, slotsUsed := s₂.slotsUsed }
      rw [State.setFrames_self ht]
    subst hg
    refine Or.inl ⟨v, ⟨(({ U with heap := s₂.heap, slotsUsed := s₂.slotsUsed } : State).setVm s₂.vm), Ls ++ L, c0 + mc, s0 + ms⟩,
      ⟨X.admits, X.cas, X.clock, X.frames, X.room, X.hears, X.method, X.code, (X.here.setHeapUsed s₂.heap s₂.slotsUsed).setVm hW'.alike, X.tail, State.WarmedH.trans X.warmed hW', X.limits, X.bytes, X.same.trans (hsame.setVm s.vm)⟩,
      ⟨g, mk, s₂, L, rfl, rfl, hqc, rfl, hL, rfl, rfl⟩, ?_⟩
    show Steps p.tables e below _ ((({ U with heap := s₂.heap, slotsUsed := s₂.slotsUsed } : State).setVm s₂.vm).setTop { g with pc := g.pc + len₂, stack := v.toList ++ g.stack })
    rw [← hs₂]
    exact hsteps
  · obtain ⟨e2, q2, q3, q4, q5, q6⟩ := id hsm
    have e3 : s₂ = ({ (U.calling g mk a).setFrames s₂.frames with heap := s₂.heap, slotsUsed := s₂.slotsUsed } : State).setVm s₂.vm := by
      have : s₂ = ({ s₂ with vm := (U.calling g mk a).vm } : State).setVm s₂.vm := rfl
      rw [e2] at this
      exact this
    have hf₂ : s₂.frames = .throwing q :: .java g :: U.frames.tail := hend
    have hW' : U.WarmedH s₂.vm := hW₂
    have hs₂ : s₂ = ((({ U with heap := s₂.heap, slotsUsed := s₂.slotsUsed } : State).setVm s₂.vm).setTop g).pushFrame (.throwing q) := by
      refine e3.trans ?_
      rw [hf₂, State.calling_eq h.top, State.setFrames_setFrames, State.pushFrame, State.frames_setTop _ hr', State.setTop_of_frames _ hr', State.setFrames_setFrames, hr]
      rfl
    have hsame : U.sameButNew ({ U with heap := s₂.heap, slotsUsed := s₂.slotsUsed } : State) L mc ms := by
      refine ⟨?_, q2, q3, q4, q5, q6⟩
      obtain ⟨t, ht, -⟩ := State.frames_cons hr
      show ({ U with heap := s₂.heap, slotsUsed := s₂.slotsUsed } : State) = { U.setFrames U.frames with heap := s₂.heap, slotsUsed := s₂.slotsUsed }
      rw [State.setFrames_self ht]
    subst hg
    refine Or.inr ⟨q, ⟨(({ U with heap := s₂.heap, slotsUsed := s₂.slotsUsed } : State).setVm s₂.vm), Ls ++ L, c0 + mc, s0 + ms⟩,
      ⟨X.admits, X.cas, X.clock, X.frames, X.room, X.hears, X.method, X.code, (X.here.setHeapUsed s₂.heap s₂.slotsUsed).setVm hW'.alike, X.tail, State.WarmedH.trans X.warmed hW', X.limits, X.bytes, X.same.trans (hsame.setVm s.vm)⟩,
      ⟨g, mk, s₂, L, E, ce, rfl, rfl, hx, hce, hcv, hcl, rfl, hL, rfl, rfl⟩, ?_⟩
    show Steps p.tables e below _ (((({ U with heap := s₂.heap, slotsUsed := s₂.slotsUsed } : State).setVm s₂.vm).setTop g).pushFrame (.throwing q))
    rw [← hs₂]
    exact hsteps
end
variable {p : Program} {l : Launch} {e : Env} {R : Room} {s : State} {m : MethodId} {args : Array Value} {below : List Frame} {meth : Method} {c : Code} {T : State} {H : Heap} {locs : List Loc} {cells slots : Nat}
theorem vx_callVX (X : Stand p l e R s m args below meth c T locs cells slots) (hexec : p.tables.exec = Jvm.exec) {own C : String} {index : Nat} {y : MethodName} {bytes : ByteArray} {maxL : Nat} {ret : Option FieldType} {hh : List (Nat × Nat × Nat × Nat)}
    (hown : s.vm.findClass own = some m.cls) (hlink : (Cond.methodLink own index y).before args s = true) (hinst : (Cond.instanceMethod y).before args s = true) (hsel : (Cond.selects C y y).before args s = true)
    (hcode : (Cond.codeWith y bytes maxL ret hh).before args s = true) (hy : y.cls ≠ "java/lang/invoke/MethodHandle" ∧ y.cls ≠ "java/lang/invoke/VarHandle")
    {W9 : Nat} {Pre : Pt → Array Value → Prop} {Post : Pt → Array Value → Option Value → Pt → Prop} {PostX : Pt → Array Value → Addr → Pt → Prop} (hK : vx_Back l R p e below s args y 3 W9 Pre Post PostX)
    {b : Addr} {cellB : Cell} (hcell : T.heap[b]? = some cellB) (hobj : cellB.vm.isStatics = false) (hcls : s.vm.findClass C = some cellB.cls)
    {g : JFrame} (hg : g.method = m) (hsize : g.locals.size = c.maxLocals) {argsL rest : List Value} (hlen : ∀ sig, parseMethodDescriptor y.desc = some sig → argsL.length = sig.parameters.length)
    (hstack : g.stack = argsL.reverse ++ .ref b :: rest) (hW : 2 * g.monitorRoom + (rest.map fun v => v.category).sum ≤ W9) (hdg : decode c.code g.pc = .ok (.invokevirtual index, 3))
    (hpre : ∀ vm₁, s.WarmedH vm₁ → Pre ⟨T.setVm vm₁, locs, cells, slots⟩ (Value.ref b :: argsL).toArray) :
    (∃ (v : Option Value) (vm₁ : Vm) (B : Pt), s.WarmedH vm₁ ∧ Stand p l e R s m args below meth c B.U B.locs B.cells B.slots ∧ Post ⟨T.setVm vm₁, locs, cells, slots⟩ (Value.ref b :: argsL).toArray v B ∧
      ∀ target, Steps p.tables e below (B.U.setTop { g with pc := g.pc + 3, stack := v.toList ++ rest }) target → Steps p.tables e below (T.setTop g) target) ∨
    (∃ (q : Addr) (vm₁ : Vm) (B : Pt), s.WarmedH vm₁ ∧ Stand p l e R s m args below meth c B.U B.locs B.cells B.slots ∧ PostX ⟨T.setVm vm₁, locs, cells, slots⟩ (Value.ref b :: argsL).toArray q B ∧
      Steps p.tables e below (T.setTop g) ((B.U.setTop { g with stack := rest }).pushFrame (.throwing q))) := by
  obtain ⟨mk, methM, hnamed, hmethM, hstM, habM⟩ := Cond.instanceMethod_spec hinst
  obtain ⟨m8, methM', cM, hn8, hmethM', -, -, -, -, -, -, hsigM⟩ := Cond.codeWith_spec hcode
  cases Option.some.inj (hn8.symm.trans hnamed)
  cases hmethM.symm.trans hmethM'
  obtain ⟨c2, r2, m2, q1, q2, q3, q4, kP, hkP, hkPi⟩ := Cond.selects_spec hsel
  cases hcls.symm.trans q1
  cases (State.methodFound?_of_named hnamed hy).symm.trans q2
  cases hnamed.symm.trans q3
  have hselP : selectMethod e.platform s.vm cellB.cls mk = .method mk := by rw [Launch.admits_selectMethod X.admits]; exact q4
  obtain ⟨vm₁, X₁, hstep₁⟩ := X.invokevirtual hexec hown hlink hnamed hmethM hstM hkP hkPi hy (a := b) (cell := cellB) hcell
    (fun z h => by rw [h] at hobj; cases hobj) hselP hmethM habM hkP hkPi (g := g) hg (argsL := argsL) (rest := rest) (hlen _ hsigM) hstack hdg
  rcases hK m meth c ⟨T.setVm vm₁, locs, cells, slots⟩ { g with stack := rest } (.invokevirtual index) mk (Value.ref b :: argsL).toArray X₁ hg hsize hdg hW (X₁.named hnamed) (hpre vm₁ X₁.warmed) with ⟨v, B, X', hpost, hsteps⟩ | ⟨q, B, X', hpost, hsteps⟩
  · exact Or.inl ⟨v, vm₁, B, X₁.warmed, X', hpost, fun target h => hstep₁ _ fun acts => by rw [doInvoke_state]; exact hsteps.trans h⟩
  · exact Or.inr ⟨q, vm₁, B, X₁.warmed, X', hpost, hstep₁ _ fun acts => by rw [doInvoke_state]; exact hsteps⟩
theorem vx_callSX (X : Stand p l e R s m args below meth c T locs cells slots) (hexec : p.tables.exec = Jvm.exec) {own : String} {index : Nat} {y : MethodName} {bytes : ByteArray} {maxL : Nat} {ret : Option FieldType} {hh : List (Nat × Nat × Nat × Nat)}
    (hown : s.vm.findClass own = some m.cls) (hlink : (Cond.methodLink own index y).before args s = true) (hstat : (Cond.static y).before args s = true) (hinit : (Cond.initialized y.cls).before args s = true)
    (hcode : (Cond.codeWith y bytes maxL ret hh).before args s = true) (hy : y.cls ≠ "java/lang/invoke/MethodHandle" ∧ y.cls ≠ "java/lang/invoke/VarHandle")
    {W9 : Nat} {Pre : Pt → Array Value → Prop} {Post : Pt → Array Value → Option Value → Pt → Prop} {PostX : Pt → Array Value → Addr → Pt → Prop} (hK : vx_Back l R p e below s args y 3 W9 Pre Post PostX)
    {g : JFrame} (hg : g.method = m) (hsize : g.locals.size = c.maxLocals) {argsL rest : List Value} (hlen : ∀ sig, parseMethodDescriptor y.desc = some sig → argsL.length = sig.parameters.length)
    (hstack : g.stack = argsL.reverse ++ rest) (hW : 2 * g.monitorRoom + (rest.map fun v => v.category).sum ≤ W9) (hdg : decode c.code g.pc = .ok (.invokestatic index, 3))
    (hpre : ∀ vm₁, s.WarmedH vm₁ → Pre ⟨T.setVm vm₁, locs, cells, slots⟩ argsL.toArray) :
    (∃ (v : Option Value) (vm₁ : Vm) (B : Pt), s.WarmedH vm₁ ∧ Stand p l e R s m args below meth c B.U B.locs B.cells B.slots ∧ Post ⟨T.setVm vm₁, locs, cells, slots⟩ argsL.toArray v B ∧
      ∀ target, Steps p.tables e below (B.U.setTop { g with pc := g.pc + 3, stack := v.toList ++ rest }) target → Steps p.tables e below (T.setTop g) target) ∨
    (∃ (q : Addr) (vm₁ : Vm) (B : Pt), s.WarmedH vm₁ ∧ Stand p l e R s m args below meth c B.U B.locs B.cells B.slots ∧ PostX ⟨T.setVm vm₁, locs, cells, slots⟩ argsL.toArray q B ∧
      Steps p.tables e below (T.setTop g) ((B.U.setTop { g with stack := rest }).pushFrame (.throwing q))) := by
  obtain ⟨mk, methM, cM, hnamed, hmethM, -, -, -, -, -, -, hsigM⟩ := Cond.codeWith_spec hcode
  have hstatic : methM.isStatic = true := Cond.static_spec hnamed hmethM hstat
  obtain ⟨kP, hkP, -⟩ := className_of_methodNamed hnamed
  have hinitP : kP.init = .initialized := Cond.initialized_spec (findClass_of_methodNamed hnamed) hkP hinit
  obtain ⟨vm₁, X₁, hstep₁⟩ := X.invokestatic hexec hown hlink hnamed hmethM hstatic hkP hinitP hy (g := g) hg (argsL := argsL) (rest := rest) (hlen _ hsigM) hstack hdg
  rcases hK m meth c ⟨T.setVm vm₁, locs, cells, slots⟩ { g with stack := rest } (.invokestatic index) mk argsL.toArray X₁ hg hsize hdg hW (X₁.named hnamed) (hpre vm₁ X₁.warmed) with ⟨v, B, X', hpost, hsteps⟩ | ⟨q, B, X', hpost, hsteps⟩
  · exact Or.inl ⟨v, vm₁, B, X₁.warmed, X', hpost, fun target h => hstep₁ _ fun acts => by rw [doInvoke_state]; exact hsteps.trans h⟩
  · exact Or.inr ⟨q, vm₁, B, X₁.warmed, X', hpost, hstep₁ _ fun acts => by rw [doInvoke_state]; exact hsteps⟩
theorem vx_callVW (X : Stand p l e R s m args below meth c T locs cells slots) (hexec : p.tables.exec = Jvm.exec) {own C : String} {index : Nat} {y : MethodName} {bytes : ByteArray} {maxL : Nat} {ret : Option FieldType} {hh : List (Nat × Nat × Nat × Nat)}
    (hown : s.vm.findClass own = some m.cls) (hlink : (Cond.methodLink own index y).before args s = true) (hinst : (Cond.instanceMethod y).before args s = true) (hsel : (Cond.selects C y y).before args s = true)
    (hcode : (Cond.codeWith y bytes maxL ret hh).before args s = true) (hy : y.cls ≠ "java/lang/invoke/MethodHandle" ∧ y.cls ≠ "java/lang/invoke/VarHandle")
    {W9 : Nat} {Pre : Pt → Array Value → Prop} {Post : Pt → Array Value → Option Value → Pt → Prop} (hK : Back l R p e below s args y 3 W9 Pre Post)
    {b : Addr} {cellB : Cell} (hcell : T.heap[b]? = some cellB) (hobj : cellB.vm.isStatics = false) (hcls : s.vm.findClass C = some cellB.cls)
    {g : JFrame} (hg : g.method = m) (hsize : g.locals.size = c.maxLocals) {argsL rest : List Value} (hlen : ∀ sig, parseMethodDescriptor y.desc = some sig → argsL.length = sig.parameters.length)
    (hstack : g.stack = argsL.reverse ++ .ref b :: rest) (hW : 2 * g.monitorRoom + (rest.map fun v => v.category).sum ≤ W9) (hdg : decode c.code g.pc = .ok (.invokevirtual index, 3))
    (hpre : ∀ vm₁, s.WarmedH vm₁ → Pre ⟨T.setVm vm₁, locs, cells, slots⟩ (Value.ref b :: argsL).toArray) :
    ∃ (v : Option Value) (vm₁ : Vm) (B : Pt), s.WarmedH vm₁ ∧ Stand p l e R s m args below meth c B.U B.locs B.cells B.slots ∧ Post ⟨T.setVm vm₁, locs, cells, slots⟩ (Value.ref b :: argsL).toArray v B ∧
      ∀ target, Steps p.tables e below (B.U.setTop { g with pc := g.pc + 3, stack := v.toList ++ rest }) target → Steps p.tables e below (T.setTop g) target := by
  obtain ⟨mk, methM, hnamed, hmethM, hstM, habM⟩ := Cond.instanceMethod_spec hinst
  obtain ⟨m8, methM', cM, hn8, hmethM', -, -, -, -, -, -, hsigM⟩ := Cond.codeWith_spec hcode
  cases Option.some.inj (hn8.symm.trans hnamed)
  cases hmethM.symm.trans hmethM'
  obtain ⟨c2, r2, m2, q1, q2, q3, q4, kP, hkP, hkPi⟩ := Cond.selects_spec hsel
  cases hcls.symm.trans q1
  cases (State.methodFound?_of_named hnamed hy).symm.trans q2
  cases hnamed.symm.trans q3
  have hselP : selectMethod e.platform s.vm cellB.cls mk = .method mk := by rw [Launch.admits_selectMethod X.admits]; exact q4
  obtain ⟨vm₁, X₁, hstep₁⟩ := X.invokevirtual hexec hown hlink hnamed hmethM hstM hkP hkPi hy (a := b) (cell := cellB) hcell
    (fun z h => by rw [h] at hobj; cases hobj) hselP hmethM habM hkP hkPi (g := g) hg (argsL := argsL) (rest := rest) (hlen _ hsigM) hstack hdg
  obtain ⟨v, B, X', hpost, hsteps⟩ := hK m meth c ⟨T.setVm vm₁, locs, cells, slots⟩ { g with stack := rest } (.invokevirtual index) mk (Value.ref b :: argsL).toArray X₁ hg hsize hdg hW (X₁.named hnamed) (hpre vm₁ X₁.warmed)
  exact ⟨v, vm₁, B, X₁.warmed, X', hpost, fun target h => hstep₁ _ fun acts => by rw [doInvoke_state]; exact hsteps.trans h⟩
abbrev vx_CVW (R : Room) (s : State) (args : Array Value) (own C : String) (index : Nat) (y : MethodName) (bytes : ByteArray) (maxL : Nat) (ret : Option FieldType) (hh : List (Nat × Nat × Nat × Nat)) (ws : List Cond) (rm : Room) (mc ms n : Nat) : Prop :=
  (rm.cells = mc ∧ rm.slots = ms ∧ rm.frames + 1 ≤ R.frames ∧ 8 + (maxL + 11) + rm.locals ≤ R.locals ∧ (∀ w ∈ ws, ∀ (a' : Array Value) (U : State), s.WarmedH U.vm → w.before a' U = true) ∧ Cond.codeWith y bytes maxL ret hh ∈ ws) ∧
  (Cond.codeWith y bytes maxL ret hh).before args s = true ∧ (Cond.initialized y.cls).before args s = true ∧ (y.cls ≠ "java/lang/invoke/MethodHandle" ∧ y.cls ≠ "java/lang/invoke/VarHandle") ∧
  (∀ sig, parseMethodDescriptor y.desc = some sig → n = sig.parameters.length) ∧ (Cond.methodLink own index y).before args s = true ∧ (Cond.instanceMethod y).before args s = true ∧ (Cond.selects C y y).before args s = true
theorem vx_cwVW {own C : String} {index maxL mc ms : Nat} {y : MethodName} {bytes : ByteArray} {ret : Option FieldType} {hh : List (Nat × Nat × Nat × Nat)} {Ts ws ws' : List Cond} {rm : Room} (n : Nat) (ht : ∀ w ∈ Ts, w.before args s = true) (hT : GoodIn Ts (wsV own index C y ws)) (hw : ws = Cond.codeWith y bytes maxL ret hh :: ws') (hrc : rm.cells = mc) (hrs : rm.slots = ms)
    (hd : y.cls = C ∧ y.cls ≠ "java/lang/invoke/MethodHandle" ∧ y.cls ≠ "java/lang/invoke/VarHandle" ∧ (parseMethodDescriptor y.desc).map (fun d => d.parameters.length) = some n) (hR : rm.frames + 1 ≤ R.frames ∧ 8 + (maxL + 11) + rm.locals ≤ R.locals) :
    vx_CVW R s args own C index y bytes maxL ret hh ws rm mc ms n := by
  obtain ⟨hC, hd⟩ := hd
  subst hC
  have ok : ∀ w ∈ wsV own index y.cls y ws, w.before args s = true := fun w h => ht w (hT w h).1
  have hG : GoodIn Ts ws := fun w h => hT w (by unfold wsV; exact List.mem_append_right _ h)
  have hc : Cond.codeWith y bytes maxL ret hh ∈ ws := by rw [hw]; exact List.mem_cons_self
  refine ⟨⟨hrc, hrs, hR.1, hR.2, pay_in ht hG, hc⟩, ht _ (hG _ hc).1, ok _ (by simp [wsV]), ⟨hd.1, hd.2.1⟩, fun sig h => ?_, ok _ (by simp [wsV]), ok _ (by simp [wsV]), ok _ (by simp [wsV])⟩
  have h2 := hd.2.2
  rw [h] at h2
  exact (Option.some.inj h2).symm
theorem vx_runVW {y : MethodName} {bytes cc : ByteArray} {maxL nL mc ms n index : Nat} {ret : Option FieldType} {hh : List (Nat × Nat × Nat × Nat)} {ws : List Cond} {rm : Room} {Pc : Array Value → State → Prop} {Qc : Array Value → State → Outcome → State → Prop} {free : Addr → Prop} {Ts : List Cond} {own C : String} {b : Addr} {As rest : List Value} {g : JFrame}
    (S : CallFix p m c cc nL s args Ts own) (hM : Met l y ws rm Pc Qc mc ms free) (cw : vx_CVW R s args own C index y bytes maxL ret hh ws rm mc ms n) (hp : PreV s H C b Pc As)
    (hg : g.method = m) (hn : As.length = n) (hsize : g.locals.size = nL) (hstack : g.stack = As.reverse ++ .ref b :: rest) (hW : 2 * g.monitorRoom + (rest.map fun v => v.category).sum ≤ 8) (hdg : decode cc g.pc = .ok (.invokevirtual index, 3)) (hf : cells + mc ≤ R.cells ∧ slots + ms ≤ R.slots) :
    va_Run p l e R s m args below meth c H locs cells slots mc ms g rest (Qc (Value.ref b :: As).toArray) free := by
  obtain ⟨⟨hrc, hrs, hfr, hlo, hws, hcw⟩, hcode, hini, hy, hlen, hl, hin, hse⟩ := cw
  have hK : Back l R p e below s args y 3 8 (PreOf R mc ms Pc) (PostOf Qc mc ms free) := va_backW (hh := hh) (bytes := bytes) (maxL := maxL) (ret := ret) hM hp.1 hrc hrs hfr hlo hws hcw (fun a' U hW => word_at hW (Or.inl (by first | rfl | simp [Cond.onTables, Cond.keeps, Cond.steady])) hini)
  obtain ⟨hx, hb, hml, ho, -⟩ := S
  obtain ⟨-, ⟨cellB, hcB, hoB, hclB⟩, hPc⟩ := hp
  intro T hT X
  obtain ⟨v, vm₁, ⟨U', l2, c2, s2⟩, hW₁, X', ⟨g', mk, t, L, e1, e2, hq, h1, hL, h2, h3⟩, st⟩ := vx_callVW X hx (C := C) (hh := hh) (bytes := bytes) (maxL := maxL) (ret := ret) ho hl hin hse hcode hy hK (by rw [hT]; exact hcB) hoB hclB hg (hsize.trans hml.symm) (argsL := As) (rest := rest) (fun sig h => hn.trans (hlen sig h)) hstack hW (by rw [hb]; exact hdg)
    (fun vm₁ hW₁ => ⟨hf.1, hf.2, hPc (T.setVm vm₁) hT hW₁⟩)
  dsimp only [Pt.U, Pt.locs, Pt.cells, Pt.slots] at X' e1 e2 h1 h2 h3 st
  subst h1; subst h2; subst h3
  exact ⟨v, (T.setVm vm₁).calling g' mk (Value.ref b :: As).toArray, t, U', L, hT, X', hL, e1, e2, hq, st⟩
section
variable {y : MethodName} {bytes cc : ByteArray} {maxL nL mc ms n index : Nat} {ret : Option FieldType} {ws : List Cond} {rm : Room} {Pc : Array Value → State → Prop} {Qc : Array Value → State → Outcome → State → Prop} {XC : String → State → State → Prop} {free : Addr → Prop} {Ts : List Cond} {own C : String} {b : Addr} {As rest : List Value} {g : JFrame}
theorem vx_runVX {hh : List (Nat × Nat × Nat × Nat)} (S : CallFix p m c cc nL s args Ts own) (hM : vx_Met l y ws rm Pc Qc XC mc ms free) (cw : vx_CVW R s args own C index y bytes maxL ret hh ws rm mc ms n) (hp : PreV s H C b Pc As)
    (hg : g.method = m) (hn : As.length = n) (hsize : g.locals.size = nL) (hstack : g.stack = As.reverse ++ .ref b :: rest) (hW : 2 * g.monitorRoom + (rest.map fun v => v.category).sum ≤ 8) (hdg : decode cc g.pc = .ok (.invokevirtual index, 3)) (hf : cells + mc ≤ R.cells ∧ slots + ms ≤ R.slots) :
    vx_Run p l e R s m args below meth c H locs cells slots mc ms g rest (Qc (Value.ref b :: As).toArray) XC free := by
  obtain ⟨⟨hrc, hrs, hfr, hlo, hws, hcw⟩, hcode, hini, hy, hlen, hl, hin, hse⟩ := cw
  have hK : vx_Back l R p e below s args y 3 8 (PreOf R mc ms Pc) (PostOf Qc mc ms free) (vx_Post XC mc ms free) := vx_backW (hh := hh) (bytes := bytes) (maxL := maxL) (ret := ret) hM hp.1 hrc hrs hfr hlo hws hcw (fun a' U hW => word_at hW (Or.inl (by first | rfl | simp [Cond.onTables, Cond.keeps, Cond.steady])) hini)
  obtain ⟨hx, hb, hml, ho, -⟩ := S
  obtain ⟨-, ⟨cellB, hcB, hoB, hclB⟩, hPc⟩ := hp
  intro T hT X
  rcases vx_callVX X hx (C := C) (hh := hh) (bytes := bytes) (maxL := maxL) (ret := ret) ho hl hin hse hcode hy hK (by rw [hT]; exact hcB) hoB hclB hg (hsize.trans hml.symm) (argsL := As) (rest := rest) (fun sig h => hn.trans (hlen sig h)) hstack hW (by rw [hb]; exact hdg)
    (fun vm₁ hW₁ => ⟨hf.1, hf.2, hPc (T.setVm vm₁) hT hW₁⟩) with ⟨v, vm₁, ⟨U', l2, c2, s2⟩, hW₁, X', ⟨g', mk, t, L, e1, e2, hq, h1, hL, h2, h3⟩, st⟩ | ⟨q, vm₁, ⟨U', l2, c2, s2⟩, hW₁, X', ⟨g', mk, t, L, E, ce, e1, e2, hq, hce, hcv, hcl, h1, hL, h2, h3⟩, st⟩
  · dsimp only [Pt.U, Pt.locs, Pt.cells, Pt.slots] at X' e1 e2 h1 h2 h3 st
    subst h1; subst h2; subst h3
    exact Or.inl ⟨v, (T.setVm vm₁).calling g' mk (Value.ref b :: As).toArray, t, U', L, hT, X', hL, e1, e2, hq, st⟩
  · dsimp only [Pt.U, Pt.locs, Pt.cells, Pt.slots] at X' e1 e2 h1 h2 h3 st hcl
    subst h1; subst h2; subst h3
    exact Or.inr ⟨q, (T.setVm vm₁).calling g' mk (Value.ref b :: As).toArray, t, U', L, E, ce, hT, X', hL, e1, e2, hq, hce, hcv, vx_cls hW₁ hcl, st⟩
theorem vx_runSX {hh : List (Nat × Nat × Nat × Nat)} (S : CallFix p m c cc nL s args Ts own) (hM : vx_Met l y ws rm Pc Qc XC mc ms free) (cw : vx_CSW R s args own index y bytes maxL ret hh ws rm mc ms n) (hp : PreS s H Pc As)
    (hg : g.method = m) (hn : As.length = n) (hsize : g.locals.size = nL) (hstack : g.stack = As.reverse ++ rest) (hW : 2 * g.monitorRoom + (rest.map fun v => v.category).sum ≤ 8) (hdg : decode cc g.pc = .ok (.invokestatic index, 3)) (hf : cells + mc ≤ R.cells ∧ slots + ms ≤ R.slots) :
    vx_Run p l e R s m args below meth c H locs cells slots mc ms g rest (Qc As.toArray) XC free := by
  obtain ⟨⟨hrc, hrs, hfr, hlo, hws, hcw⟩, hcode, hini, hy, hlen, hl, hstt⟩ := cw
  have hK : vx_Back l R p e below s args y 3 8 (PreOf R mc ms Pc) (PostOf Qc mc ms free) (vx_Post XC mc ms free) := vx_backW (hh := hh) (bytes := bytes) (maxL := maxL) (ret := ret) hM hp.1 hrc hrs hfr hlo hws hcw (fun a' U hW => word_at hW (Or.inl (by first | rfl | simp [Cond.onTables, Cond.keeps, Cond.steady])) hini)
  obtain ⟨hx, hb, hml, ho, -⟩ := S
  intro T hT X
  rcases vx_callSX X hx (hh := hh) (bytes := bytes) (maxL := maxL) (ret := ret) ho hl hstt hini hcode hy hK hg (hsize.trans hml.symm) (argsL := As) (rest := rest) (fun sig h => hn.trans (hlen sig h)) hstack hW (by rw [hb]; exact hdg)
    (fun vm₁ hW₁ => ⟨hf.1, hf.2, hp.2 (T.setVm vm₁) hT hW₁⟩) with ⟨v, vm₁, ⟨U', l2, c2, s2⟩, hW₁, X', ⟨g', mk, t, L, e1, e2, hq, h1, hL, h2, h3⟩, st⟩ | ⟨q, vm₁, ⟨U', l2, c2, s2⟩, hW₁, X', ⟨g', mk, t, L, E, ce, e1, e2, hq, hce, hcv, hcl, h1, hL, h2, h3⟩, st⟩
  · dsimp only [Pt.U, Pt.locs, Pt.cells, Pt.slots] at X' e1 e2 h1 h2 h3 st
    subst h1; subst h2; subst h3
    exact Or.inl ⟨v, (T.setVm vm₁).calling g' mk As.toArray, t, U', L, hT, X', hL, e1, e2, hq, st⟩
  · dsimp only [Pt.U, Pt.locs, Pt.cells, Pt.slots] at X' e1 e2 h1 h2 h3 st hcl
    subst h1; subst h2; subst h3
    exact Or.inr ⟨q, (T.setVm vm₁).calling g' mk As.toArray, t, U', L, E, ce, hT, X', hL, e1, e2, hq, hce, hcv, vx_cls hW₁ hcl, st⟩
end
end VXH
theorem vx_ofWH {l : Launch} {y : MethodName} {ws ws' : List Cond} {rm : Room} {Pc : Array Value → State → Prop} {Qc : Array Value → State → Outcome → State → Prop} {XC : String → State → State → Prop} {mc ms : Nat} {free : Addr → Prop} {cc : ByteArray} {maxL : Nat} {ret : Option FieldType} {hh : List (Nat × Nat × Nat × Nat)}
    (hy : plainName y.cls = true) (hw : ws = Cond.codeWith y cc maxL ret hh :: ws')
    (body : ∀ p e s m args below meth c s₁, BodyLoose p l y (headSpec ws rm) cc maxL ret e s m args below meth c s₁ → c.maxLocals = maxL → Pc args s →
      W p l e (headSpec ws rm).room s m args below meth c s.heap [] 0 0 (vx_MQ below Qc XC args s mc ms free) (entryFrame m args maxL)) : vx_Met l y ws rm Pc Qc XC mc ms free := by
  refine MetFree.of_bodyS (code := cc) (maxLocals := maxL) (ret := ret) hy ?_ ?_
  · intro args s m h hn
    obtain ⟨m9, meth, c, hn9, h1, h2, h3, h4, -, h5, h6, -⟩ := Cond.codeWith_spec (atoms_spec (ws := ws) h _ (by rw [hw]; exact List.mem_cons_self))
    cases hn.symm.trans hn9
    exact ⟨meth, c, h1, h2, h3, h4, h5, h6⟩
  · intro p e s m args below meth c s₁ B hml hP _
    have hh0 : s₁.heap = s.heap := by rw [B.state]; rfl
    obtain ⟨t, a1, o, b1, b2, b3⟩ := body p e s m args below meth c s₁ B hml hP s₁ hh0 (Stand.of_body B)
    exact ⟨t, o, a1, b1, b2, b3⟩
/-! ===== END ===== -/
end
section
def RX0 : String := "ProfitsOffice$Fund"
def TX0 : u_T := fun k => match k with
  | _ => ("ProfitsOffice$Fund", "amount", "J", false)
def tyX0 : Nat → FieldType := fun k => match k with
  | _ => .long
abbrev wsX00 : List Cond := u_ws RX0 TX0 1
theorem nmX0 : ∀ a, a < 1 → ∀ b, b < 1 → a ≠ b → (TX0 a).2.1 ≠ (TX0 b).2.1 := by decide +kernel
theorem tyX0_ok : ∀ k, k < 1 → parseFieldDescriptor (TX0 k).2.2.1 = some (tyX0 k) := by decide +kernel
abbrev cX0_init : ByteArray := prog_2_method_1_code
def yX0_init : MethodName := ⟨RX0, "<init>", "()V"⟩
abbrev cX0_earn : ByteArray := prog_2_method_2_code
def yX0_earn : MethodName := ⟨RX0, "earn", "(I)J"⟩
abbrev cX0_takeCharge : ByteArray := prog_2_method_3_code
def yX0_takeCharge : MethodName := ⟨RX0, "takeCharge", "(I)J"⟩
def RX1 : String := "ProfitsOffice$Generation"
def TX1 : u_T := fun k => match k with
  | 0 => ("ProfitsOffice$Generation", "begun", "I", true)
  | 1 => ("ProfitsOffice$Generation", "term", "I", true)
  | 2 => ("ProfitsOffice$Generation", "fund", "LProfitsOffice$Fund;", true)
  | _ => ("ProfitsOffice$Generation", "premiums", "J", false)
def tyX1 : Nat → FieldType := fun k => match k with
  | 0 => .int
  | 1 => .int
  | 2 => .object "ProfitsOffice$Fund"
  | _ => .long
abbrev wsX10 : List Cond := u_ws RX1 TX1 4
theorem nmX1 : ∀ a, a < 4 → ∀ b, b < 4 → a ≠ b → (TX1 a).2.1 ≠ (TX1 b).2.1 := by decide +kernel
theorem tyX1_ok : ∀ k, k < 4 → parseFieldDescriptor (TX1 k).2.2.1 = some (tyX1 k) := by decide +kernel
abbrev cX1_init : ByteArray := prog_3_method_1_code
def yX1_init : MethodName := ⟨RX1, "<init>", "(II)V"⟩
abbrev cX1_shareFor : ByteArray := prog_3_method_2_code
def yX1_shareFor : MethodName := ⟨RX1, "shareFor", "(I)J"⟩
abbrev cX1_release : ByteArray := prog_3_method_3_code
def yX1_release : MethodName := ⟨RX1, "release", "(I)J"⟩
def RX2 : String := "ProfitsOffice$Policy"
def TX2 : u_T := fun k => match k with
  | 0 => ("ProfitsOffice$Policy", "generation", "LProfitsOffice$Generation;", true)
  | 1 => ("ProfitsOffice$Policy", "premium", "I", true)
  | 2 => ("ProfitsOffice$Policy", "sum", "I", true)
  | 3 => ("ProfitsOffice$Policy", "alone", "LProfitsOffice$Fund;", true)
  | 4 => ("ProfitsOffice$Policy", "bonuses", "J", false)
  | 5 => ("ProfitsOffice$Policy", "state", "I", false)
  | _ => ("ProfitsOffice$Policy", "paid", "J", false)
def tyX2 : Nat → FieldType := fun k => match k with
  | 0 => .object "ProfitsOffice$Generation"
  | 1 => .int
  | 2 => .int
  | 3 => .object "ProfitsOffice$Fund"
  | 4 => .long
  | 5 => .int
  | _ => .long
abbrev wsX20 : List Cond := u_ws RX2 TX2 7
theorem nmX2 : ∀ a, a < 7 → ∀ b, b < 7 → a ≠ b → (TX2 a).2.1 ≠ (TX2 b).2.1 := by decide +kernel
theorem tyX2_ok : ∀ k, k < 7 → parseFieldDescriptor (TX2 k).2.2.1 = some (tyX2 k) := by decide +kernel
abbrev cX2_init : ByteArray := prog_4_method_1_code
def yX2_init : MethodName := ⟨RX2, "<init>", "(LProfitsOffice$Generation;II)V"⟩
abbrev cX2_isInForce : ByteArray := prog_4_method_2_code
def yX2_isInForce : MethodName := ⟨RX2, "isInForce", "()Z"⟩
abbrev cX2_guaranteed : ByteArray := prog_4_method_3_code
def yX2_guaranteed : MethodName := ⟨RX2, "guaranteed", "()J"⟩
abbrev cX2_assetShare : ByteArray := prog_4_method_4_code
def yX2_assetShare : MethodName := ⟨RX2, "assetShare", "()J"⟩
def RX3 : String := "ProfitsOffice"
def TX3 : u_T := fun k => match k with
  | 0 => ("ProfitsOffice", "policies", "[LProfitsOffice$Policy;", true)
  | 1 => ("ProfitsOffice", "generations", "[LProfitsOffice$Generation;", true)
  | 2 => ("ProfitsOffice", "lastRatios", "[J", true)
  | 3 => ("ProfitsOffice", "ratiosBefore", "[J", true)
  | 4 => ("ProfitsOffice", "policyCount", "I", false)
  | 5 => ("ProfitsOffice", "generationCount", "I", false)
  | 6 => ("ProfitsOffice", "year", "I", false)
  | 7 => ("ProfitsOffice", "bonusRate", "I", false)
  | 8 => ("ProfitsOffice", "charge", "I", false)
  | 9 => ("ProfitsOffice", "scale", "I", false)
  | 10 => ("ProfitsOffice", "step", "I", false)
  | 11 => ("ProfitsOffice", "floor", "I", false)
  | 12 => ("ProfitsOffice", "estate", "J", false)
  | _ => ("ProfitsOffice", "assets", "J", false)
def tyX3 : Nat → FieldType := fun k => match k with
  | 0 => .array (.object "ProfitsOffice$Policy")
  | 1 => .array (.object "ProfitsOffice$Generation")
  | 2 => .array .long
  | 3 => .array .long
  | 4 => .int
  | 5 => .int
  | 6 => .int
  | 7 => .int
  | 8 => .int
  | 9 => .int
  | 10 => .int
  | 11 => .int
  | 12 => .long
  | _ => .long
abbrev wsX30 : List Cond := u_ws RX3 TX3 14
theorem nmX3 : ∀ a, a < 14 → ∀ b, b < 14 → a ≠ b → (TX3 a).2.1 ≠ (TX3 b).2.1 := by decide +kernel
theorem tyX3_ok : ∀ k, k < 14 → parseFieldDescriptor (TX3 k).2.2.1 = some (tyX3 k) := by decide +kernel
abbrev cX3_init : ByteArray := prog_1_method_1_code
def yX3_init : MethodName := ⟨RX3, "<init>", "()V"⟩
abbrev cX3_begin : ByteArray := prog_1_method_2_code
def yX3_begin : MethodName := ⟨RX3, "begin", "(III)I"⟩
abbrev cX3_surrender : ByteArray := prog_1_method_3_code
def yX3_surrender : MethodName := ⟨RX3, "surrender", "(I)I"⟩
abbrev cX3_setRates : ByteArray := prog_1_method_4_code
def yX3_setRates : MethodName := ⟨RX3, "setRates", "(II)I"⟩
abbrev cX3_setScale : ByteArray := prog_1_method_5_code
def yX3_setScale : MethodName := ⟨RX3, "setScale", "(III)I"⟩
abbrev cX3_endow : ByteArray := prog_1_method_6_code
def yX3_endow : MethodName := ⟨RX3, "endow", "(I)J"⟩
abbrev cX3_run : ByteArray := prog_1_method_7_code
def yX3_run : MethodName := ⟨RX3, "run", "(I)I"⟩
abbrev cX3_year : ByteArray := prog_1_method_8_code
def yX3_year : MethodName := ⟨RX3, "year", "()I"⟩
abbrev cX3_policies : ByteArray := prog_1_method_9_code
def yX3_policies : MethodName := ⟨RX3, "policies", "()I"⟩
abbrev cX3_stateOf : ByteArray := prog_1_method_10_code
def yX3_stateOf : MethodName := ⟨RX3, "stateOf", "(I)I"⟩
abbrev cX3_bonuses : ByteArray := prog_1_method_11_code
def yX3_bonuses : MethodName := ⟨RX3, "bonuses", "(I)I"⟩
abbrev cX3_shareOf : ByteArray := prog_1_method_12_code
def yX3_shareOf : MethodName := ⟨RX3, "shareOf", "(I)I"⟩
abbrev cX3_shareAlone : ByteArray := prog_1_method_13_code
def yX3_shareAlone : MethodName := ⟨RX3, "shareAlone", "(I)I"⟩
abbrev cX3_generation : ByteArray := prog_1_method_14_code
def yX3_generation : MethodName := ⟨RX3, "generation", "(II)I"⟩
abbrev cX3_paid : ByteArray := prog_1_method_15_code
def yX3_paid : MethodName := ⟨RX3, "paid", "(I)I"⟩
abbrev cX3_worth : ByteArray := prog_1_method_16_code
def yX3_worth : MethodName := ⟨RX3, "worth", "(I)I"⟩
abbrev cX3_lastRatio : ByteArray := prog_1_method_17_code
def yX3_lastRatio : MethodName := ⟨RX3, "lastRatio", "(I)I"⟩
abbrev cX3_estate : ByteArray := prog_1_method_18_code
def yX3_estate : MethodName := ⟨RX3, "estate", "()J"⟩
abbrev cX3_sharesAndEstate : ByteArray := prog_1_method_19_code
def yX3_sharesAndEstate : MethodName := ⟨RX3, "sharesAndEstate", "()J"⟩
abbrev cX3_assets : ByteArray := prog_1_method_20_code
def yX3_assets : MethodName := ⟨RX3, "assets", "()J"⟩
abbrev cX3_shortfall : ByteArray := prog_1_method_21_code
def yX3_shortfall : MethodName := ⟨RX3, "shortfall", "()I"⟩
abbrev cX3_isWithin : ByteArray := prog_1_method_22_code
def yX3_isWithin : MethodName := ⟨RX3, "isWithin", "(III)Z"⟩
abbrev cX3_isTerm : ByteArray := prog_1_method_23_code
def yX3_isTerm : MethodName := ⟨RX3, "isTerm", "(I)Z"⟩
abbrev cX3_knownPolicy : ByteArray := prog_1_method_24_code
def yX3_knownPolicy : MethodName := ⟨RX3, "knownPolicy", "(I)LProfitsOffice$Policy;"⟩
abbrev cX3_checkSurrenderable : ByteArray := prog_1_method_25_code
def yX3_checkSurrenderable : MethodName := ⟨RX3, "checkSurrenderable", "(LProfitsOffice$Policy;)V"⟩
abbrev cX3_yearsRun : ByteArray := prog_1_method_26_code
def yX3_yearsRun : MethodName := ⟨RX3, "yearsRun", "(LProfitsOffice$Policy;)I"⟩
abbrev cX3_findGeneration : ByteArray := prog_1_method_27_code
def yX3_findGeneration : MethodName := ⟨RX3, "findGeneration", "(II)LProfitsOffice$Generation;"⟩
abbrev cX3_joinGeneration : ByteArray := prog_1_method_28_code
def yX3_joinGeneration : MethodName := ⟨RX3, "joinGeneration", "(II)LProfitsOffice$Generation;"⟩
abbrev cX3_ratioIn : ByteArray := prog_1_method_29_code
def yX3_ratioIn : MethodName := ⟨RX3, "ratioIn", "([JI)J"⟩
abbrev cX3_growGenerations : ByteArray := prog_1_method_30_code
def yX3_growGenerations : MethodName := ⟨RX3, "growGenerations", "(I)V"⟩
abbrev cX3_growPoliciesAlone : ByteArray := prog_1_method_31_code
def yX3_growPoliciesAlone : MethodName := ⟨RX3, "growPoliciesAlone", "(I)V"⟩
abbrev cX3_giveBonuses : ByteArray := prog_1_method_32_code
def yX3_giveBonuses : MethodName := ⟨RX3, "giveBonuses", "()V"⟩
abbrev cX3_maturePolicies : ByteArray := prog_1_method_33_code
def yX3_maturePolicies : MethodName := ⟨RX3, "maturePolicies", "()I"⟩
abbrev cX3_mature : ByteArray := prog_1_method_34_code
def yX3_mature : MethodName := ⟨RX3, "mature", "(LProfitsOffice$Policy;)V"⟩
abbrev cX3_smooth : ByteArray := prog_1_method_35_code
def yX3_smooth : MethodName := ⟨RX3, "smooth", "(JJ)J"⟩
abbrev cX3_surrenderWorth : ByteArray := prog_1_method_36_code
def yX3_surrenderWorth : MethodName := ⟨RX3, "surrenderWorth", "(LProfitsOffice$Policy;)J"⟩
abbrev cX3_close : ByteArray := prog_1_method_37_code
def yX3_close : MethodName := ⟨RX3, "close", "(LProfitsOffice$Policy;IJ)V"⟩
abbrev cX3_thousandths : ByteArray := prog_1_method_38_code
def yX3_thousandths : MethodName := ⟨RX3, "thousandths", "(JJ)J"⟩
abbrev cX3_parted : ByteArray := prog_1_method_39_code
def yX3_parted : MethodName := ⟨RX3, "parted", "(JJ)J"⟩
def RX4 : String := "ProfitsOfficeModel"
def TX4 : u_T := fun k => match k with
  | 0 => ("ProfitsOfficeModel", "year", "I", false)
  | 1 => ("ProfitsOfficeModel", "bonusRate", "I", false)
  | 2 => ("ProfitsOfficeModel", "charge", "I", false)
  | 3 => ("ProfitsOfficeModel", "scale", "I", false)
  | 4 => ("ProfitsOfficeModel", "step", "I", false)
  | 5 => ("ProfitsOfficeModel", "floor", "I", false)
  | 6 => ("ProfitsOfficeModel", "policies", "I", false)
  | 7 => ("ProfitsOfficeModel", "begins", "[I", true)
  | 8 => ("ProfitsOfficeModel", "terms", "[I", true)
  | 9 => ("ProfitsOfficeModel", "premiums", "[I", true)
  | 10 => ("ProfitsOfficeModel", "sums", "[I", true)
  | 11 => ("ProfitsOfficeModel", "states", "[I", true)
  | 12 => ("ProfitsOfficeModel", "given", "[I", true)
  | 13 => ("ProfitsOfficeModel", "paids", "[I", true)
  | 14 => ("ProfitsOfficeModel", "alones", "[J", true)
  | 15 => ("ProfitsOfficeModel", "shares", "[J", true)
  | 16 => ("ProfitsOfficeModel", "ratios", "[I", true)
  | 17 => ("ProfitsOfficeModel", "nexts", "[I", true)
  | 18 => ("ProfitsOfficeModel", "estate", "J", false)
  | 19 => ("ProfitsOfficeModel", "assets", "J", false)
  | _ => ("ProfitsOfficeModel", "thrown", "I", false)
def tyX4 : Nat → FieldType := fun k => match k with
  | 0 => .int
  | 1 => .int
  | 2 => .int
  | 3 => .int
  | 4 => .int
  | 5 => .int
  | 6 => .int
  | 7 => .array .int
  | 8 => .array .int
  | 9 => .array .int
  | 10 => .array .int
  | 11 => .array .int
  | 12 => .array .int
  | 13 => .array .int
  | 14 => .array .long
  | 15 => .array .long
  | 16 => .array .int
  | 17 => .array .int
  | 18 => .long
  | 19 => .long
  | _ => .int
abbrev wsX40 : List Cond := u_ws RX4 TX4 21
theorem nmX4 : ∀ a, a < 21 → ∀ b, b < 21 → a ≠ b → (TX4 a).2.1 ≠ (TX4 b).2.1 := by decide +kernel
theorem tyX4_ok : ∀ k, k < 21 → parseFieldDescriptor (TX4 k).2.2.1 = some (tyX4 k) := by decide +kernel
abbrev cX4_init : ByteArray := prog_6_method_1_code
def yX4_init : MethodName := ⟨RX4, "<init>", "()V"⟩
abbrev cX4_thrown : ByteArray := prog_6_method_2_code
def yX4_thrown : MethodName := ⟨RX4, "thrown", "()I"⟩
abbrev cX4_in : ByteArray := prog_6_method_4_code
def yX4_in : MethodName := ⟨RX4, "in", "(III)Z"⟩
abbrev cX4_isPolicy : ByteArray := prog_6_method_5_code
def yX4_isPolicy : MethodName := ⟨RX4, "isPolicy", "(I)Z"⟩
abbrev cX4_part : ByteArray := prog_6_method_6_code
def yX4_part : MethodName := ⟨RX4, "part", "(JJ)J"⟩
abbrev cX4_firstOf : ByteArray := prog_6_method_7_code
def yX4_firstOf : MethodName := ⟨RX4, "firstOf", "(II)I"⟩
abbrev cX4_home : ByteArray := prog_6_method_8_code
def yX4_home : MethodName := ⟨RX4, "home", "(I)I"⟩
abbrev cX4_premiumsOf : ByteArray := prog_6_method_9_code
def yX4_premiumsOf : MethodName := ⟨RX4, "premiumsOf", "(II)J"⟩
abbrev cX4_share : ByteArray := prog_6_method_10_code
def yX4_share : MethodName := ⟨RX4, "share", "(I)J"⟩
abbrev cX4_leaves : ByteArray := prog_6_method_11_code
def yX4_leaves : MethodName := ⟨RX4, "leaves", "(IIJI)V"⟩
abbrev cX4_begin : ByteArray := prog_6_method_12_code
def yX4_begin : MethodName := ⟨RX4, "begin", "(III)I"⟩
abbrev cX4_worthOf : ByteArray := prog_6_method_13_code
def yX4_worthOf : MethodName := ⟨RX4, "worthOf", "(I)J"⟩
abbrev cX4_canLeave : ByteArray := prog_6_method_14_code
def yX4_canLeave : MethodName := ⟨RX4, "canLeave", "(I)Z"⟩
abbrev cX4_surrender : ByteArray := prog_6_method_15_code
def yX4_surrender : MethodName := ⟨RX4, "surrender", "(I)I"⟩
abbrev cX4_setRates : ByteArray := prog_6_method_16_code
def yX4_setRates : MethodName := ⟨RX4, "setRates", "(II)I"⟩
abbrev cX4_setScale : ByteArray := prog_6_method_17_code
def yX4_setScale : MethodName := ⟨RX4, "setScale", "(III)I"⟩
abbrev cX4_endow : ByteArray := prog_6_method_18_code
def yX4_endow : MethodName := ⟨RX4, "endow", "(I)J"⟩
abbrev cX4_grows : ByteArray := prog_6_method_19_code
def yX4_grows : MethodName := ⟨RX4, "grows", "(I)V"⟩
abbrev cX4_grants : ByteArray := prog_6_method_20_code
def yX4_grants : MethodName := ⟨RX4, "grants", "(I)V"⟩
abbrev cX4_matures : ByteArray := prog_6_method_21_code
def yX4_matures : MethodName := ⟨RX4, "matures", "(I)V"⟩
abbrev cX4_run : ByteArray := prog_6_method_22_code
def yX4_run : MethodName := ⟨RX4, "run", "(I)I"⟩
abbrev cX4_year : ByteArray := prog_6_method_23_code
def yX4_year : MethodName := ⟨RX4, "year", "()I"⟩
abbrev cX4_policies : ByteArray := prog_6_method_24_code
def yX4_policies : MethodName := ⟨RX4, "policies", "()I"⟩
abbrev cX4_stateOf : ByteArray := prog_6_method_25_code
def yX4_stateOf : MethodName := ⟨RX4, "stateOf", "(I)I"⟩
abbrev cX4_bonuses : ByteArray := prog_6_method_26_code
def yX4_bonuses : MethodName := ⟨RX4, "bonuses", "(I)I"⟩
abbrev cX4_shareOf : ByteArray := prog_6_method_27_code
def yX4_shareOf : MethodName := ⟨RX4, "shareOf", "(I)I"⟩
abbrev cX4_shareAlone : ByteArray := prog_6_method_28_code
def yX4_shareAlone : MethodName := ⟨RX4, "shareAlone", "(I)I"⟩
abbrev cX4_generation : ByteArray := prog_6_method_29_code
def yX4_generation : MethodName := ⟨RX4, "generation", "(II)I"⟩
abbrev cX4_paid : ByteArray := prog_6_method_30_code
def yX4_paid : MethodName := ⟨RX4, "paid", "(I)I"⟩
abbrev cX4_worth : ByteArray := prog_6_method_31_code
def yX4_worth : MethodName := ⟨RX4, "worth", "(I)I"⟩
abbrev cX4_lastRatio : ByteArray := prog_6_method_32_code
def yX4_lastRatio : MethodName := ⟨RX4, "lastRatio", "(I)I"⟩
abbrev cX4_estate : ByteArray := prog_6_method_33_code
def yX4_estate : MethodName := ⟨RX4, "estate", "()J"⟩
abbrev cX4_sharesAndEstate : ByteArray := prog_6_method_34_code
def yX4_sharesAndEstate : MethodName := ⟨RX4, "sharesAndEstate", "()J"⟩
abbrev cX4_assets : ByteArray := prog_6_method_35_code
def yX4_assets : MethodName := ⟨RX4, "assets", "()J"⟩
abbrev cX4_shortfall : ByteArray := prog_6_method_36_code
def yX4_shortfall : MethodName := ⟨RX4, "shortfall", "()I"⟩
def RJ9 : String := "java/lang/Math"
def TJ9 : u_T := fun k => match k with
  | _ => ("", "", "", false)
def tyJ9 : Nat → FieldType := fun k => match k with
  | _ => .int
abbrev wsJ90 : List Cond := u_ws RJ9 TJ9 0
theorem nmJ9 : ∀ a, a < 0 → ∀ b, b < 0 → a ≠ b → (TJ9 a).2.1 ≠ (TJ9 b).2.1 := by decide +kernel
theorem tyJ9_ok : ∀ k, k < 0 → parseFieldDescriptor (TJ9 k).2.2.1 = some (tyJ9 k) := by decide +kernel
abbrev cJ9_floorDiv_f86c9 : ByteArray := prog_11_method_49_code
def yJ9_floorDiv_f86c9 : MethodName := ⟨RJ9, "floorDiv", "(JJ)J"⟩
abbrev cJ9_max_f86c9 : ByteArray := prog_11_method_66_code
def yJ9_max_f86c9 : MethodName := ⟨RJ9, "max", "(JJ)J"⟩
abbrev cJ9_min_f86c9 : ByteArray := prog_11_method_70_code
def yJ9_min_f86c9 : MethodName := ⟨RJ9, "min", "(JJ)J"⟩
def RJ0 : String := "java/lang/String"
def TJ0 : u_T := fun k => match k with
  | _ => ("", "", "", false)
def tyJ0 : Nat → FieldType := fun k => match k with
  | _ => .int
abbrev wsJ00 : List Cond := u_ws RJ0 TJ0 0
theorem nmJ0 : ∀ a, a < 0 → ∀ b, b < 0 → a ≠ b → (TJ0 a).2.1 ≠ (TJ0 b).2.1 := by decide +kernel
theorem tyJ0_ok : ∀ k, k < 0 → parseFieldDescriptor (TJ0 k).2.2.1 = some (tyJ0 k) := by decide +kernel
def RL : String := "ProfitsOfficeLaw"
abbrev cL_begin : ByteArray := method_3_code
def yL_begin : MethodName := ⟨RL, "begin", "(LProfitsOffice;III[J)I"⟩
abbrev cL_surrender : ByteArray := method_4_code
def yL_surrender : MethodName := ⟨RL, "surrender", "(LProfitsOffice;I[J)I"⟩
abbrev cL_setRates : ByteArray := method_5_code
def yL_setRates : MethodName := ⟨RL, "setRates", "(LProfitsOffice;II[J)I"⟩
abbrev cL_setScale : ByteArray := method_6_code
def yL_setScale : MethodName := ⟨RL, "setScale", "(LProfitsOffice;III[J)I"⟩
abbrev cL_endow : ByteArray := method_7_code
def yL_endow : MethodName := ⟨RL, "endow", "(LProfitsOffice;I[J)I"⟩
abbrev cL_run : ByteArray := method_8_code
def yL_run : MethodName := ⟨RL, "run", "(LProfitsOffice;I[J)I"⟩
abbrev cL_stateOf : ByteArray := method_9_code
def yL_stateOf : MethodName := ⟨RL, "stateOf", "(LProfitsOffice;I[J)I"⟩
abbrev cL_bonuses : ByteArray := method_10_code
def yL_bonuses : MethodName := ⟨RL, "bonuses", "(LProfitsOffice;I[J)I"⟩
abbrev cL_shareOf : ByteArray := method_11_code
def yL_shareOf : MethodName := ⟨RL, "shareOf", "(LProfitsOffice;I[J)I"⟩
abbrev cL_shareAlone : ByteArray := method_12_code
def yL_shareAlone : MethodName := ⟨RL, "shareAlone", "(LProfitsOffice;I[J)I"⟩
abbrev cL_generation : ByteArray := method_13_code
def yL_generation : MethodName := ⟨RL, "generation", "(LProfitsOffice;II[J)I"⟩
abbrev cL_paid : ByteArray := method_14_code
def yL_paid : MethodName := ⟨RL, "paid", "(LProfitsOffice;I[J)I"⟩
abbrev cL_worth : ByteArray := method_15_code
def yL_worth : MethodName := ⟨RL, "worth", "(LProfitsOffice;I[J)I"⟩
abbrev cL_lastRatio : ByteArray := method_16_code
def yL_lastRatio : MethodName := ⟨RL, "lastRatio", "(LProfitsOffice;I[J)I"⟩
abbrev cL_law : ByteArray := code
def yL_law : MethodName := ⟨RL, "law", "([I)Z"⟩
abbrev vwCl : List vw_C := [(RX0, TX0, 1), (RX1, TX1, 4), (RX2, TX2, 7), (RX3, TX3, 14), (RX4, TX4, 21)]
end
section
theorem dX0_init_0 : decode cX0_init 0 = .ok (.aload_n 0, 1) := by decide +kernel
theorem dX0_init_1 : decode cX0_init 1 = .ok (.invokespecial 1, 3) := by decide +kernel
theorem dX0_init_4 : decode cX0_init 4 = .ok (.return_, 1) := by decide +kernel
theorem dX0_earn_0 : decode cX0_earn 0 = .ok (.aload_n 0, 1) := by decide +kernel
theorem dX0_earn_1 : decode cX0_earn 1 = .ok (.getfield 7, 3) := by decide +kernel
theorem dX0_earn_4 : decode cX0_earn 4 = .ok (.iload_n 1, 1) := by decide +kernel
theorem dX0_earn_5 : decode cX0_earn 5 = .ok (.i2l, 1) := by decide +kernel
theorem dX0_earn_6 : decode cX0_earn 6 = .ok (.invokestatic 13, 3) := by decide +kernel
theorem dX0_earn_9 : decode cX0_earn 9 = .ok (.lstore_n 2, 1) := by decide +kernel
theorem dX0_earn_10 : decode cX0_earn 10 = .ok (.aload_n 0, 1) := by decide +kernel
theorem dX0_earn_11 : decode cX0_earn 11 = .ok (.dup, 1) := by decide +kernel
theorem dX0_earn_12 : decode cX0_earn 12 = .ok (.getfield 7, 3) := by decide +kernel
theorem dX0_earn_15 : decode cX0_earn 15 = .ok (.lload_n 2, 1) := by decide +kernel
theorem dX0_earn_16 : decode cX0_earn 16 = .ok (.ladd, 1) := by decide +kernel
theorem dX0_earn_17 : decode cX0_earn 17 = .ok (.putfield 7, 3) := by decide +kernel
theorem dX0_earn_20 : decode cX0_earn 20 = .ok (.lload_n 2, 1) := by decide +kernel
theorem dX0_earn_21 : decode cX0_earn 21 = .ok (.lreturn, 1) := by decide +kernel
theorem dX0_takeCharge_0 : decode cX0_takeCharge 0 = .ok (.aload_n 0, 1) := by decide +kernel
theorem dX0_takeCharge_1 : decode cX0_takeCharge 1 = .ok (.getfield 7, 3) := by decide +kernel
theorem dX0_takeCharge_4 : decode cX0_takeCharge 4 = .ok (.lconst 0, 1) := by decide +kernel
theorem dX0_takeCharge_5 : decode cX0_takeCharge 5 = .ok (.lcmp, 1) := by decide +kernel
theorem dX0_takeCharge_6 : decode cX0_takeCharge 6 = .ok (.ifCond .le 15, 3) := by decide +kernel
theorem dX0_takeCharge_9 : decode cX0_takeCharge 9 = .ok (.aload_n 0, 1) := by decide +kernel
theorem dX0_takeCharge_10 : decode cX0_takeCharge 10 = .ok (.getfield 7, 3) := by decide +kernel
theorem dX0_takeCharge_13 : decode cX0_takeCharge 13 = .ok (.iload_n 1, 1) := by decide +kernel
theorem dX0_takeCharge_14 : decode cX0_takeCharge 14 = .ok (.i2l, 1) := by decide +kernel
theorem dX0_takeCharge_15 : decode cX0_takeCharge 15 = .ok (.invokestatic 13, 3) := by decide +kernel
theorem dX0_takeCharge_18 : decode cX0_takeCharge 18 = .ok (.goto 4, 3) := by decide +kernel
theorem dX0_takeCharge_21 : decode cX0_takeCharge 21 = .ok (.lconst 0, 1) := by decide +kernel
theorem dX0_takeCharge_22 : decode cX0_takeCharge 22 = .ok (.lstore_n 2, 1) := by decide +kernel
theorem dX0_takeCharge_23 : decode cX0_takeCharge 23 = .ok (.aload_n 0, 1) := by decide +kernel
theorem dX0_takeCharge_24 : decode cX0_takeCharge 24 = .ok (.dup, 1) := by decide +kernel
theorem dX0_takeCharge_25 : decode cX0_takeCharge 25 = .ok (.getfield 7, 3) := by decide +kernel
theorem dX0_takeCharge_28 : decode cX0_takeCharge 28 = .ok (.lload_n 2, 1) := by decide +kernel
theorem dX0_takeCharge_29 : decode cX0_takeCharge 29 = .ok (.lsub, 1) := by decide +kernel
theorem dX0_takeCharge_30 : decode cX0_takeCharge 30 = .ok (.putfield 7, 3) := by decide +kernel
theorem dX0_takeCharge_33 : decode cX0_takeCharge 33 = .ok (.lload_n 2, 1) := by decide +kernel
theorem dX0_takeCharge_34 : decode cX0_takeCharge 34 = .ok (.lreturn, 1) := by decide +kernel
theorem dX1_init_0 : decode cX1_init 0 = .ok (.aload_n 0, 1) := by decide +kernel
theorem dX1_init_1 : decode cX1_init 1 = .ok (.invokespecial 1, 3) := by decide +kernel
theorem dX1_init_4 : decode cX1_init 4 = .ok (.aload_n 0, 1) := by decide +kernel
theorem dX1_init_5 : decode cX1_init 5 = .ok (.iload_n 1, 1) := by decide +kernel
theorem dX1_init_6 : decode cX1_init 6 = .ok (.putfield 7, 3) := by decide +kernel
theorem dX1_init_9 : decode cX1_init 9 = .ok (.aload_n 0, 1) := by decide +kernel
theorem dX1_init_10 : decode cX1_init 10 = .ok (.iload_n 2, 1) := by decide +kernel
theorem dX1_init_11 : decode cX1_init 11 = .ok (.putfield 13, 3) := by decide +kernel
theorem dX1_init_14 : decode cX1_init 14 = .ok (.aload_n 0, 1) := by decide +kernel
theorem dX1_init_15 : decode cX1_init 15 = .ok (.new 16, 3) := by decide +kernel
theorem dX1_init_18 : decode cX1_init 18 = .ok (.dup, 1) := by decide +kernel
theorem dX1_init_19 : decode cX1_init 19 = .ok (.invokespecial 18, 3) := by decide +kernel
theorem dX1_init_22 : decode cX1_init 22 = .ok (.putfield 19, 3) := by decide +kernel
theorem dX1_init_25 : decode cX1_init 25 = .ok (.return_, 1) := by decide +kernel
theorem dX1_shareFor_0 : decode cX1_shareFor 0 = .ok (.aload_n 0, 1) := by decide +kernel
theorem dX1_shareFor_1 : decode cX1_shareFor 1 = .ok (.getfield 19, 3) := by decide +kernel
theorem dX1_shareFor_4 : decode cX1_shareFor 4 = .ok (.getfield 23, 3) := by decide +kernel
theorem dX1_shareFor_7 : decode cX1_shareFor 7 = .ok (.iload_n 1, 1) := by decide +kernel
theorem dX1_shareFor_8 : decode cX1_shareFor 8 = .ok (.i2l, 1) := by decide +kernel
theorem dX1_shareFor_9 : decode cX1_shareFor 9 = .ok (.lmul, 1) := by decide +kernel
theorem dX1_shareFor_10 : decode cX1_shareFor 10 = .ok (.aload_n 0, 1) := by decide +kernel
theorem dX1_shareFor_11 : decode cX1_shareFor 11 = .ok (.getfield 27, 3) := by decide +kernel
theorem dX1_shareFor_14 : decode cX1_shareFor 14 = .ok (.invokestatic 30, 3) := by decide +kernel
theorem dX1_shareFor_17 : decode cX1_shareFor 17 = .ok (.lreturn, 1) := by decide +kernel
theorem dX1_release_0 : decode cX1_release 0 = .ok (.aload_n 0, 1) := by decide +kernel
theorem dX1_release_1 : decode cX1_release 1 = .ok (.iload_n 1, 1) := by decide +kernel
theorem dX1_release_2 : decode cX1_release 2 = .ok (.invokevirtual 36, 3) := by decide +kernel
theorem dX1_release_5 : decode cX1_release 5 = .ok (.lstore_n 2, 1) := by decide +kernel
theorem dX1_release_6 : decode cX1_release 6 = .ok (.aload_n 0, 1) := by decide +kernel
theorem dX1_release_7 : decode cX1_release 7 = .ok (.dup, 1) := by decide +kernel
theorem dX1_release_8 : decode cX1_release 8 = .ok (.getfield 27, 3) := by decide +kernel
theorem dX1_release_11 : decode cX1_release 11 = .ok (.iload_n 1, 1) := by decide +kernel
theorem dX1_release_12 : decode cX1_release 12 = .ok (.i2l, 1) := by decide +kernel
theorem dX1_release_13 : decode cX1_release 13 = .ok (.lsub, 1) := by decide +kernel
theorem dX1_release_14 : decode cX1_release 14 = .ok (.putfield 27, 3) := by decide +kernel
theorem dX1_release_17 : decode cX1_release 17 = .ok (.aload_n 0, 1) := by decide +kernel
theorem dX1_release_18 : decode cX1_release 18 = .ok (.getfield 27, 3) := by decide +kernel
theorem dX1_release_21 : decode cX1_release 21 = .ok (.lconst 0, 1) := by decide +kernel
theorem dX1_release_22 : decode cX1_release 22 = .ok (.lcmp, 1) := by decide +kernel
theorem dX1_release_23 : decode cX1_release 23 = .ok (.ifCond .gt 11, 3) := by decide +kernel
theorem dX1_release_26 : decode cX1_release 26 = .ok (.aload_n 0, 1) := by decide +kernel
theorem dX1_release_27 : decode cX1_release 27 = .ok (.getfield 19, 3) := by decide +kernel
theorem dX1_release_30 : decode cX1_release 30 = .ok (.getfield 23, 3) := by decide +kernel
theorem dX1_release_33 : decode cX1_release 33 = .ok (.lstore_n 2, 1) := by decide +kernel
theorem dX1_release_34 : decode cX1_release 34 = .ok (.aload_n 0, 1) := by decide +kernel
theorem dX1_release_35 : decode cX1_release 35 = .ok (.getfield 19, 3) := by decide +kernel
theorem dX1_release_38 : decode cX1_release 38 = .ok (.dup, 1) := by decide +kernel
theorem dX1_release_39 : decode cX1_release 39 = .ok (.getfield 23, 3) := by decide +kernel
theorem dX1_release_42 : decode cX1_release 42 = .ok (.lload_n 2, 1) := by decide +kernel
theorem dX1_release_43 : decode cX1_release 43 = .ok (.lsub, 1) := by decide +kernel
theorem dX1_release_44 : decode cX1_release 44 = .ok (.putfield 23, 3) := by decide +kernel
theorem dX1_release_47 : decode cX1_release 47 = .ok (.lload_n 2, 1) := by decide +kernel
theorem dX1_release_48 : decode cX1_release 48 = .ok (.lreturn, 1) := by decide +kernel
theorem dX2_init_0 : decode cX2_init 0 = .ok (.aload_n 0, 1) := by decide +kernel
theorem dX2_init_1 : decode cX2_init 1 = .ok (.invokespecial 3, 3) := by decide +kernel
theorem dX2_init_4 : decode cX2_init 4 = .ok (.aload_n 0, 1) := by decide +kernel
theorem dX2_init_5 : decode cX2_init 5 = .ok (.aload_n 1, 1) := by decide +kernel
theorem dX2_init_6 : decode cX2_init 6 = .ok (.putfield 9, 3) := by decide +kernel
theorem dX2_init_9 : decode cX2_init 9 = .ok (.aload_n 0, 1) := by decide +kernel
theorem dX2_init_10 : decode cX2_init 10 = .ok (.iload_n 2, 1) := by decide +kernel
theorem dX2_init_11 : decode cX2_init 11 = .ok (.putfield 15, 3) := by decide +kernel
theorem dX2_init_14 : decode cX2_init 14 = .ok (.aload_n 0, 1) := by decide +kernel
theorem dX2_init_15 : decode cX2_init 15 = .ok (.iload_n 3, 1) := by decide +kernel
theorem dX2_init_16 : decode cX2_init 16 = .ok (.putfield 19, 3) := by decide +kernel
theorem dX2_init_19 : decode cX2_init 19 = .ok (.aload_n 0, 1) := by decide +kernel
theorem dX2_init_20 : decode cX2_init 20 = .ok (.new 22, 3) := by decide +kernel
theorem dX2_init_23 : decode cX2_init 23 = .ok (.dup, 1) := by decide +kernel
theorem dX2_init_24 : decode cX2_init 24 = .ok (.invokespecial 24, 3) := by decide +kernel
theorem dX2_init_27 : decode cX2_init 27 = .ok (.putfield 25, 3) := by decide +kernel
theorem dX2_init_30 : decode cX2_init 30 = .ok (.aload_n 0, 1) := by decide +kernel
theorem dX2_init_31 : decode cX2_init 31 = .ok (.iconst 0, 1) := by decide +kernel
theorem dX2_init_32 : decode cX2_init 32 = .ok (.putfield 29, 3) := by decide +kernel
theorem dX2_init_35 : decode cX2_init 35 = .ok (.aload_n 0, 1) := by decide +kernel
theorem dX2_init_36 : decode cX2_init 36 = .ok (.ldc2_w 32, 3) := by decide +kernel
theorem dX2_init_39 : decode cX2_init 39 = .ok (.putfield 34, 3) := by decide +kernel
theorem dX2_init_42 : decode cX2_init 42 = .ok (.return_, 1) := by decide +kernel
theorem dX2_isInForce_0 : decode cX2_isInForce 0 = .ok (.aload_n 0, 1) := by decide +kernel
theorem dX2_isInForce_1 : decode cX2_isInForce 1 = .ok (.getfield 29, 3) := by decide +kernel
theorem dX2_isInForce_4 : decode cX2_isInForce 4 = .ok (.ifCond .ne 7, 3) := by decide +kernel
theorem dX2_isInForce_7 : decode cX2_isInForce 7 = .ok (.iconst 1, 1) := by decide +kernel
theorem dX2_isInForce_8 : decode cX2_isInForce 8 = .ok (.goto 4, 3) := by decide +kernel
theorem dX2_isInForce_11 : decode cX2_isInForce 11 = .ok (.iconst 0, 1) := by decide +kernel
theorem dX2_isInForce_12 : decode cX2_isInForce 12 = .ok (.ireturn, 1) := by decide +kernel
theorem dX2_guaranteed_0 : decode cX2_guaranteed 0 = .ok (.aload_n 0, 1) := by decide +kernel
theorem dX2_guaranteed_1 : decode cX2_guaranteed 1 = .ok (.getfield 19, 3) := by decide +kernel
theorem dX2_guaranteed_4 : decode cX2_guaranteed 4 = .ok (.i2l, 1) := by decide +kernel
theorem dX2_guaranteed_5 : decode cX2_guaranteed 5 = .ok (.aload_n 0, 1) := by decide +kernel
theorem dX2_guaranteed_6 : decode cX2_guaranteed 6 = .ok (.getfield 38, 3) := by decide +kernel
theorem dX2_guaranteed_9 : decode cX2_guaranteed 9 = .ok (.ladd, 1) := by decide +kernel
theorem dX2_guaranteed_10 : decode cX2_guaranteed 10 = .ok (.lreturn, 1) := by decide +kernel
theorem dX2_assetShare_0 : decode cX2_assetShare 0 = .ok (.aload_n 0, 1) := by decide +kernel
theorem dX2_assetShare_1 : decode cX2_assetShare 1 = .ok (.invokevirtual 41, 3) := by decide +kernel
theorem dX2_assetShare_4 : decode cX2_assetShare 4 = .ok (.ifCond .eq 17, 3) := by decide +kernel
theorem dX2_assetShare_7 : decode cX2_assetShare 7 = .ok (.aload_n 0, 1) := by decide +kernel
theorem dX2_assetShare_8 : decode cX2_assetShare 8 = .ok (.getfield 9, 3) := by decide +kernel
theorem dX2_assetShare_11 : decode cX2_assetShare 11 = .ok (.aload_n 0, 1) := by decide +kernel
theorem dX2_assetShare_12 : decode cX2_assetShare 12 = .ok (.getfield 15, 3) := by decide +kernel
theorem dX2_assetShare_15 : decode cX2_assetShare 15 = .ok (.invokevirtual 45, 3) := by decide +kernel
theorem dX2_assetShare_18 : decode cX2_assetShare 18 = .ok (.goto 4, 3) := by decide +kernel
theorem dX2_assetShare_21 : decode cX2_assetShare 21 = .ok (.lconst 0, 1) := by decide +kernel
theorem dX2_assetShare_22 : decode cX2_assetShare 22 = .ok (.lreturn, 1) := by decide +kernel
theorem dX3_init_0 : decode cX3_init 0 = .ok (.aload_n 0, 1) := by decide +kernel
theorem dX3_init_1 : decode cX3_init 1 = .ok (.invokespecial 1, 3) := by decide +kernel
theorem dX3_init_4 : decode cX3_init 4 = .ok (.aload_n 0, 1) := by decide +kernel
theorem dX3_init_5 : decode cX3_init 5 = .ok (.bipush 30, 2) := by decide +kernel
theorem dX3_init_7 : decode cX3_init 7 = .ok (.anewarray 9, 3) := by decide +kernel
theorem dX3_init_10 : decode cX3_init 10 = .ok (.putfield 11, 3) := by decide +kernel
theorem dX3_init_13 : decode cX3_init 13 = .ok (.aload_n 0, 1) := by decide +kernel
theorem dX3_init_14 : decode cX3_init 14 = .ok (.bipush 30, 2) := by decide +kernel
theorem dX3_init_16 : decode cX3_init 16 = .ok (.anewarray 15, 3) := by decide +kernel
theorem dX3_init_19 : decode cX3_init 19 = .ok (.putfield 17, 3) := by decide +kernel
theorem dX3_init_22 : decode cX3_init 22 = .ok (.aload_n 0, 1) := by decide +kernel
theorem dX3_init_23 : decode cX3_init 23 = .ok (.bipush 21, 2) := by decide +kernel
theorem dX3_init_25 : decode cX3_init 25 = .ok (.newarray .long, 2) := by decide +kernel
theorem dX3_init_27 : decode cX3_init 27 = .ok (.putfield 21, 3) := by decide +kernel
theorem dX3_init_30 : decode cX3_init 30 = .ok (.aload_n 0, 1) := by decide +kernel
theorem dX3_init_31 : decode cX3_init 31 = .ok (.bipush 21, 2) := by decide +kernel
theorem dX3_init_33 : decode cX3_init 33 = .ok (.newarray .long, 2) := by decide +kernel
theorem dX3_init_35 : decode cX3_init 35 = .ok (.putfield 25, 3) := by decide +kernel
theorem dX3_init_38 : decode cX3_init 38 = .ok (.iconst 0, 1) := by decide +kernel
theorem dX3_init_39 : decode cX3_init 39 = .ok (.istore_n 1, 1) := by decide +kernel
theorem dX3_init_40 : decode cX3_init 40 = .ok (.iload_n 1, 1) := by decide +kernel
theorem dX3_init_41 : decode cX3_init 41 = .ok (.aload_n 0, 1) := by decide +kernel
theorem dX3_init_42 : decode cX3_init 42 = .ok (.getfield 21, 3) := by decide +kernel
theorem dX3_init_45 : decode cX3_init 45 = .ok (.arraylength, 1) := by decide +kernel
theorem dX3_init_46 : decode cX3_init 46 = .ok (.if_icmp .ge 18, 3) := by decide +kernel
theorem dX3_init_49 : decode cX3_init 49 = .ok (.aload_n 0, 1) := by decide +kernel
theorem dX3_init_50 : decode cX3_init 50 = .ok (.getfield 21, 3) := by decide +kernel
theorem dX3_init_53 : decode cX3_init 53 = .ok (.iload_n 1, 1) := by decide +kernel
theorem dX3_init_54 : decode cX3_init 54 = .ok (.ldc2_w 28, 3) := by decide +kernel
theorem dX3_init_57 : decode cX3_init 57 = .ok (.lastore, 1) := by decide +kernel
theorem dX3_init_58 : decode cX3_init 58 = .ok (.iinc 1 1, 3) := by decide +kernel
theorem dX3_init_61 : decode cX3_init 61 = .ok (.goto (-21), 3) := by decide +kernel
theorem dX3_init_64 : decode cX3_init 64 = .ok (.aload_n 0, 1) := by decide +kernel
theorem dX3_init_65 : decode cX3_init 65 = .ok (.bipush 20, 2) := by decide +kernel
theorem dX3_init_67 : decode cX3_init 67 = .ok (.putfield 30, 3) := by decide +kernel
theorem dX3_init_70 : decode cX3_init 70 = .ok (.aload_n 0, 1) := by decide +kernel
theorem dX3_init_71 : decode cX3_init 71 = .ok (.iconst 5, 1) := by decide +kernel
theorem dX3_init_72 : decode cX3_init 72 = .ok (.putfield 34, 3) := by decide +kernel
theorem dX3_init_75 : decode cX3_init 75 = .ok (.aload_n 0, 1) := by decide +kernel
theorem dX3_init_76 : decode cX3_init 76 = .ok (.sipush 1000, 3) := by decide +kernel
theorem dX3_init_79 : decode cX3_init 79 = .ok (.putfield 37, 3) := by decide +kernel
theorem dX3_init_82 : decode cX3_init 82 = .ok (.aload_n 0, 1) := by decide +kernel
theorem dX3_init_83 : decode cX3_init 83 = .ok (.bipush 100, 2) := by decide +kernel
theorem dX3_init_85 : decode cX3_init 85 = .ok (.putfield 40, 3) := by decide +kernel
theorem dX3_init_88 : decode cX3_init 88 = .ok (.aload_n 0, 1) := by decide +kernel
theorem dX3_init_89 : decode cX3_init 89 = .ok (.sipush 500, 3) := by decide +kernel
theorem dX3_init_92 : decode cX3_init 92 = .ok (.putfield 43, 3) := by decide +kernel
theorem dX3_init_95 : decode cX3_init 95 = .ok (.return_, 1) := by decide +kernel
theorem dX3_begin_0 : decode cX3_begin 0 = .ok (.iload_n 1, 1) := by decide +kernel
theorem dX3_begin_1 : decode cX3_begin 1 = .ok (.invokestatic 46, 3) := by decide +kernel
theorem dX3_begin_4 : decode cX3_begin 4 = .ok (.ifCond .eq 24, 3) := by decide +kernel
theorem dX3_begin_7 : decode cX3_begin 7 = .ok (.iload_n 2, 1) := by decide +kernel
theorem dX3_begin_8 : decode cX3_begin 8 = .ok (.iconst 1, 1) := by decide +kernel
theorem dX3_begin_9 : decode cX3_begin 9 = .ok (.sipush 1000, 3) := by decide +kernel
theorem dX3_begin_12 : decode cX3_begin 12 = .ok (.invokestatic 50, 3) := by decide +kernel
theorem dX3_begin_15 : decode cX3_begin 15 = .ok (.ifCond .eq 13, 3) := by decide +kernel
theorem dX3_begin_18 : decode cX3_begin 18 = .ok (.iload_n 3, 1) := by decide +kernel
theorem dX3_begin_19 : decode cX3_begin 19 = .ok (.iconst 0, 1) := by decide +kernel
theorem dX3_begin_20 : decode cX3_begin 20 = .ok (.ldc 54, 2) := by decide +kernel
theorem dX3_begin_22 : decode cX3_begin 22 = .ok (.invokestatic 50, 3) := by decide +kernel
theorem dX3_begin_25 : decode cX3_begin 25 = .ok (.ifCond .ne 13, 3) := by decide +kernel
theorem dX3_begin_28 : decode cX3_begin 28 = .ok (.new 55, 3) := by decide +kernel
theorem dX3_begin_31 : decode cX3_begin 31 = .ok (.dup, 1) := by decide +kernel
theorem dX3_begin_32 : decode cX3_begin 32 = .ok (.ldc 57, 2) := by decide +kernel
theorem dX3_begin_34 : decode cX3_begin 34 = .ok (.invokespecial 59, 3) := by decide +kernel
theorem dX3_begin_37 : decode cX3_begin 37 = .ok (.athrow, 1) := by decide +kernel
theorem dX3_begin_38 : decode cX3_begin 38 = .ok (.aload_n 0, 1) := by decide +kernel
theorem dX3_begin_39 : decode cX3_begin 39 = .ok (.getfield 62, 3) := by decide +kernel
theorem dX3_begin_42 : decode cX3_begin 42 = .ok (.istore 4, 2) := by decide +kernel
theorem dX3_begin_44 : decode cX3_begin 44 = .ok (.iload 4, 2) := by decide +kernel
theorem dX3_begin_46 : decode cX3_begin 46 = .ok (.ifCond .lt 13, 3) := by decide +kernel
theorem dX3_begin_49 : decode cX3_begin 49 = .ok (.iload 4, 2) := by decide +kernel
theorem dX3_begin_51 : decode cX3_begin 51 = .ok (.aload_n 0, 1) := by decide +kernel
theorem dX3_begin_52 : decode cX3_begin 52 = .ok (.getfield 11, 3) := by decide +kernel
theorem dX3_begin_55 : decode cX3_begin 55 = .ok (.arraylength, 1) := by decide +kernel
theorem dX3_begin_56 : decode cX3_begin 56 = .ok (.if_icmp .lt 13, 3) := by decide +kernel
theorem dX3_begin_59 : decode cX3_begin 59 = .ok (.new 65, 3) := by decide +kernel
theorem dX3_begin_62 : decode cX3_begin 62 = .ok (.dup, 1) := by decide +kernel
theorem dX3_begin_63 : decode cX3_begin 63 = .ok (.ldc 67, 2) := by decide +kernel
theorem dX3_begin_65 : decode cX3_begin 65 = .ok (.invokespecial 69, 3) := by decide +kernel
theorem dX3_begin_68 : decode cX3_begin 68 = .ok (.athrow, 1) := by decide +kernel
theorem dX3_begin_69 : decode cX3_begin 69 = .ok (.aload_n 0, 1) := by decide +kernel
theorem dX3_begin_70 : decode cX3_begin 70 = .ok (.getfield 11, 3) := by decide +kernel
theorem dX3_begin_73 : decode cX3_begin 73 = .ok (.iload 4, 2) := by decide +kernel
theorem dX3_begin_75 : decode cX3_begin 75 = .ok (.new 9, 3) := by decide +kernel
theorem dX3_begin_78 : decode cX3_begin 78 = .ok (.dup, 1) := by decide +kernel
theorem dX3_begin_79 : decode cX3_begin 79 = .ok (.aload_n 0, 1) := by decide +kernel
theorem dX3_begin_80 : decode cX3_begin 80 = .ok (.iload_n 1, 1) := by decide +kernel
theorem dX3_begin_81 : decode cX3_begin 81 = .ok (.iload_n 2, 1) := by decide +kernel
theorem dX3_begin_82 : decode cX3_begin 82 = .ok (.invokevirtual 70, 3) := by decide +kernel
theorem dX3_begin_85 : decode cX3_begin 85 = .ok (.iload_n 2, 1) := by decide +kernel
theorem dX3_begin_86 : decode cX3_begin 86 = .ok (.iload_n 3, 1) := by decide +kernel
theorem dX3_begin_87 : decode cX3_begin 87 = .ok (.invokespecial 74, 3) := by decide +kernel
theorem dX3_begin_90 : decode cX3_begin 90 = .ok (.aastore, 1) := by decide +kernel
theorem dX3_begin_91 : decode cX3_begin 91 = .ok (.aload_n 0, 1) := by decide +kernel
theorem dX3_begin_92 : decode cX3_begin 92 = .ok (.iload 4, 2) := by decide +kernel
theorem dX3_begin_94 : decode cX3_begin 94 = .ok (.iconst 1, 1) := by decide +kernel
theorem dX3_begin_95 : decode cX3_begin 95 = .ok (.iadd, 1) := by decide +kernel
theorem dX3_begin_96 : decode cX3_begin 96 = .ok (.putfield 62, 3) := by decide +kernel
theorem dX3_begin_99 : decode cX3_begin 99 = .ok (.iload 4, 2) := by decide +kernel
theorem dX3_begin_101 : decode cX3_begin 101 = .ok (.ireturn, 1) := by decide +kernel
theorem dX3_surrender_0 : decode cX3_surrender 0 = .ok (.aload_n 0, 1) := by decide +kernel
theorem dX3_surrender_1 : decode cX3_surrender 1 = .ok (.iload_n 1, 1) := by decide +kernel
theorem dX3_surrender_2 : decode cX3_surrender 2 = .ok (.invokevirtual 77, 3) := by decide +kernel
theorem dX3_surrender_5 : decode cX3_surrender 5 = .ok (.astore_n 2, 1) := by decide +kernel
theorem dX3_surrender_6 : decode cX3_surrender 6 = .ok (.aload_n 0, 1) := by decide +kernel
theorem dX3_surrender_7 : decode cX3_surrender 7 = .ok (.aload_n 2, 1) := by decide +kernel
theorem dX3_surrender_8 : decode cX3_surrender 8 = .ok (.invokevirtual 81, 3) := by decide +kernel
theorem dX3_surrender_11 : decode cX3_surrender 11 = .ok (.aload_n 0, 1) := by decide +kernel
theorem dX3_surrender_12 : decode cX3_surrender 12 = .ok (.aload_n 2, 1) := by decide +kernel
theorem dX3_surrender_13 : decode cX3_surrender 13 = .ok (.invokevirtual 85, 3) := by decide +kernel
theorem dX3_surrender_16 : decode cX3_surrender 16 = .ok (.lstore_n 3, 1) := by decide +kernel
theorem dX3_surrender_17 : decode cX3_surrender 17 = .ok (.aload_n 0, 1) := by decide +kernel
theorem dX3_surrender_18 : decode cX3_surrender 18 = .ok (.aload_n 2, 1) := by decide +kernel
theorem dX3_surrender_19 : decode cX3_surrender 19 = .ok (.iconst 2, 1) := by decide +kernel
theorem dX3_surrender_20 : decode cX3_surrender 20 = .ok (.lload_n 3, 1) := by decide +kernel
theorem dX3_surrender_21 : decode cX3_surrender 21 = .ok (.invokevirtual 89, 3) := by decide +kernel
theorem dX3_surrender_24 : decode cX3_surrender 24 = .ok (.lload_n 3, 1) := by decide +kernel
theorem dX3_surrender_25 : decode cX3_surrender 25 = .ok (.l2i, 1) := by decide +kernel
theorem dX3_surrender_26 : decode cX3_surrender 26 = .ok (.ireturn, 1) := by decide +kernel
theorem dX3_setRates_0 : decode cX3_setRates 0 = .ok (.iload_n 1, 1) := by decide +kernel
theorem dX3_setRates_1 : decode cX3_setRates 1 = .ok (.iconst 0, 1) := by decide +kernel
theorem dX3_setRates_2 : decode cX3_setRates 2 = .ok (.sipush 200, 3) := by decide +kernel
theorem dX3_setRates_5 : decode cX3_setRates 5 = .ok (.invokestatic 50, 3) := by decide +kernel
theorem dX3_setRates_8 : decode cX3_setRates 8 = .ok (.ifCond .eq 13, 3) := by decide +kernel
theorem dX3_setRates_11 : decode cX3_setRates 11 = .ok (.iload_n 2, 1) := by decide +kernel
theorem dX3_setRates_12 : decode cX3_setRates 12 = .ok (.iconst 0, 1) := by decide +kernel
theorem dX3_setRates_13 : decode cX3_setRates 13 = .ok (.bipush 100, 2) := by decide +kernel
theorem dX3_setRates_15 : decode cX3_setRates 15 = .ok (.invokestatic 50, 3) := by decide +kernel
theorem dX3_setRates_18 : decode cX3_setRates 18 = .ok (.ifCond .ne 13, 3) := by decide +kernel
theorem dX3_setRates_21 : decode cX3_setRates 21 = .ok (.new 55, 3) := by decide +kernel
theorem dX3_setRates_24 : decode cX3_setRates 24 = .ok (.dup, 1) := by decide +kernel
theorem dX3_setRates_25 : decode cX3_setRates 25 = .ok (.ldc 93, 2) := by decide +kernel
theorem dX3_setRates_27 : decode cX3_setRates 27 = .ok (.invokespecial 59, 3) := by decide +kernel
theorem dX3_setRates_30 : decode cX3_setRates 30 = .ok (.athrow, 1) := by decide +kernel
theorem dX3_setRates_31 : decode cX3_setRates 31 = .ok (.aload_n 0, 1) := by decide +kernel
theorem dX3_setRates_32 : decode cX3_setRates 32 = .ok (.getfield 30, 3) := by decide +kernel
theorem dX3_setRates_35 : decode cX3_setRates 35 = .ok (.istore_n 3, 1) := by decide +kernel
theorem dX3_setRates_36 : decode cX3_setRates 36 = .ok (.aload_n 0, 1) := by decide +kernel
theorem dX3_setRates_37 : decode cX3_setRates 37 = .ok (.iload_n 1, 1) := by decide +kernel
theorem dX3_setRates_38 : decode cX3_setRates 38 = .ok (.putfield 30, 3) := by decide +kernel
theorem dX3_setRates_41 : decode cX3_setRates 41 = .ok (.aload_n 0, 1) := by decide +kernel
theorem dX3_setRates_42 : decode cX3_setRates 42 = .ok (.iload_n 2, 1) := by decide +kernel
theorem dX3_setRates_43 : decode cX3_setRates 43 = .ok (.putfield 34, 3) := by decide +kernel
theorem dX3_setRates_46 : decode cX3_setRates 46 = .ok (.iload_n 3, 1) := by decide +kernel
theorem dX3_setRates_47 : decode cX3_setRates 47 = .ok (.ireturn, 1) := by decide +kernel
theorem dX3_setScale_0 : decode cX3_setScale 0 = .ok (.iload_n 1, 1) := by decide +kernel
theorem dX3_setScale_1 : decode cX3_setScale 1 = .ok (.sipush 500, 3) := by decide +kernel
theorem dX3_setScale_4 : decode cX3_setScale 4 = .ok (.sipush 1500, 3) := by decide +kernel
theorem dX3_setScale_7 : decode cX3_setScale 7 = .ok (.invokestatic 50, 3) := by decide +kernel
theorem dX3_setScale_10 : decode cX3_setScale 10 = .ok (.ifCond .eq 25, 3) := by decide +kernel
theorem dX3_setScale_13 : decode cX3_setScale 13 = .ok (.iload_n 2, 1) := by decide +kernel
theorem dX3_setScale_14 : decode cX3_setScale 14 = .ok (.iconst 0, 1) := by decide +kernel
theorem dX3_setScale_15 : decode cX3_setScale 15 = .ok (.sipush 1000, 3) := by decide +kernel
theorem dX3_setScale_18 : decode cX3_setScale 18 = .ok (.invokestatic 50, 3) := by decide +kernel
theorem dX3_setScale_21 : decode cX3_setScale 21 = .ok (.ifCond .eq 14, 3) := by decide +kernel
theorem dX3_setScale_24 : decode cX3_setScale 24 = .ok (.iload_n 3, 1) := by decide +kernel
theorem dX3_setScale_25 : decode cX3_setScale 25 = .ok (.iconst 0, 1) := by decide +kernel
theorem dX3_setScale_26 : decode cX3_setScale 26 = .ok (.sipush 1000, 3) := by decide +kernel
theorem dX3_setScale_29 : decode cX3_setScale 29 = .ok (.invokestatic 50, 3) := by decide +kernel
theorem dX3_setScale_32 : decode cX3_setScale 32 = .ok (.ifCond .ne 13, 3) := by decide +kernel
theorem dX3_setScale_35 : decode cX3_setScale 35 = .ok (.new 55, 3) := by decide +kernel
theorem dX3_setScale_38 : decode cX3_setScale 38 = .ok (.dup, 1) := by decide +kernel
theorem dX3_setScale_39 : decode cX3_setScale 39 = .ok (.ldc 95, 2) := by decide +kernel
theorem dX3_setScale_41 : decode cX3_setScale 41 = .ok (.invokespecial 59, 3) := by decide +kernel
theorem dX3_setScale_44 : decode cX3_setScale 44 = .ok (.athrow, 1) := by decide +kernel
theorem dX3_setScale_45 : decode cX3_setScale 45 = .ok (.aload_n 0, 1) := by decide +kernel
theorem dX3_setScale_46 : decode cX3_setScale 46 = .ok (.getfield 37, 3) := by decide +kernel
theorem dX3_setScale_49 : decode cX3_setScale 49 = .ok (.istore 4, 2) := by decide +kernel
theorem dX3_setScale_51 : decode cX3_setScale 51 = .ok (.aload_n 0, 1) := by decide +kernel
theorem dX3_setScale_52 : decode cX3_setScale 52 = .ok (.iload_n 1, 1) := by decide +kernel
theorem dX3_setScale_53 : decode cX3_setScale 53 = .ok (.putfield 37, 3) := by decide +kernel
theorem dX3_setScale_56 : decode cX3_setScale 56 = .ok (.aload_n 0, 1) := by decide +kernel
theorem dX3_setScale_57 : decode cX3_setScale 57 = .ok (.iload_n 2, 1) := by decide +kernel
theorem dX3_setScale_58 : decode cX3_setScale 58 = .ok (.putfield 40, 3) := by decide +kernel
theorem dX3_setScale_61 : decode cX3_setScale 61 = .ok (.aload_n 0, 1) := by decide +kernel
theorem dX3_setScale_62 : decode cX3_setScale 62 = .ok (.iload_n 3, 1) := by decide +kernel
theorem dX3_setScale_63 : decode cX3_setScale 63 = .ok (.putfield 43, 3) := by decide +kernel
theorem dX3_setScale_66 : decode cX3_setScale 66 = .ok (.iload 4, 2) := by decide +kernel
theorem dX3_setScale_68 : decode cX3_setScale 68 = .ok (.ireturn, 1) := by decide +kernel
theorem dX3_endow_0 : decode cX3_endow 0 = .ok (.iload_n 1, 1) := by decide +kernel
theorem dX3_endow_1 : decode cX3_endow 1 = .ok (.ldc 97, 2) := by decide +kernel
theorem dX3_endow_3 : decode cX3_endow 3 = .ok (.ldc 98, 2) := by decide +kernel
theorem dX3_endow_5 : decode cX3_endow 5 = .ok (.invokestatic 50, 3) := by decide +kernel
theorem dX3_endow_8 : decode cX3_endow 8 = .ok (.ifCond .ne 13, 3) := by decide +kernel
theorem dX3_endow_11 : decode cX3_endow 11 = .ok (.new 55, 3) := by decide +kernel
theorem dX3_endow_14 : decode cX3_endow 14 = .ok (.dup, 1) := by decide +kernel
theorem dX3_endow_15 : decode cX3_endow 15 = .ok (.ldc 99, 2) := by decide +kernel
theorem dX3_endow_17 : decode cX3_endow 17 = .ok (.invokespecial 59, 3) := by decide +kernel
theorem dX3_endow_20 : decode cX3_endow 20 = .ok (.athrow, 1) := by decide +kernel
theorem dX3_endow_21 : decode cX3_endow 21 = .ok (.aload_n 0, 1) := by decide +kernel
theorem dX3_endow_22 : decode cX3_endow 22 = .ok (.dup, 1) := by decide +kernel
theorem dX3_endow_23 : decode cX3_endow 23 = .ok (.getfield 101, 3) := by decide +kernel
theorem dX3_endow_26 : decode cX3_endow 26 = .ok (.iload_n 1, 1) := by decide +kernel
theorem dX3_endow_27 : decode cX3_endow 27 = .ok (.i2l, 1) := by decide +kernel
theorem dX3_endow_28 : decode cX3_endow 28 = .ok (.ladd, 1) := by decide +kernel
theorem dX3_endow_29 : decode cX3_endow 29 = .ok (.putfield 101, 3) := by decide +kernel
theorem dX3_endow_32 : decode cX3_endow 32 = .ok (.aload_n 0, 1) := by decide +kernel
theorem dX3_endow_33 : decode cX3_endow 33 = .ok (.dup, 1) := by decide +kernel
theorem dX3_endow_34 : decode cX3_endow 34 = .ok (.getfield 105, 3) := by decide +kernel
theorem dX3_endow_37 : decode cX3_endow 37 = .ok (.iload_n 1, 1) := by decide +kernel
theorem dX3_endow_38 : decode cX3_endow 38 = .ok (.i2l, 1) := by decide +kernel
theorem dX3_endow_39 : decode cX3_endow 39 = .ok (.ladd, 1) := by decide +kernel
theorem dX3_endow_40 : decode cX3_endow 40 = .ok (.putfield 105, 3) := by decide +kernel
theorem dX3_endow_43 : decode cX3_endow 43 = .ok (.aload_n 0, 1) := by decide +kernel
theorem dX3_endow_44 : decode cX3_endow 44 = .ok (.getfield 101, 3) := by decide +kernel
theorem dX3_endow_47 : decode cX3_endow 47 = .ok (.lreturn, 1) := by decide +kernel
theorem dX3_run_0 : decode cX3_run 0 = .ok (.iload_n 1, 1) := by decide +kernel
theorem dX3_run_1 : decode cX3_run 1 = .ok (.sipush (-200), 3) := by decide +kernel
theorem dX3_run_4 : decode cX3_run 4 = .ok (.sipush 200, 3) := by decide +kernel
theorem dX3_run_7 : decode cX3_run 7 = .ok (.invokestatic 50, 3) := by decide +kernel
theorem dX3_run_10 : decode cX3_run 10 = .ok (.ifCond .ne 13, 3) := by decide +kernel
theorem dX3_run_13 : decode cX3_run 13 = .ok (.new 55, 3) := by decide +kernel
theorem dX3_run_16 : decode cX3_run 16 = .ok (.dup, 1) := by decide +kernel
theorem dX3_run_17 : decode cX3_run 17 = .ok (.ldc 108, 2) := by decide +kernel
theorem dX3_run_19 : decode cX3_run 19 = .ok (.invokespecial 59, 3) := by decide +kernel
theorem dX3_run_22 : decode cX3_run 22 = .ok (.athrow, 1) := by decide +kernel
theorem dX3_run_23 : decode cX3_run 23 = .ok (.aload_n 0, 1) := by decide +kernel
theorem dX3_run_24 : decode cX3_run 24 = .ok (.getfield 110, 3) := by decide +kernel
theorem dX3_run_27 : decode cX3_run 27 = .ok (.bipush 40, 2) := by decide +kernel
theorem dX3_run_29 : decode cX3_run 29 = .ok (.if_icmp .lt 13, 3) := by decide +kernel
theorem dX3_run_32 : decode cX3_run 32 = .ok (.new 65, 3) := by decide +kernel
theorem dX3_run_35 : decode cX3_run 35 = .ok (.dup, 1) := by decide +kernel
theorem dX3_run_36 : decode cX3_run 36 = .ok (.ldc 113, 2) := by decide +kernel
theorem dX3_run_38 : decode cX3_run 38 = .ok (.invokespecial 69, 3) := by decide +kernel
theorem dX3_run_41 : decode cX3_run 41 = .ok (.athrow, 1) := by decide +kernel
theorem dX3_run_42 : decode cX3_run 42 = .ok (.aload_n 0, 1) := by decide +kernel
theorem dX3_run_43 : decode cX3_run 43 = .ok (.getfield 101, 3) := by decide +kernel
theorem dX3_run_46 : decode cX3_run 46 = .ok (.iload_n 1, 1) := by decide +kernel
theorem dX3_run_47 : decode cX3_run 47 = .ok (.i2l, 1) := by decide +kernel
theorem dX3_run_48 : decode cX3_run 48 = .ok (.invokestatic 115, 3) := by decide +kernel
theorem dX3_run_51 : decode cX3_run 51 = .ok (.lstore_n 2, 1) := by decide +kernel
theorem dX3_run_52 : decode cX3_run 52 = .ok (.aload_n 0, 1) := by decide +kernel
theorem dX3_run_53 : decode cX3_run 53 = .ok (.iload_n 1, 1) := by decide +kernel
theorem dX3_run_54 : decode cX3_run 54 = .ok (.invokevirtual 119, 3) := by decide +kernel
theorem dX3_run_57 : decode cX3_run 57 = .ok (.aload_n 0, 1) := by decide +kernel
theorem dX3_run_58 : decode cX3_run 58 = .ok (.dup, 1) := by decide +kernel
theorem dX3_run_59 : decode cX3_run 59 = .ok (.getfield 101, 3) := by decide +kernel
theorem dX3_run_62 : decode cX3_run 62 = .ok (.lload_n 2, 1) := by decide +kernel
theorem dX3_run_63 : decode cX3_run 63 = .ok (.ladd, 1) := by decide +kernel
theorem dX3_run_64 : decode cX3_run 64 = .ok (.putfield 101, 3) := by decide +kernel
theorem dX3_run_67 : decode cX3_run 67 = .ok (.aload_n 0, 1) := by decide +kernel
theorem dX3_run_68 : decode cX3_run 68 = .ok (.dup, 1) := by decide +kernel
theorem dX3_run_69 : decode cX3_run 69 = .ok (.getfield 105, 3) := by decide +kernel
theorem dX3_run_72 : decode cX3_run 72 = .ok (.lload_n 2, 1) := by decide +kernel
theorem dX3_run_73 : decode cX3_run 73 = .ok (.ladd, 1) := by decide +kernel
theorem dX3_run_74 : decode cX3_run 74 = .ok (.putfield 105, 3) := by decide +kernel
theorem dX3_run_77 : decode cX3_run 77 = .ok (.aload_n 0, 1) := by decide +kernel
theorem dX3_run_78 : decode cX3_run 78 = .ok (.iload_n 1, 1) := by decide +kernel
theorem dX3_run_79 : decode cX3_run 79 = .ok (.invokevirtual 123, 3) := by decide +kernel
theorem dX3_run_82 : decode cX3_run 82 = .ok (.aload_n 0, 1) := by decide +kernel
theorem dX3_run_83 : decode cX3_run 83 = .ok (.invokevirtual 126, 3) := by decide +kernel
theorem dX3_run_86 : decode cX3_run 86 = .ok (.aload_n 0, 1) := by decide +kernel
theorem dX3_run_87 : decode cX3_run 87 = .ok (.invokevirtual 129, 3) := by decide +kernel
theorem dX3_run_90 : decode cX3_run 90 = .ok (.istore 4, 2) := by decide +kernel
theorem dX3_run_92 : decode cX3_run 92 = .ok (.aload_n 0, 1) := by decide +kernel
theorem dX3_run_93 : decode cX3_run 93 = .ok (.dup, 1) := by decide +kernel
theorem dX3_run_94 : decode cX3_run 94 = .ok (.getfield 110, 3) := by decide +kernel
theorem dX3_run_97 : decode cX3_run 97 = .ok (.iconst 1, 1) := by decide +kernel
theorem dX3_run_98 : decode cX3_run 98 = .ok (.iadd, 1) := by decide +kernel
theorem dX3_run_99 : decode cX3_run 99 = .ok (.putfield 110, 3) := by decide +kernel
theorem dX3_run_102 : decode cX3_run 102 = .ok (.iload 4, 2) := by decide +kernel
theorem dX3_run_104 : decode cX3_run 104 = .ok (.ireturn, 1) := by decide +kernel
theorem dX3_year_0 : decode cX3_year 0 = .ok (.aload_n 0, 1) := by decide +kernel
theorem dX3_year_1 : decode cX3_year 1 = .ok (.getfield 110, 3) := by decide +kernel
theorem dX3_year_4 : decode cX3_year 4 = .ok (.ireturn, 1) := by decide +kernel
theorem dX3_policies_0 : decode cX3_policies 0 = .ok (.aload_n 0, 1) := by decide +kernel
theorem dX3_policies_1 : decode cX3_policies 1 = .ok (.getfield 62, 3) := by decide +kernel
theorem dX3_policies_4 : decode cX3_policies 4 = .ok (.ireturn, 1) := by decide +kernel
theorem dX3_stateOf_0 : decode cX3_stateOf 0 = .ok (.aload_n 0, 1) := by decide +kernel
theorem dX3_stateOf_1 : decode cX3_stateOf 1 = .ok (.iload_n 1, 1) := by decide +kernel
theorem dX3_stateOf_2 : decode cX3_stateOf 2 = .ok (.invokevirtual 77, 3) := by decide +kernel
theorem dX3_stateOf_5 : decode cX3_stateOf 5 = .ok (.getfield 133, 3) := by decide +kernel
theorem dX3_stateOf_8 : decode cX3_stateOf 8 = .ok (.ireturn, 1) := by decide +kernel
theorem dX3_bonuses_0 : decode cX3_bonuses 0 = .ok (.aload_n 0, 1) := by decide +kernel
theorem dX3_bonuses_1 : decode cX3_bonuses 1 = .ok (.iload_n 1, 1) := by decide +kernel
theorem dX3_bonuses_2 : decode cX3_bonuses 2 = .ok (.invokevirtual 77, 3) := by decide +kernel
theorem dX3_bonuses_5 : decode cX3_bonuses 5 = .ok (.getfield 136, 3) := by decide +kernel
theorem dX3_bonuses_8 : decode cX3_bonuses 8 = .ok (.l2i, 1) := by decide +kernel
theorem dX3_bonuses_9 : decode cX3_bonuses 9 = .ok (.ireturn, 1) := by decide +kernel
theorem dX3_shareOf_0 : decode cX3_shareOf 0 = .ok (.aload_n 0, 1) := by decide +kernel
theorem dX3_shareOf_1 : decode cX3_shareOf 1 = .ok (.iload_n 1, 1) := by decide +kernel
theorem dX3_shareOf_2 : decode cX3_shareOf 2 = .ok (.invokevirtual 77, 3) := by decide +kernel
theorem dX3_shareOf_5 : decode cX3_shareOf 5 = .ok (.invokevirtual 139, 3) := by decide +kernel
theorem dX3_shareOf_8 : decode cX3_shareOf 8 = .ok (.l2i, 1) := by decide +kernel
theorem dX3_shareOf_9 : decode cX3_shareOf 9 = .ok (.ireturn, 1) := by decide +kernel
theorem dX3_shareAlone_0 : decode cX3_shareAlone 0 = .ok (.aload_n 0, 1) := by decide +kernel
theorem dX3_shareAlone_1 : decode cX3_shareAlone 1 = .ok (.iload_n 1, 1) := by decide +kernel
theorem dX3_shareAlone_2 : decode cX3_shareAlone 2 = .ok (.invokevirtual 77, 3) := by decide +kernel
theorem dX3_shareAlone_5 : decode cX3_shareAlone 5 = .ok (.astore_n 2, 1) := by decide +kernel
theorem dX3_shareAlone_6 : decode cX3_shareAlone 6 = .ok (.aload_n 2, 1) := by decide +kernel
theorem dX3_shareAlone_7 : decode cX3_shareAlone 7 = .ok (.invokevirtual 143, 3) := by decide +kernel
theorem dX3_shareAlone_10 : decode cX3_shareAlone 10 = .ok (.ifCond .eq 14, 3) := by decide +kernel
theorem dX3_shareAlone_13 : decode cX3_shareAlone 13 = .ok (.aload_n 2, 1) := by decide +kernel
theorem dX3_shareAlone_14 : decode cX3_shareAlone 14 = .ok (.getfield 147, 3) := by decide +kernel
theorem dX3_shareAlone_17 : decode cX3_shareAlone 17 = .ok (.getfield 151, 3) := by decide +kernel
theorem dX3_shareAlone_20 : decode cX3_shareAlone 20 = .ok (.l2i, 1) := by decide +kernel
theorem dX3_shareAlone_21 : decode cX3_shareAlone 21 = .ok (.goto 4, 3) := by decide +kernel
theorem dX3_shareAlone_24 : decode cX3_shareAlone 24 = .ok (.iconst 0, 1) := by decide +kernel
theorem dX3_shareAlone_25 : decode cX3_shareAlone 25 = .ok (.ireturn, 1) := by decide +kernel
theorem dX3_generation_0 : decode cX3_generation 0 = .ok (.iload_n 1, 1) := by decide +kernel
theorem dX3_generation_1 : decode cX3_generation 1 = .ok (.iconst 0, 1) := by decide +kernel
theorem dX3_generation_2 : decode cX3_generation 2 = .ok (.bipush 40, 2) := by decide +kernel
theorem dX3_generation_4 : decode cX3_generation 4 = .ok (.invokestatic 50, 3) := by decide +kernel
theorem dX3_generation_7 : decode cX3_generation 7 = .ok (.ifCond .eq 10, 3) := by decide +kernel
theorem dX3_generation_10 : decode cX3_generation 10 = .ok (.iload_n 2, 1) := by decide +kernel
theorem dX3_generation_11 : decode cX3_generation 11 = .ok (.invokestatic 46, 3) := by decide +kernel
theorem dX3_generation_14 : decode cX3_generation 14 = .ok (.ifCond .ne 13, 3) := by decide +kernel
theorem dX3_generation_17 : decode cX3_generation 17 = .ok (.new 55, 3) := by decide +kernel
theorem dX3_generation_20 : decode cX3_generation 20 = .ok (.dup, 1) := by decide +kernel
theorem dX3_generation_21 : decode cX3_generation 21 = .ok (.ldc 156, 2) := by decide +kernel
theorem dX3_generation_23 : decode cX3_generation 23 = .ok (.invokespecial 59, 3) := by decide +kernel
theorem dX3_generation_26 : decode cX3_generation 26 = .ok (.athrow, 1) := by decide +kernel
theorem dX3_generation_27 : decode cX3_generation 27 = .ok (.aload_n 0, 1) := by decide +kernel
theorem dX3_generation_28 : decode cX3_generation 28 = .ok (.iload_n 1, 1) := by decide +kernel
theorem dX3_generation_29 : decode cX3_generation 29 = .ok (.iload_n 2, 1) := by decide +kernel
theorem dX3_generation_30 : decode cX3_generation 30 = .ok (.invokevirtual 158, 3) := by decide +kernel
theorem dX3_generation_33 : decode cX3_generation 33 = .ok (.astore_n 3, 1) := by decide +kernel
theorem dX3_generation_34 : decode cX3_generation 34 = .ok (.aload_n 3, 1) := by decide +kernel
theorem dX3_generation_35 : decode cX3_generation 35 = .ok (.ifnonnull 7, 3) := by decide +kernel
theorem dX3_generation_38 : decode cX3_generation 38 = .ok (.iconst 0, 1) := by decide +kernel
theorem dX3_generation_39 : decode cX3_generation 39 = .ok (.goto 11, 3) := by decide +kernel
theorem dX3_generation_42 : decode cX3_generation 42 = .ok (.aload_n 3, 1) := by decide +kernel
theorem dX3_generation_43 : decode cX3_generation 43 = .ok (.getfield 161, 3) := by decide +kernel
theorem dX3_generation_46 : decode cX3_generation 46 = .ok (.getfield 151, 3) := by decide +kernel
theorem dX3_generation_49 : decode cX3_generation 49 = .ok (.l2i, 1) := by decide +kernel
theorem dX3_generation_50 : decode cX3_generation 50 = .ok (.ireturn, 1) := by decide +kernel
theorem dX3_paid_0 : decode cX3_paid 0 = .ok (.aload_n 0, 1) := by decide +kernel
theorem dX3_paid_1 : decode cX3_paid 1 = .ok (.iload_n 1, 1) := by decide +kernel
theorem dX3_paid_2 : decode cX3_paid 2 = .ok (.invokevirtual 77, 3) := by decide +kernel
theorem dX3_paid_5 : decode cX3_paid 5 = .ok (.getfield 164, 3) := by decide +kernel
theorem dX3_paid_8 : decode cX3_paid 8 = .ok (.l2i, 1) := by decide +kernel
theorem dX3_paid_9 : decode cX3_paid 9 = .ok (.ireturn, 1) := by decide +kernel
theorem dX3_worth_0 : decode cX3_worth 0 = .ok (.aload_n 0, 1) := by decide +kernel
theorem dX3_worth_1 : decode cX3_worth 1 = .ok (.iload_n 1, 1) := by decide +kernel
theorem dX3_worth_2 : decode cX3_worth 2 = .ok (.invokevirtual 77, 3) := by decide +kernel
theorem dX3_worth_5 : decode cX3_worth 5 = .ok (.astore_n 2, 1) := by decide +kernel
theorem dX3_worth_6 : decode cX3_worth 6 = .ok (.aload_n 0, 1) := by decide +kernel
theorem dX3_worth_7 : decode cX3_worth 7 = .ok (.aload_n 2, 1) := by decide +kernel
theorem dX3_worth_8 : decode cX3_worth 8 = .ok (.invokevirtual 81, 3) := by decide +kernel
theorem dX3_worth_11 : decode cX3_worth 11 = .ok (.aload_n 0, 1) := by decide +kernel
theorem dX3_worth_12 : decode cX3_worth 12 = .ok (.aload_n 2, 1) := by decide +kernel
theorem dX3_worth_13 : decode cX3_worth 13 = .ok (.invokevirtual 85, 3) := by decide +kernel
theorem dX3_worth_16 : decode cX3_worth 16 = .ok (.l2i, 1) := by decide +kernel
theorem dX3_worth_17 : decode cX3_worth 17 = .ok (.ireturn, 1) := by decide +kernel
theorem dX3_lastRatio_0 : decode cX3_lastRatio 0 = .ok (.iload_n 1, 1) := by decide +kernel
theorem dX3_lastRatio_1 : decode cX3_lastRatio 1 = .ok (.invokestatic 46, 3) := by decide +kernel
theorem dX3_lastRatio_4 : decode cX3_lastRatio 4 = .ok (.ifCond .ne 13, 3) := by decide +kernel
theorem dX3_lastRatio_7 : decode cX3_lastRatio 7 = .ok (.new 55, 3) := by decide +kernel
theorem dX3_lastRatio_10 : decode cX3_lastRatio 10 = .ok (.dup, 1) := by decide +kernel
theorem dX3_lastRatio_11 : decode cX3_lastRatio 11 = .ok (.ldc 167, 2) := by decide +kernel
theorem dX3_lastRatio_13 : decode cX3_lastRatio 13 = .ok (.invokespecial 59, 3) := by decide +kernel
theorem dX3_lastRatio_16 : decode cX3_lastRatio 16 = .ok (.athrow, 1) := by decide +kernel
theorem dX3_lastRatio_17 : decode cX3_lastRatio 17 = .ok (.aload_n 0, 1) := by decide +kernel
theorem dX3_lastRatio_18 : decode cX3_lastRatio 18 = .ok (.getfield 21, 3) := by decide +kernel
theorem dX3_lastRatio_21 : decode cX3_lastRatio 21 = .ok (.iload_n 1, 1) := by decide +kernel
theorem dX3_lastRatio_22 : decode cX3_lastRatio 22 = .ok (.invokestatic 169, 3) := by decide +kernel
theorem dX3_lastRatio_25 : decode cX3_lastRatio 25 = .ok (.l2i, 1) := by decide +kernel
theorem dX3_lastRatio_26 : decode cX3_lastRatio 26 = .ok (.ireturn, 1) := by decide +kernel
theorem dX3_estate_0 : decode cX3_estate 0 = .ok (.aload_n 0, 1) := by decide +kernel
theorem dX3_estate_1 : decode cX3_estate 1 = .ok (.getfield 101, 3) := by decide +kernel
theorem dX3_estate_4 : decode cX3_estate 4 = .ok (.lreturn, 1) := by decide +kernel
theorem dX3_sharesAndEstate_0 : decode cX3_sharesAndEstate 0 = .ok (.aload_n 0, 1) := by decide +kernel
theorem dX3_sharesAndEstate_1 : decode cX3_sharesAndEstate 1 = .ok (.getfield 101, 3) := by decide +kernel
theorem dX3_sharesAndEstate_4 : decode cX3_sharesAndEstate 4 = .ok (.lstore_n 1, 1) := by decide +kernel
theorem dX3_sharesAndEstate_5 : decode cX3_sharesAndEstate 5 = .ok (.iconst 0, 1) := by decide +kernel
theorem dX3_sharesAndEstate_6 : decode cX3_sharesAndEstate 6 = .ok (.istore_n 3, 1) := by decide +kernel
theorem dX3_sharesAndEstate_7 : decode cX3_sharesAndEstate 7 = .ok (.iload_n 3, 1) := by decide +kernel
theorem dX3_sharesAndEstate_8 : decode cX3_sharesAndEstate 8 = .ok (.aload_n 0, 1) := by decide +kernel
theorem dX3_sharesAndEstate_9 : decode cX3_sharesAndEstate 9 = .ok (.getfield 17, 3) := by decide +kernel
theorem dX3_sharesAndEstate_12 : decode cX3_sharesAndEstate 12 = .ok (.arraylength, 1) := by decide +kernel
theorem dX3_sharesAndEstate_13 : decode cX3_sharesAndEstate 13 = .ok (.if_icmp .ge 33, 3) := by decide +kernel
theorem dX3_sharesAndEstate_16 : decode cX3_sharesAndEstate 16 = .ok (.aload_n 0, 1) := by decide +kernel
theorem dX3_sharesAndEstate_17 : decode cX3_sharesAndEstate 17 = .ok (.getfield 17, 3) := by decide +kernel
theorem dX3_sharesAndEstate_20 : decode cX3_sharesAndEstate 20 = .ok (.iload_n 3, 1) := by decide +kernel
theorem dX3_sharesAndEstate_21 : decode cX3_sharesAndEstate 21 = .ok (.aaload, 1) := by decide +kernel
theorem dX3_sharesAndEstate_22 : decode cX3_sharesAndEstate 22 = .ok (.astore 4, 2) := by decide +kernel
theorem dX3_sharesAndEstate_24 : decode cX3_sharesAndEstate 24 = .ok (.aload 4, 2) := by decide +kernel
theorem dX3_sharesAndEstate_26 : decode cX3_sharesAndEstate 26 = .ok (.ifnull 14, 3) := by decide +kernel
theorem dX3_sharesAndEstate_29 : decode cX3_sharesAndEstate 29 = .ok (.lload_n 1, 1) := by decide +kernel
theorem dX3_sharesAndEstate_30 : decode cX3_sharesAndEstate 30 = .ok (.aload 4, 2) := by decide +kernel
theorem dX3_sharesAndEstate_32 : decode cX3_sharesAndEstate 32 = .ok (.getfield 161, 3) := by decide +kernel
theorem dX3_sharesAndEstate_35 : decode cX3_sharesAndEstate 35 = .ok (.getfield 151, 3) := by decide +kernel
theorem dX3_sharesAndEstate_38 : decode cX3_sharesAndEstate 38 = .ok (.ladd, 1) := by decide +kernel
theorem dX3_sharesAndEstate_39 : decode cX3_sharesAndEstate 39 = .ok (.lstore_n 1, 1) := by decide +kernel
theorem dX3_sharesAndEstate_40 : decode cX3_sharesAndEstate 40 = .ok (.iinc 3 1, 3) := by decide +kernel
theorem dX3_sharesAndEstate_43 : decode cX3_sharesAndEstate 43 = .ok (.goto (-36), 3) := by decide +kernel
theorem dX3_sharesAndEstate_46 : decode cX3_sharesAndEstate 46 = .ok (.lload_n 1, 1) := by decide +kernel
theorem dX3_sharesAndEstate_47 : decode cX3_sharesAndEstate 47 = .ok (.lreturn, 1) := by decide +kernel
theorem dX3_assets_0 : decode cX3_assets 0 = .ok (.aload_n 0, 1) := by decide +kernel
theorem dX3_assets_1 : decode cX3_assets 1 = .ok (.getfield 105, 3) := by decide +kernel
theorem dX3_assets_4 : decode cX3_assets 4 = .ok (.lreturn, 1) := by decide +kernel
theorem dX3_shortfall_0 : decode cX3_shortfall 0 = .ok (.lconst 0, 1) := by decide +kernel
theorem dX3_shortfall_1 : decode cX3_shortfall 1 = .ok (.lstore_n 1, 1) := by decide +kernel
theorem dX3_shortfall_2 : decode cX3_shortfall 2 = .ok (.iconst 0, 1) := by decide +kernel
theorem dX3_shortfall_3 : decode cX3_shortfall 3 = .ok (.istore_n 3, 1) := by decide +kernel
theorem dX3_shortfall_4 : decode cX3_shortfall 4 = .ok (.iload_n 3, 1) := by decide +kernel
theorem dX3_shortfall_5 : decode cX3_shortfall 5 = .ok (.aload_n 0, 1) := by decide +kernel
theorem dX3_shortfall_6 : decode cX3_shortfall 6 = .ok (.getfield 11, 3) := by decide +kernel
theorem dX3_shortfall_9 : decode cX3_shortfall 9 = .ok (.arraylength, 1) := by decide +kernel
theorem dX3_shortfall_10 : decode cX3_shortfall 10 = .ok (.if_icmp .ge 48, 3) := by decide +kernel
theorem dX3_shortfall_13 : decode cX3_shortfall 13 = .ok (.aload_n 0, 1) := by decide +kernel
theorem dX3_shortfall_14 : decode cX3_shortfall 14 = .ok (.getfield 11, 3) := by decide +kernel
theorem dX3_shortfall_17 : decode cX3_shortfall 17 = .ok (.iload_n 3, 1) := by decide +kernel
theorem dX3_shortfall_18 : decode cX3_shortfall 18 = .ok (.aaload, 1) := by decide +kernel
theorem dX3_shortfall_19 : decode cX3_shortfall 19 = .ok (.astore 4, 2) := by decide +kernel
theorem dX3_shortfall_21 : decode cX3_shortfall 21 = .ok (.aload 4, 2) := by decide +kernel
theorem dX3_shortfall_23 : decode cX3_shortfall 23 = .ok (.ifnull 29, 3) := by decide +kernel
theorem dX3_shortfall_26 : decode cX3_shortfall 26 = .ok (.aload 4, 2) := by decide +kernel
theorem dX3_shortfall_28 : decode cX3_shortfall 28 = .ok (.invokevirtual 143, 3) := by decide +kernel
theorem dX3_shortfall_31 : decode cX3_shortfall 31 = .ok (.ifCond .eq 21, 3) := by decide +kernel
theorem dX3_shortfall_34 : decode cX3_shortfall 34 = .ok (.lload_n 1, 1) := by decide +kernel
theorem dX3_shortfall_35 : decode cX3_shortfall 35 = .ok (.lconst 0, 1) := by decide +kernel
theorem dX3_shortfall_36 : decode cX3_shortfall 36 = .ok (.aload 4, 2) := by decide +kernel
theorem dX3_shortfall_38 : decode cX3_shortfall 38 = .ok (.invokevirtual 173, 3) := by decide +kernel
theorem dX3_shortfall_41 : decode cX3_shortfall 41 = .ok (.aload 4, 2) := by decide +kernel
theorem dX3_shortfall_43 : decode cX3_shortfall 43 = .ok (.invokevirtual 139, 3) := by decide +kernel
theorem dX3_shortfall_46 : decode cX3_shortfall 46 = .ok (.lsub, 1) := by decide +kernel
theorem dX3_shortfall_47 : decode cX3_shortfall 47 = .ok (.invokestatic 176, 3) := by decide +kernel
theorem dX3_shortfall_50 : decode cX3_shortfall 50 = .ok (.ladd, 1) := by decide +kernel
theorem dX3_shortfall_51 : decode cX3_shortfall 51 = .ok (.lstore_n 1, 1) := by decide +kernel
theorem dX3_shortfall_52 : decode cX3_shortfall 52 = .ok (.iinc 3 1, 3) := by decide +kernel
theorem dX3_shortfall_55 : decode cX3_shortfall 55 = .ok (.goto (-51), 3) := by decide +kernel
theorem dX3_shortfall_58 : decode cX3_shortfall 58 = .ok (.lload_n 1, 1) := by decide +kernel
theorem dX3_shortfall_59 : decode cX3_shortfall 59 = .ok (.l2i, 1) := by decide +kernel
theorem dX3_shortfall_60 : decode cX3_shortfall 60 = .ok (.ireturn, 1) := by decide +kernel
theorem dX3_isWithin_0 : decode cX3_isWithin 0 = .ok (.iload_n 0, 1) := by decide +kernel
theorem dX3_isWithin_1 : decode cX3_isWithin 1 = .ok (.iload_n 1, 1) := by decide +kernel
theorem dX3_isWithin_2 : decode cX3_isWithin 2 = .ok (.if_icmp .lt 12, 3) := by decide +kernel
theorem dX3_isWithin_5 : decode cX3_isWithin 5 = .ok (.iload_n 0, 1) := by decide +kernel
theorem dX3_isWithin_6 : decode cX3_isWithin 6 = .ok (.iload_n 2, 1) := by decide +kernel
theorem dX3_isWithin_7 : decode cX3_isWithin 7 = .ok (.if_icmp .gt 7, 3) := by decide +kernel
theorem dX3_isWithin_10 : decode cX3_isWithin 10 = .ok (.iconst 1, 1) := by decide +kernel
theorem dX3_isWithin_11 : decode cX3_isWithin 11 = .ok (.goto 4, 3) := by decide +kernel
theorem dX3_isWithin_14 : decode cX3_isWithin 14 = .ok (.iconst 0, 1) := by decide +kernel
theorem dX3_isWithin_15 : decode cX3_isWithin 15 = .ok (.ireturn, 1) := by decide +kernel
theorem dX3_isTerm_0 : decode cX3_isTerm 0 = .ok (.iload_n 0, 1) := by decide +kernel
theorem dX3_isTerm_1 : decode cX3_isTerm 1 = .ok (.iconst 2, 1) := by decide +kernel
theorem dX3_isTerm_2 : decode cX3_isTerm 2 = .ok (.bipush 20, 2) := by decide +kernel
theorem dX3_isTerm_4 : decode cX3_isTerm 4 = .ok (.invokestatic 50, 3) := by decide +kernel
theorem dX3_isTerm_7 : decode cX3_isTerm 7 = .ok (.ireturn, 1) := by decide +kernel
theorem dX3_knownPolicy_0 : decode cX3_knownPolicy 0 = .ok (.iload_n 1, 1) := by decide +kernel
theorem dX3_knownPolicy_1 : decode cX3_knownPolicy 1 = .ok (.ifCond .lt 12, 3) := by decide +kernel
theorem dX3_knownPolicy_4 : decode cX3_knownPolicy 4 = .ok (.iload_n 1, 1) := by decide +kernel
theorem dX3_knownPolicy_5 : decode cX3_knownPolicy 5 = .ok (.aload_n 0, 1) := by decide +kernel
theorem dX3_knownPolicy_6 : decode cX3_knownPolicy 6 = .ok (.getfield 11, 3) := by decide +kernel
theorem dX3_knownPolicy_9 : decode cX3_knownPolicy 9 = .ok (.arraylength, 1) := by decide +kernel
theorem dX3_knownPolicy_10 : decode cX3_knownPolicy 10 = .ok (.if_icmp .lt 13, 3) := by decide +kernel
theorem dX3_knownPolicy_13 : decode cX3_knownPolicy 13 = .ok (.new 181, 3) := by decide +kernel
theorem dX3_knownPolicy_16 : decode cX3_knownPolicy 16 = .ok (.dup, 1) := by decide +kernel
theorem dX3_knownPolicy_17 : decode cX3_knownPolicy 17 = .ok (.ldc 183, 2) := by decide +kernel
theorem dX3_knownPolicy_19 : decode cX3_knownPolicy 19 = .ok (.invokespecial 185, 3) := by decide +kernel
theorem dX3_knownPolicy_22 : decode cX3_knownPolicy 22 = .ok (.athrow, 1) := by decide +kernel
theorem dX3_knownPolicy_23 : decode cX3_knownPolicy 23 = .ok (.aload_n 0, 1) := by decide +kernel
theorem dX3_knownPolicy_24 : decode cX3_knownPolicy 24 = .ok (.getfield 11, 3) := by decide +kernel
theorem dX3_knownPolicy_27 : decode cX3_knownPolicy 27 = .ok (.iload_n 1, 1) := by decide +kernel
theorem dX3_knownPolicy_28 : decode cX3_knownPolicy 28 = .ok (.aaload, 1) := by decide +kernel
theorem dX3_knownPolicy_29 : decode cX3_knownPolicy 29 = .ok (.astore_n 2, 1) := by decide +kernel
theorem dX3_knownPolicy_30 : decode cX3_knownPolicy 30 = .ok (.aload_n 2, 1) := by decide +kernel
theorem dX3_knownPolicy_31 : decode cX3_knownPolicy 31 = .ok (.ifnonnull 13, 3) := by decide +kernel
theorem dX3_knownPolicy_34 : decode cX3_knownPolicy 34 = .ok (.new 181, 3) := by decide +kernel
theorem dX3_knownPolicy_37 : decode cX3_knownPolicy 37 = .ok (.dup, 1) := by decide +kernel
theorem dX3_knownPolicy_38 : decode cX3_knownPolicy 38 = .ok (.ldc 183, 2) := by decide +kernel
theorem dX3_knownPolicy_40 : decode cX3_knownPolicy 40 = .ok (.invokespecial 185, 3) := by decide +kernel
theorem dX3_knownPolicy_43 : decode cX3_knownPolicy 43 = .ok (.athrow, 1) := by decide +kernel
theorem dX3_knownPolicy_44 : decode cX3_knownPolicy 44 = .ok (.aload_n 2, 1) := by decide +kernel
theorem dX3_knownPolicy_45 : decode cX3_knownPolicy 45 = .ok (.areturn, 1) := by decide +kernel
theorem dX3_checkSurrenderable_0 : decode cX3_checkSurrenderable 0 = .ok (.aload_n 1, 1) := by decide +kernel
theorem dX3_checkSurrenderable_1 : decode cX3_checkSurrenderable 1 = .ok (.invokevirtual 143, 3) := by decide +kernel
theorem dX3_checkSurrenderable_4 : decode cX3_checkSurrenderable 4 = .ok (.ifCond .eq 12, 3) := by decide +kernel
theorem dX3_checkSurrenderable_7 : decode cX3_checkSurrenderable 7 = .ok (.aload_n 0, 1) := by decide +kernel
theorem dX3_checkSurrenderable_8 : decode cX3_checkSurrenderable 8 = .ok (.aload_n 1, 1) := by decide +kernel
theorem dX3_checkSurrenderable_9 : decode cX3_checkSurrenderable 9 = .ok (.invokevirtual 186, 3) := by decide +kernel
theorem dX3_checkSurrenderable_12 : decode cX3_checkSurrenderable 12 = .ok (.iconst 1, 1) := by decide +kernel
theorem dX3_checkSurrenderable_13 : decode cX3_checkSurrenderable 13 = .ok (.if_icmp .ge 13, 3) := by decide +kernel
theorem dX3_checkSurrenderable_16 : decode cX3_checkSurrenderable 16 = .ok (.new 65, 3) := by decide +kernel
theorem dX3_checkSurrenderable_19 : decode cX3_checkSurrenderable 19 = .ok (.dup, 1) := by decide +kernel
theorem dX3_checkSurrenderable_20 : decode cX3_checkSurrenderable 20 = .ok (.ldc 190, 2) := by decide +kernel
theorem dX3_checkSurrenderable_22 : decode cX3_checkSurrenderable 22 = .ok (.invokespecial 69, 3) := by decide +kernel
theorem dX3_checkSurrenderable_25 : decode cX3_checkSurrenderable 25 = .ok (.athrow, 1) := by decide +kernel
theorem dX3_checkSurrenderable_26 : decode cX3_checkSurrenderable 26 = .ok (.return_, 1) := by decide +kernel
theorem dX3_yearsRun_0 : decode cX3_yearsRun 0 = .ok (.aload_n 0, 1) := by decide +kernel
theorem dX3_yearsRun_1 : decode cX3_yearsRun 1 = .ok (.getfield 110, 3) := by decide +kernel
theorem dX3_yearsRun_4 : decode cX3_yearsRun 4 = .ok (.aload_n 1, 1) := by decide +kernel
theorem dX3_yearsRun_5 : decode cX3_yearsRun 5 = .ok (.getfield 192, 3) := by decide +kernel
theorem dX3_yearsRun_8 : decode cX3_yearsRun 8 = .ok (.getfield 196, 3) := by decide +kernel
theorem dX3_yearsRun_11 : decode cX3_yearsRun 11 = .ok (.isub, 1) := by decide +kernel
theorem dX3_yearsRun_12 : decode cX3_yearsRun 12 = .ok (.ireturn, 1) := by decide +kernel
theorem dX3_findGeneration_0 : decode cX3_findGeneration 0 = .ok (.iconst 0, 1) := by decide +kernel
theorem dX3_findGeneration_1 : decode cX3_findGeneration 1 = .ok (.istore_n 3, 1) := by decide +kernel
theorem dX3_findGeneration_2 : decode cX3_findGeneration 2 = .ok (.iload_n 3, 1) := by decide +kernel
theorem dX3_findGeneration_3 : decode cX3_findGeneration 3 = .ok (.aload_n 0, 1) := by decide +kernel
theorem dX3_findGeneration_4 : decode cX3_findGeneration 4 = .ok (.getfield 17, 3) := by decide +kernel
theorem dX3_findGeneration_7 : decode cX3_findGeneration 7 = .ok (.arraylength, 1) := by decide +kernel
theorem dX3_findGeneration_8 : decode cX3_findGeneration 8 = .ok (.if_icmp .ge 43, 3) := by decide +kernel
theorem dX3_findGeneration_11 : decode cX3_findGeneration 11 = .ok (.aload_n 0, 1) := by decide +kernel
theorem dX3_findGeneration_12 : decode cX3_findGeneration 12 = .ok (.getfield 17, 3) := by decide +kernel
theorem dX3_findGeneration_15 : decode cX3_findGeneration 15 = .ok (.iload_n 3, 1) := by decide +kernel
theorem dX3_findGeneration_16 : decode cX3_findGeneration 16 = .ok (.aaload, 1) := by decide +kernel
theorem dX3_findGeneration_17 : decode cX3_findGeneration 17 = .ok (.astore 4, 2) := by decide +kernel
theorem dX3_findGeneration_19 : decode cX3_findGeneration 19 = .ok (.aload 4, 2) := by decide +kernel
theorem dX3_findGeneration_21 : decode cX3_findGeneration 21 = .ok (.ifnull 24, 3) := by decide +kernel
theorem dX3_findGeneration_24 : decode cX3_findGeneration 24 = .ok (.aload 4, 2) := by decide +kernel
theorem dX3_findGeneration_26 : decode cX3_findGeneration 26 = .ok (.getfield 196, 3) := by decide +kernel
theorem dX3_findGeneration_29 : decode cX3_findGeneration 29 = .ok (.iload_n 1, 1) := by decide +kernel
theorem dX3_findGeneration_30 : decode cX3_findGeneration 30 = .ok (.if_icmp .ne 15, 3) := by decide +kernel
theorem dX3_findGeneration_33 : decode cX3_findGeneration 33 = .ok (.aload 4, 2) := by decide +kernel
theorem dX3_findGeneration_35 : decode cX3_findGeneration 35 = .ok (.getfield 199, 3) := by decide +kernel
theorem dX3_findGeneration_38 : decode cX3_findGeneration 38 = .ok (.iload_n 2, 1) := by decide +kernel
theorem dX3_findGeneration_39 : decode cX3_findGeneration 39 = .ok (.if_icmp .ne 6, 3) := by decide +kernel
theorem dX3_findGeneration_42 : decode cX3_findGeneration 42 = .ok (.aload 4, 2) := by decide +kernel
theorem dX3_findGeneration_44 : decode cX3_findGeneration 44 = .ok (.areturn, 1) := by decide +kernel
theorem dX3_findGeneration_45 : decode cX3_findGeneration 45 = .ok (.iinc 3 1, 3) := by decide +kernel
theorem dX3_findGeneration_48 : decode cX3_findGeneration 48 = .ok (.goto (-46), 3) := by decide +kernel
theorem dX3_findGeneration_51 : decode cX3_findGeneration 51 = .ok (.aconst_null, 1) := by decide +kernel
theorem dX3_findGeneration_52 : decode cX3_findGeneration 52 = .ok (.areturn, 1) := by decide +kernel
theorem dX3_joinGeneration_0 : decode cX3_joinGeneration 0 = .ok (.aload_n 0, 1) := by decide +kernel
theorem dX3_joinGeneration_1 : decode cX3_joinGeneration 1 = .ok (.aload_n 0, 1) := by decide +kernel
theorem dX3_joinGeneration_2 : decode cX3_joinGeneration 2 = .ok (.getfield 110, 3) := by decide +kernel
theorem dX3_joinGeneration_5 : decode cX3_joinGeneration 5 = .ok (.iload_n 1, 1) := by decide +kernel
theorem dX3_joinGeneration_6 : decode cX3_joinGeneration 6 = .ok (.invokevirtual 158, 3) := by decide +kernel
theorem dX3_joinGeneration_9 : decode cX3_joinGeneration 9 = .ok (.astore_n 3, 1) := by decide +kernel
theorem dX3_joinGeneration_10 : decode cX3_joinGeneration 10 = .ok (.aload_n 3, 1) := by decide +kernel
theorem dX3_joinGeneration_11 : decode cX3_joinGeneration 11 = .ok (.ifnonnull 55, 3) := by decide +kernel
theorem dX3_joinGeneration_14 : decode cX3_joinGeneration 14 = .ok (.new 15, 3) := by decide +kernel
theorem dX3_joinGeneration_17 : decode cX3_joinGeneration 17 = .ok (.dup, 1) := by decide +kernel
theorem dX3_joinGeneration_18 : decode cX3_joinGeneration 18 = .ok (.aload_n 0, 1) := by decide +kernel
theorem dX3_joinGeneration_19 : decode cX3_joinGeneration 19 = .ok (.getfield 110, 3) := by decide +kernel
theorem dX3_joinGeneration_22 : decode cX3_joinGeneration 22 = .ok (.iload_n 1, 1) := by decide +kernel
theorem dX3_joinGeneration_23 : decode cX3_joinGeneration 23 = .ok (.invokespecial 202, 3) := by decide +kernel
theorem dX3_joinGeneration_26 : decode cX3_joinGeneration 26 = .ok (.astore_n 3, 1) := by decide +kernel
theorem dX3_joinGeneration_27 : decode cX3_joinGeneration 27 = .ok (.aload_n 0, 1) := by decide +kernel
theorem dX3_joinGeneration_28 : decode cX3_joinGeneration 28 = .ok (.getfield 205, 3) := by decide +kernel
theorem dX3_joinGeneration_31 : decode cX3_joinGeneration 31 = .ok (.ifCond .lt 35, 3) := by decide +kernel
theorem dX3_joinGeneration_34 : decode cX3_joinGeneration 34 = .ok (.aload_n 0, 1) := by decide +kernel
theorem dX3_joinGeneration_35 : decode cX3_joinGeneration 35 = .ok (.getfield 205, 3) := by decide +kernel
theorem dX3_joinGeneration_38 : decode cX3_joinGeneration 38 = .ok (.aload_n 0, 1) := by decide +kernel
theorem dX3_joinGeneration_39 : decode cX3_joinGeneration 39 = .ok (.getfield 17, 3) := by decide +kernel
theorem dX3_joinGeneration_42 : decode cX3_joinGeneration 42 = .ok (.arraylength, 1) := by decide +kernel
theorem dX3_joinGeneration_43 : decode cX3_joinGeneration 43 = .ok (.if_icmp .ge 23, 3) := by decide +kernel
theorem dX3_joinGeneration_46 : decode cX3_joinGeneration 46 = .ok (.aload_n 0, 1) := by decide +kernel
theorem dX3_joinGeneration_47 : decode cX3_joinGeneration 47 = .ok (.getfield 17, 3) := by decide +kernel
theorem dX3_joinGeneration_50 : decode cX3_joinGeneration 50 = .ok (.aload_n 0, 1) := by decide +kernel
theorem dX3_joinGeneration_51 : decode cX3_joinGeneration 51 = .ok (.getfield 205, 3) := by decide +kernel
theorem dX3_joinGeneration_54 : decode cX3_joinGeneration 54 = .ok (.aload_n 3, 1) := by decide +kernel
theorem dX3_joinGeneration_55 : decode cX3_joinGeneration 55 = .ok (.aastore, 1) := by decide +kernel
theorem dX3_joinGeneration_56 : decode cX3_joinGeneration 56 = .ok (.aload_n 0, 1) := by decide +kernel
theorem dX3_joinGeneration_57 : decode cX3_joinGeneration 57 = .ok (.dup, 1) := by decide +kernel
theorem dX3_joinGeneration_58 : decode cX3_joinGeneration 58 = .ok (.getfield 205, 3) := by decide +kernel
theorem dX3_joinGeneration_61 : decode cX3_joinGeneration 61 = .ok (.iconst 1, 1) := by decide +kernel
theorem dX3_joinGeneration_62 : decode cX3_joinGeneration 62 = .ok (.iadd, 1) := by decide +kernel
theorem dX3_joinGeneration_63 : decode cX3_joinGeneration 63 = .ok (.putfield 205, 3) := by decide +kernel
theorem dX3_joinGeneration_66 : decode cX3_joinGeneration 66 = .ok (.aload_n 3, 1) := by decide +kernel
theorem dX3_joinGeneration_67 : decode cX3_joinGeneration 67 = .ok (.dup, 1) := by decide +kernel
theorem dX3_joinGeneration_68 : decode cX3_joinGeneration 68 = .ok (.getfield 208, 3) := by decide +kernel
theorem dX3_joinGeneration_71 : decode cX3_joinGeneration 71 = .ok (.iload_n 2, 1) := by decide +kernel
theorem dX3_joinGeneration_72 : decode cX3_joinGeneration 72 = .ok (.i2l, 1) := by decide +kernel
theorem dX3_joinGeneration_73 : decode cX3_joinGeneration 73 = .ok (.ladd, 1) := by decide +kernel
theorem dX3_joinGeneration_74 : decode cX3_joinGeneration 74 = .ok (.putfield 208, 3) := by decide +kernel
theorem dX3_joinGeneration_77 : decode cX3_joinGeneration 77 = .ok (.aload_n 3, 1) := by decide +kernel
theorem dX3_joinGeneration_78 : decode cX3_joinGeneration 78 = .ok (.areturn, 1) := by decide +kernel
theorem dX3_ratioIn_0 : decode cX3_ratioIn 0 = .ok (.iload_n 1, 1) := by decide +kernel
theorem dX3_ratioIn_1 : decode cX3_ratioIn 1 = .ok (.ifCond .lt 15, 3) := by decide +kernel
theorem dX3_ratioIn_4 : decode cX3_ratioIn 4 = .ok (.iload_n 1, 1) := by decide +kernel
theorem dX3_ratioIn_5 : decode cX3_ratioIn 5 = .ok (.aload_n 0, 1) := by decide +kernel
theorem dX3_ratioIn_6 : decode cX3_ratioIn 6 = .ok (.arraylength, 1) := by decide +kernel
theorem dX3_ratioIn_7 : decode cX3_ratioIn 7 = .ok (.if_icmp .ge 9, 3) := by decide +kernel
theorem dX3_ratioIn_10 : decode cX3_ratioIn 10 = .ok (.aload_n 0, 1) := by decide +kernel
theorem dX3_ratioIn_11 : decode cX3_ratioIn 11 = .ok (.iload_n 1, 1) := by decide +kernel
theorem dX3_ratioIn_12 : decode cX3_ratioIn 12 = .ok (.laload, 1) := by decide +kernel
theorem dX3_ratioIn_13 : decode cX3_ratioIn 13 = .ok (.goto 6, 3) := by decide +kernel
theorem dX3_ratioIn_16 : decode cX3_ratioIn 16 = .ok (.ldc2_w 28, 3) := by decide +kernel
theorem dX3_ratioIn_19 : decode cX3_ratioIn 19 = .ok (.lreturn, 1) := by decide +kernel
theorem dX3_growGenerations_0 : decode cX3_growGenerations 0 = .ok (.iconst 0, 1) := by decide +kernel
theorem dX3_growGenerations_1 : decode cX3_growGenerations 1 = .ok (.istore_n 2, 1) := by decide +kernel
theorem dX3_growGenerations_2 : decode cX3_growGenerations 2 = .ok (.iload_n 2, 1) := by decide +kernel
theorem dX3_growGenerations_3 : decode cX3_growGenerations 3 = .ok (.aload_n 0, 1) := by decide +kernel
theorem dX3_growGenerations_4 : decode cX3_growGenerations 4 = .ok (.getfield 17, 3) := by decide +kernel
theorem dX3_growGenerations_7 : decode cX3_growGenerations 7 = .ok (.arraylength, 1) := by decide +kernel
theorem dX3_growGenerations_8 : decode cX3_growGenerations 8 = .ok (.if_icmp .ge 95, 3) := by decide +kernel
theorem dX3_growGenerations_11 : decode cX3_growGenerations 11 = .ok (.aload_n 0, 1) := by decide +kernel
theorem dX3_growGenerations_12 : decode cX3_growGenerations 12 = .ok (.getfield 17, 3) := by decide +kernel
theorem dX3_growGenerations_15 : decode cX3_growGenerations 15 = .ok (.iload_n 2, 1) := by decide +kernel
theorem dX3_growGenerations_16 : decode cX3_growGenerations 16 = .ok (.aaload, 1) := by decide +kernel
theorem dX3_growGenerations_17 : decode cX3_growGenerations 17 = .ok (.astore_n 3, 1) := by decide +kernel
theorem dX3_growGenerations_18 : decode cX3_growGenerations 18 = .ok (.aload_n 3, 1) := by decide +kernel
theorem dX3_growGenerations_19 : decode cX3_growGenerations 19 = .ok (.ifnull 78, 3) := by decide +kernel
theorem dX3_growGenerations_22 : decode cX3_growGenerations 22 = .ok (.aload_n 3, 1) := by decide +kernel
theorem dX3_growGenerations_23 : decode cX3_growGenerations 23 = .ok (.getfield 208, 3) := by decide +kernel
theorem dX3_growGenerations_26 : decode cX3_growGenerations 26 = .ok (.lconst 0, 1) := by decide +kernel
theorem dX3_growGenerations_27 : decode cX3_growGenerations 27 = .ok (.lcmp, 1) := by decide +kernel
theorem dX3_growGenerations_28 : decode cX3_growGenerations 28 = .ok (.ifCond .le 69, 3) := by decide +kernel
theorem dX3_growGenerations_31 : decode cX3_growGenerations 31 = .ok (.aload_n 3, 1) := by decide +kernel
theorem dX3_growGenerations_32 : decode cX3_growGenerations 32 = .ok (.getfield 161, 3) := by decide +kernel
theorem dX3_growGenerations_35 : decode cX3_growGenerations 35 = .ok (.dup, 1) := by decide +kernel
theorem dX3_growGenerations_36 : decode cX3_growGenerations 36 = .ok (.getfield 151, 3) := by decide +kernel
theorem dX3_growGenerations_39 : decode cX3_growGenerations 39 = .ok (.aload_n 3, 1) := by decide +kernel
theorem dX3_growGenerations_40 : decode cX3_growGenerations 40 = .ok (.getfield 208, 3) := by decide +kernel
theorem dX3_growGenerations_43 : decode cX3_growGenerations 43 = .ok (.ladd, 1) := by decide +kernel
theorem dX3_growGenerations_44 : decode cX3_growGenerations 44 = .ok (.putfield 151, 3) := by decide +kernel
theorem dX3_growGenerations_47 : decode cX3_growGenerations 47 = .ok (.aload_n 0, 1) := by decide +kernel
theorem dX3_growGenerations_48 : decode cX3_growGenerations 48 = .ok (.dup, 1) := by decide +kernel
theorem dX3_growGenerations_49 : decode cX3_growGenerations 49 = .ok (.getfield 105, 3) := by decide +kernel
theorem dX3_growGenerations_52 : decode cX3_growGenerations 52 = .ok (.aload_n 3, 1) := by decide +kernel
theorem dX3_growGenerations_53 : decode cX3_growGenerations 53 = .ok (.getfield 208, 3) := by decide +kernel
theorem dX3_growGenerations_56 : decode cX3_growGenerations 56 = .ok (.ladd, 1) := by decide +kernel
theorem dX3_growGenerations_57 : decode cX3_growGenerations 57 = .ok (.putfield 105, 3) := by decide +kernel
theorem dX3_growGenerations_60 : decode cX3_growGenerations 60 = .ok (.aload_n 0, 1) := by decide +kernel
theorem dX3_growGenerations_61 : decode cX3_growGenerations 61 = .ok (.dup, 1) := by decide +kernel
theorem dX3_growGenerations_62 : decode cX3_growGenerations 62 = .ok (.getfield 105, 3) := by decide +kernel
theorem dX3_growGenerations_65 : decode cX3_growGenerations 65 = .ok (.aload_n 3, 1) := by decide +kernel
theorem dX3_growGenerations_66 : decode cX3_growGenerations 66 = .ok (.getfield 161, 3) := by decide +kernel
theorem dX3_growGenerations_69 : decode cX3_growGenerations 69 = .ok (.iload_n 1, 1) := by decide +kernel
theorem dX3_growGenerations_70 : decode cX3_growGenerations 70 = .ok (.invokevirtual 211, 3) := by decide +kernel
theorem dX3_growGenerations_73 : decode cX3_growGenerations 73 = .ok (.ladd, 1) := by decide +kernel
theorem dX3_growGenerations_74 : decode cX3_growGenerations 74 = .ok (.putfield 105, 3) := by decide +kernel
theorem dX3_growGenerations_77 : decode cX3_growGenerations 77 = .ok (.aload_n 0, 1) := by decide +kernel
theorem dX3_growGenerations_78 : decode cX3_growGenerations 78 = .ok (.dup, 1) := by decide +kernel
theorem dX3_growGenerations_79 : decode cX3_growGenerations 79 = .ok (.getfield 101, 3) := by decide +kernel
theorem dX3_growGenerations_82 : decode cX3_growGenerations 82 = .ok (.aload_n 3, 1) := by decide +kernel
theorem dX3_growGenerations_83 : decode cX3_growGenerations 83 = .ok (.getfield 161, 3) := by decide +kernel
theorem dX3_growGenerations_86 : decode cX3_growGenerations 86 = .ok (.aload_n 0, 1) := by decide +kernel
theorem dX3_growGenerations_87 : decode cX3_growGenerations 87 = .ok (.getfield 34, 3) := by decide +kernel
theorem dX3_growGenerations_90 : decode cX3_growGenerations 90 = .ok (.invokevirtual 215, 3) := by decide +kernel
theorem dX3_growGenerations_93 : decode cX3_growGenerations 93 = .ok (.ladd, 1) := by decide +kernel
theorem dX3_growGenerations_94 : decode cX3_growGenerations 94 = .ok (.putfield 101, 3) := by decide +kernel
theorem dX3_growGenerations_97 : decode cX3_growGenerations 97 = .ok (.iinc 2 1, 3) := by decide +kernel
theorem dX3_growGenerations_100 : decode cX3_growGenerations 100 = .ok (.goto (-98), 3) := by decide +kernel
theorem dX3_growGenerations_103 : decode cX3_growGenerations 103 = .ok (.return_, 1) := by decide +kernel
theorem dX3_growPoliciesAlone_0 : decode cX3_growPoliciesAlone 0 = .ok (.iconst 0, 1) := by decide +kernel
theorem dX3_growPoliciesAlone_1 : decode cX3_growPoliciesAlone 1 = .ok (.istore_n 2, 1) := by decide +kernel
theorem dX3_growPoliciesAlone_2 : decode cX3_growPoliciesAlone 2 = .ok (.iload_n 2, 1) := by decide +kernel
theorem dX3_growPoliciesAlone_3 : decode cX3_growPoliciesAlone 3 = .ok (.aload_n 0, 1) := by decide +kernel
theorem dX3_growPoliciesAlone_4 : decode cX3_growPoliciesAlone 4 = .ok (.getfield 11, 3) := by decide +kernel
theorem dX3_growPoliciesAlone_7 : decode cX3_growPoliciesAlone 7 = .ok (.arraylength, 1) := by decide +kernel
theorem dX3_growPoliciesAlone_8 : decode cX3_growPoliciesAlone 8 = .ok (.if_icmp .ge 65, 3) := by decide +kernel
theorem dX3_growPoliciesAlone_11 : decode cX3_growPoliciesAlone 11 = .ok (.aload_n 0, 1) := by decide +kernel
theorem dX3_growPoliciesAlone_12 : decode cX3_growPoliciesAlone 12 = .ok (.getfield 11, 3) := by decide +kernel
theorem dX3_growPoliciesAlone_15 : decode cX3_growPoliciesAlone 15 = .ok (.iload_n 2, 1) := by decide +kernel
theorem dX3_growPoliciesAlone_16 : decode cX3_growPoliciesAlone 16 = .ok (.aaload, 1) := by decide +kernel
theorem dX3_growPoliciesAlone_17 : decode cX3_growPoliciesAlone 17 = .ok (.astore_n 3, 1) := by decide +kernel
theorem dX3_growPoliciesAlone_18 : decode cX3_growPoliciesAlone 18 = .ok (.aload_n 3, 1) := by decide +kernel
theorem dX3_growPoliciesAlone_19 : decode cX3_growPoliciesAlone 19 = .ok (.ifnull 48, 3) := by decide +kernel
theorem dX3_growPoliciesAlone_22 : decode cX3_growPoliciesAlone 22 = .ok (.aload_n 3, 1) := by decide +kernel
theorem dX3_growPoliciesAlone_23 : decode cX3_growPoliciesAlone 23 = .ok (.invokevirtual 143, 3) := by decide +kernel
theorem dX3_growPoliciesAlone_26 : decode cX3_growPoliciesAlone 26 = .ok (.ifCond .eq 41, 3) := by decide +kernel
theorem dX3_growPoliciesAlone_29 : decode cX3_growPoliciesAlone 29 = .ok (.aload_n 3, 1) := by decide +kernel
theorem dX3_growPoliciesAlone_30 : decode cX3_growPoliciesAlone 30 = .ok (.getfield 147, 3) := by decide +kernel
theorem dX3_growPoliciesAlone_33 : decode cX3_growPoliciesAlone 33 = .ok (.dup, 1) := by decide +kernel
theorem dX3_growPoliciesAlone_34 : decode cX3_growPoliciesAlone 34 = .ok (.getfield 151, 3) := by decide +kernel
theorem dX3_growPoliciesAlone_37 : decode cX3_growPoliciesAlone 37 = .ok (.aload_n 3, 1) := by decide +kernel
theorem dX3_growPoliciesAlone_38 : decode cX3_growPoliciesAlone 38 = .ok (.getfield 218, 3) := by decide +kernel
theorem dX3_growPoliciesAlone_41 : decode cX3_growPoliciesAlone 41 = .ok (.i2l, 1) := by decide +kernel
theorem dX3_growPoliciesAlone_42 : decode cX3_growPoliciesAlone 42 = .ok (.ladd, 1) := by decide +kernel
theorem dX3_growPoliciesAlone_43 : decode cX3_growPoliciesAlone 43 = .ok (.putfield 151, 3) := by decide +kernel
theorem dX3_growPoliciesAlone_46 : decode cX3_growPoliciesAlone 46 = .ok (.aload_n 3, 1) := by decide +kernel
theorem dX3_growPoliciesAlone_47 : decode cX3_growPoliciesAlone 47 = .ok (.getfield 147, 3) := by decide +kernel
theorem dX3_growPoliciesAlone_50 : decode cX3_growPoliciesAlone 50 = .ok (.iload_n 1, 1) := by decide +kernel
theorem dX3_growPoliciesAlone_51 : decode cX3_growPoliciesAlone 51 = .ok (.invokevirtual 211, 3) := by decide +kernel
theorem dX3_growPoliciesAlone_54 : decode cX3_growPoliciesAlone 54 = .ok (.pop2, 1) := by decide +kernel
theorem dX3_growPoliciesAlone_55 : decode cX3_growPoliciesAlone 55 = .ok (.aload_n 3, 1) := by decide +kernel
theorem dX3_growPoliciesAlone_56 : decode cX3_growPoliciesAlone 56 = .ok (.getfield 147, 3) := by decide +kernel
theorem dX3_growPoliciesAlone_59 : decode cX3_growPoliciesAlone 59 = .ok (.aload_n 0, 1) := by decide +kernel
theorem dX3_growPoliciesAlone_60 : decode cX3_growPoliciesAlone 60 = .ok (.getfield 34, 3) := by decide +kernel
theorem dX3_growPoliciesAlone_63 : decode cX3_growPoliciesAlone 63 = .ok (.invokevirtual 215, 3) := by decide +kernel
theorem dX3_growPoliciesAlone_66 : decode cX3_growPoliciesAlone 66 = .ok (.pop2, 1) := by decide +kernel
theorem dX3_growPoliciesAlone_67 : decode cX3_growPoliciesAlone 67 = .ok (.iinc 2 1, 3) := by decide +kernel
theorem dX3_growPoliciesAlone_70 : decode cX3_growPoliciesAlone 70 = .ok (.goto (-68), 3) := by decide +kernel
theorem dX3_growPoliciesAlone_73 : decode cX3_growPoliciesAlone 73 = .ok (.return_, 1) := by decide +kernel
theorem dX3_giveBonuses_0 : decode cX3_giveBonuses 0 = .ok (.iconst 0, 1) := by decide +kernel
theorem dX3_giveBonuses_1 : decode cX3_giveBonuses 1 = .ok (.istore_n 1, 1) := by decide +kernel
theorem dX3_giveBonuses_2 : decode cX3_giveBonuses 2 = .ok (.iload_n 1, 1) := by decide +kernel
theorem dX3_giveBonuses_3 : decode cX3_giveBonuses 3 = .ok (.aload_n 0, 1) := by decide +kernel
theorem dX3_giveBonuses_4 : decode cX3_giveBonuses 4 = .ok (.getfield 11, 3) := by decide +kernel
theorem dX3_giveBonuses_7 : decode cX3_giveBonuses 7 = .ok (.arraylength, 1) := by decide +kernel
theorem dX3_giveBonuses_8 : decode cX3_giveBonuses 8 = .ok (.if_icmp .ge 48, 3) := by decide +kernel
theorem dX3_giveBonuses_11 : decode cX3_giveBonuses 11 = .ok (.aload_n 0, 1) := by decide +kernel
theorem dX3_giveBonuses_12 : decode cX3_giveBonuses 12 = .ok (.getfield 11, 3) := by decide +kernel
theorem dX3_giveBonuses_15 : decode cX3_giveBonuses 15 = .ok (.iload_n 1, 1) := by decide +kernel
theorem dX3_giveBonuses_16 : decode cX3_giveBonuses 16 = .ok (.aaload, 1) := by decide +kernel
theorem dX3_giveBonuses_17 : decode cX3_giveBonuses 17 = .ok (.astore_n 2, 1) := by decide +kernel
theorem dX3_giveBonuses_18 : decode cX3_giveBonuses 18 = .ok (.aload_n 2, 1) := by decide +kernel
theorem dX3_giveBonuses_19 : decode cX3_giveBonuses 19 = .ok (.ifnull 31, 3) := by decide +kernel
theorem dX3_giveBonuses_22 : decode cX3_giveBonuses 22 = .ok (.aload_n 2, 1) := by decide +kernel
theorem dX3_giveBonuses_23 : decode cX3_giveBonuses 23 = .ok (.invokevirtual 143, 3) := by decide +kernel
theorem dX3_giveBonuses_26 : decode cX3_giveBonuses 26 = .ok (.ifCond .eq 24, 3) := by decide +kernel
theorem dX3_giveBonuses_29 : decode cX3_giveBonuses 29 = .ok (.aload_n 2, 1) := by decide +kernel
theorem dX3_giveBonuses_30 : decode cX3_giveBonuses 30 = .ok (.dup, 1) := by decide +kernel
theorem dX3_giveBonuses_31 : decode cX3_giveBonuses 31 = .ok (.getfield 136, 3) := by decide +kernel
theorem dX3_giveBonuses_34 : decode cX3_giveBonuses 34 = .ok (.aload_n 2, 1) := by decide +kernel
theorem dX3_giveBonuses_35 : decode cX3_giveBonuses 35 = .ok (.invokevirtual 173, 3) := by decide +kernel
theorem dX3_giveBonuses_38 : decode cX3_giveBonuses 38 = .ok (.aload_n 0, 1) := by decide +kernel
theorem dX3_giveBonuses_39 : decode cX3_giveBonuses 39 = .ok (.getfield 30, 3) := by decide +kernel
theorem dX3_giveBonuses_42 : decode cX3_giveBonuses 42 = .ok (.i2l, 1) := by decide +kernel
theorem dX3_giveBonuses_43 : decode cX3_giveBonuses 43 = .ok (.invokestatic 115, 3) := by decide +kernel
theorem dX3_giveBonuses_46 : decode cX3_giveBonuses 46 = .ok (.ladd, 1) := by decide +kernel
theorem dX3_giveBonuses_47 : decode cX3_giveBonuses 47 = .ok (.putfield 136, 3) := by decide +kernel
theorem dX3_giveBonuses_50 : decode cX3_giveBonuses 50 = .ok (.iinc 1 1, 3) := by decide +kernel
theorem dX3_giveBonuses_53 : decode cX3_giveBonuses 53 = .ok (.goto (-51), 3) := by decide +kernel
theorem dX3_giveBonuses_56 : decode cX3_giveBonuses 56 = .ok (.return_, 1) := by decide +kernel
theorem dX3_maturePolicies_0 : decode cX3_maturePolicies 0 = .ok (.iconst 0, 1) := by decide +kernel
theorem dX3_maturePolicies_1 : decode cX3_maturePolicies 1 = .ok (.istore_n 1, 1) := by decide +kernel
theorem dX3_maturePolicies_2 : decode cX3_maturePolicies 2 = .ok (.iload_n 1, 1) := by decide +kernel
theorem dX3_maturePolicies_3 : decode cX3_maturePolicies 3 = .ok (.aload_n 0, 1) := by decide +kernel
theorem dX3_maturePolicies_4 : decode cX3_maturePolicies 4 = .ok (.getfield 25, 3) := by decide +kernel
theorem dX3_maturePolicies_7 : decode cX3_maturePolicies 7 = .ok (.arraylength, 1) := by decide +kernel
theorem dX3_maturePolicies_8 : decode cX3_maturePolicies 8 = .ok (.if_icmp .ge 23, 3) := by decide +kernel
theorem dX3_maturePolicies_11 : decode cX3_maturePolicies 11 = .ok (.aload_n 0, 1) := by decide +kernel
theorem dX3_maturePolicies_12 : decode cX3_maturePolicies 12 = .ok (.getfield 25, 3) := by decide +kernel
theorem dX3_maturePolicies_15 : decode cX3_maturePolicies 15 = .ok (.iload_n 1, 1) := by decide +kernel
theorem dX3_maturePolicies_16 : decode cX3_maturePolicies 16 = .ok (.aload_n 0, 1) := by decide +kernel
theorem dX3_maturePolicies_17 : decode cX3_maturePolicies 17 = .ok (.getfield 21, 3) := by decide +kernel
theorem dX3_maturePolicies_20 : decode cX3_maturePolicies 20 = .ok (.iload_n 1, 1) := by decide +kernel
theorem dX3_maturePolicies_21 : decode cX3_maturePolicies 21 = .ok (.invokestatic 169, 3) := by decide +kernel
theorem dX3_maturePolicies_24 : decode cX3_maturePolicies 24 = .ok (.lastore, 1) := by decide +kernel
theorem dX3_maturePolicies_25 : decode cX3_maturePolicies 25 = .ok (.iinc 1 1, 3) := by decide +kernel
theorem dX3_maturePolicies_28 : decode cX3_maturePolicies 28 = .ok (.goto (-26), 3) := by decide +kernel
theorem dX3_maturePolicies_31 : decode cX3_maturePolicies 31 = .ok (.iconst 0, 1) := by decide +kernel
theorem dX3_maturePolicies_32 : decode cX3_maturePolicies 32 = .ok (.istore_n 1, 1) := by decide +kernel
theorem dX3_maturePolicies_33 : decode cX3_maturePolicies 33 = .ok (.iconst 0, 1) := by decide +kernel
theorem dX3_maturePolicies_34 : decode cX3_maturePolicies 34 = .ok (.istore_n 2, 1) := by decide +kernel
theorem dX3_maturePolicies_35 : decode cX3_maturePolicies 35 = .ok (.iload_n 2, 1) := by decide +kernel
theorem dX3_maturePolicies_36 : decode cX3_maturePolicies 36 = .ok (.aload_n 0, 1) := by decide +kernel
theorem dX3_maturePolicies_37 : decode cX3_maturePolicies 37 = .ok (.getfield 11, 3) := by decide +kernel
theorem dX3_maturePolicies_40 : decode cX3_maturePolicies 40 = .ok (.arraylength, 1) := by decide +kernel
theorem dX3_maturePolicies_41 : decode cX3_maturePolicies 41 = .ok (.if_icmp .ge 52, 3) := by decide +kernel
theorem dX3_maturePolicies_44 : decode cX3_maturePolicies 44 = .ok (.aload_n 0, 1) := by decide +kernel
theorem dX3_maturePolicies_45 : decode cX3_maturePolicies 45 = .ok (.getfield 11, 3) := by decide +kernel
theorem dX3_maturePolicies_48 : decode cX3_maturePolicies 48 = .ok (.iload_n 2, 1) := by decide +kernel
theorem dX3_maturePolicies_49 : decode cX3_maturePolicies 49 = .ok (.aaload, 1) := by decide +kernel
theorem dX3_maturePolicies_50 : decode cX3_maturePolicies 50 = .ok (.astore_n 3, 1) := by decide +kernel
theorem dX3_maturePolicies_51 : decode cX3_maturePolicies 51 = .ok (.aload_n 3, 1) := by decide +kernel
theorem dX3_maturePolicies_52 : decode cX3_maturePolicies 52 = .ok (.ifnull 35, 3) := by decide +kernel
theorem dX3_maturePolicies_55 : decode cX3_maturePolicies 55 = .ok (.aload_n 3, 1) := by decide +kernel
theorem dX3_maturePolicies_56 : decode cX3_maturePolicies 56 = .ok (.invokevirtual 143, 3) := by decide +kernel
theorem dX3_maturePolicies_59 : decode cX3_maturePolicies 59 = .ok (.ifCond .eq 28, 3) := by decide +kernel
theorem dX3_maturePolicies_62 : decode cX3_maturePolicies 62 = .ok (.aload_n 0, 1) := by decide +kernel
theorem dX3_maturePolicies_63 : decode cX3_maturePolicies 63 = .ok (.aload_n 3, 1) := by decide +kernel
theorem dX3_maturePolicies_64 : decode cX3_maturePolicies 64 = .ok (.invokevirtual 186, 3) := by decide +kernel
theorem dX3_maturePolicies_67 : decode cX3_maturePolicies 67 = .ok (.iconst 1, 1) := by decide +kernel
theorem dX3_maturePolicies_68 : decode cX3_maturePolicies 68 = .ok (.iadd, 1) := by decide +kernel
theorem dX3_maturePolicies_69 : decode cX3_maturePolicies 69 = .ok (.aload_n 3, 1) := by decide +kernel
theorem dX3_maturePolicies_70 : decode cX3_maturePolicies 70 = .ok (.getfield 192, 3) := by decide +kernel
theorem dX3_maturePolicies_73 : decode cX3_maturePolicies 73 = .ok (.getfield 199, 3) := by decide +kernel
theorem dX3_maturePolicies_76 : decode cX3_maturePolicies 76 = .ok (.if_icmp .lt 11, 3) := by decide +kernel
theorem dX3_maturePolicies_79 : decode cX3_maturePolicies 79 = .ok (.aload_n 0, 1) := by decide +kernel
theorem dX3_maturePolicies_80 : decode cX3_maturePolicies 80 = .ok (.aload_n 3, 1) := by decide +kernel
theorem dX3_maturePolicies_81 : decode cX3_maturePolicies 81 = .ok (.invokevirtual 221, 3) := by decide +kernel
theorem dX3_maturePolicies_84 : decode cX3_maturePolicies 84 = .ok (.iinc 1 1, 3) := by decide +kernel
theorem dX3_maturePolicies_87 : decode cX3_maturePolicies 87 = .ok (.iinc 2 1, 3) := by decide +kernel
theorem dX3_maturePolicies_90 : decode cX3_maturePolicies 90 = .ok (.goto (-55), 3) := by decide +kernel
theorem dX3_maturePolicies_93 : decode cX3_maturePolicies 93 = .ok (.iload_n 1, 1) := by decide +kernel
theorem dX3_maturePolicies_94 : decode cX3_maturePolicies 94 = .ok (.ireturn, 1) := by decide +kernel
theorem dX3_mature_0 : decode cX3_mature 0 = .ok (.aload_n 1, 1) := by decide +kernel
theorem dX3_mature_1 : decode cX3_mature 1 = .ok (.getfield 192, 3) := by decide +kernel
theorem dX3_mature_4 : decode cX3_mature 4 = .ok (.getfield 199, 3) := by decide +kernel
theorem dX3_mature_7 : decode cX3_mature 7 = .ok (.istore_n 2, 1) := by decide +kernel
theorem dX3_mature_8 : decode cX3_mature 8 = .ok (.iload_n 2, 1) := by decide +kernel
theorem dX3_mature_9 : decode cX3_mature 9 = .ok (.i2l, 1) := by decide +kernel
theorem dX3_mature_10 : decode cX3_mature 10 = .ok (.aload_n 1, 1) := by decide +kernel
theorem dX3_mature_11 : decode cX3_mature 11 = .ok (.getfield 218, 3) := by decide +kernel
theorem dX3_mature_14 : decode cX3_mature 14 = .ok (.i2l, 1) := by decide +kernel
theorem dX3_mature_15 : decode cX3_mature 15 = .ok (.lmul, 1) := by decide +kernel
theorem dX3_mature_16 : decode cX3_mature 16 = .ok (.lstore_n 3, 1) := by decide +kernel
theorem dX3_mature_17 : decode cX3_mature 17 = .ok (.aload_n 1, 1) := by decide +kernel
theorem dX3_mature_18 : decode cX3_mature 18 = .ok (.invokevirtual 139, 3) := by decide +kernel
theorem dX3_mature_21 : decode cX3_mature 21 = .ok (.aload_n 0, 1) := by decide +kernel
theorem dX3_mature_22 : decode cX3_mature 22 = .ok (.getfield 37, 3) := by decide +kernel
theorem dX3_mature_25 : decode cX3_mature 25 = .ok (.i2l, 1) := by decide +kernel
theorem dX3_mature_26 : decode cX3_mature 26 = .ok (.invokestatic 115, 3) := by decide +kernel
theorem dX3_mature_29 : decode cX3_mature 29 = .ok (.lstore 5, 2) := by decide +kernel
theorem dX3_mature_31 : decode cX3_mature 31 = .ok (.aload_n 0, 1) := by decide +kernel
theorem dX3_mature_32 : decode cX3_mature 32 = .ok (.lload 5, 2) := by decide +kernel
theorem dX3_mature_34 : decode cX3_mature 34 = .ok (.ldc2_w 224, 3) := by decide +kernel
theorem dX3_mature_37 : decode cX3_mature 37 = .ok (.lmul, 1) := by decide +kernel
theorem dX3_mature_38 : decode cX3_mature 38 = .ok (.lload_n 3, 1) := by decide +kernel
theorem dX3_mature_39 : decode cX3_mature 39 = .ok (.invokestatic 226, 3) := by decide +kernel
theorem dX3_mature_42 : decode cX3_mature 42 = .ok (.aload_n 0, 1) := by decide +kernel
theorem dX3_mature_43 : decode cX3_mature 43 = .ok (.getfield 25, 3) := by decide +kernel
theorem dX3_mature_46 : decode cX3_mature 46 = .ok (.iload_n 2, 1) := by decide +kernel
theorem dX3_mature_47 : decode cX3_mature 47 = .ok (.invokestatic 169, 3) := by decide +kernel
theorem dX3_mature_50 : decode cX3_mature 50 = .ok (.invokevirtual 229, 3) := by decide +kernel
theorem dX3_mature_53 : decode cX3_mature 53 = .ok (.lstore 7, 2) := by decide +kernel
theorem dX3_mature_55 : decode cX3_mature 55 = .ok (.iload_n 2, 1) := by decide +kernel
theorem dX3_mature_56 : decode cX3_mature 56 = .ok (.ifCond .lt 20, 3) := by decide +kernel
theorem dX3_mature_59 : decode cX3_mature 59 = .ok (.iload_n 2, 1) := by decide +kernel
theorem dX3_mature_60 : decode cX3_mature 60 = .ok (.aload_n 0, 1) := by decide +kernel
theorem dX3_mature_61 : decode cX3_mature 61 = .ok (.getfield 21, 3) := by decide +kernel
theorem dX3_mature_64 : decode cX3_mature 64 = .ok (.arraylength, 1) := by decide +kernel
theorem dX3_mature_65 : decode cX3_mature 65 = .ok (.if_icmp .ge 11, 3) := by decide +kernel
theorem dX3_mature_68 : decode cX3_mature 68 = .ok (.aload_n 0, 1) := by decide +kernel
theorem dX3_mature_69 : decode cX3_mature 69 = .ok (.getfield 21, 3) := by decide +kernel
theorem dX3_mature_72 : decode cX3_mature 72 = .ok (.iload_n 2, 1) := by decide +kernel
theorem dX3_mature_73 : decode cX3_mature 73 = .ok (.lload 7, 2) := by decide +kernel
theorem dX3_mature_75 : decode cX3_mature 75 = .ok (.lastore, 1) := by decide +kernel
theorem dX3_mature_76 : decode cX3_mature 76 = .ok (.lload_n 3, 1) := by decide +kernel
theorem dX3_mature_77 : decode cX3_mature 77 = .ok (.lload 7, 2) := by decide +kernel
theorem dX3_mature_79 : decode cX3_mature 79 = .ok (.invokestatic 115, 3) := by decide +kernel
theorem dX3_mature_82 : decode cX3_mature 82 = .ok (.aload_n 1, 1) := by decide +kernel
theorem dX3_mature_83 : decode cX3_mature 83 = .ok (.invokevirtual 173, 3) := by decide +kernel
theorem dX3_mature_86 : decode cX3_mature 86 = .ok (.invokestatic 176, 3) := by decide +kernel
theorem dX3_mature_89 : decode cX3_mature 89 = .ok (.lstore 9, 2) := by decide +kernel
theorem dX3_mature_91 : decode cX3_mature 91 = .ok (.aload_n 0, 1) := by decide +kernel
theorem dX3_mature_92 : decode cX3_mature 92 = .ok (.aload_n 1, 1) := by decide +kernel
theorem dX3_mature_93 : decode cX3_mature 93 = .ok (.iconst 1, 1) := by decide +kernel
theorem dX3_mature_94 : decode cX3_mature 94 = .ok (.lload 9, 2) := by decide +kernel
theorem dX3_mature_96 : decode cX3_mature 96 = .ok (.invokevirtual 89, 3) := by decide +kernel
theorem dX3_mature_99 : decode cX3_mature 99 = .ok (.return_, 1) := by decide +kernel
theorem dX3_smooth_0 : decode cX3_smooth 0 = .ok (.lload_n 3, 1) := by decide +kernel
theorem dX3_smooth_1 : decode cX3_smooth 1 = .ok (.ldc2_w 28, 3) := by decide +kernel
theorem dX3_smooth_4 : decode cX3_smooth 4 = .ok (.lcmp, 1) := by decide +kernel
theorem dX3_smooth_5 : decode cX3_smooth 5 = .ok (.ifCond .ne 5, 3) := by decide +kernel
theorem dX3_smooth_8 : decode cX3_smooth 8 = .ok (.lload_n 1, 1) := by decide +kernel
theorem dX3_smooth_9 : decode cX3_smooth 9 = .ok (.lreturn, 1) := by decide +kernel
theorem dX3_smooth_10 : decode cX3_smooth 10 = .ok (.lload_n 3, 1) := by decide +kernel
theorem dX3_smooth_11 : decode cX3_smooth 11 = .ok (.aload_n 0, 1) := by decide +kernel
theorem dX3_smooth_12 : decode cX3_smooth 12 = .ok (.getfield 40, 3) := by decide +kernel
theorem dX3_smooth_15 : decode cX3_smooth 15 = .ok (.i2l, 1) := by decide +kernel
theorem dX3_smooth_16 : decode cX3_smooth 16 = .ok (.invokestatic 115, 3) := by decide +kernel
theorem dX3_smooth_19 : decode cX3_smooth 19 = .ok (.lstore 5, 2) := by decide +kernel
theorem dX3_smooth_21 : decode cX3_smooth 21 = .ok (.lload_n 1, 1) := by decide +kernel
theorem dX3_smooth_22 : decode cX3_smooth 22 = .ok (.lload_n 3, 1) := by decide +kernel
theorem dX3_smooth_23 : decode cX3_smooth 23 = .ok (.lload 5, 2) := by decide +kernel
theorem dX3_smooth_25 : decode cX3_smooth 25 = .ok (.lsub, 1) := by decide +kernel
theorem dX3_smooth_26 : decode cX3_smooth 26 = .ok (.invokestatic 176, 3) := by decide +kernel
theorem dX3_smooth_29 : decode cX3_smooth 29 = .ok (.lload_n 3, 1) := by decide +kernel
theorem dX3_smooth_30 : decode cX3_smooth 30 = .ok (.lload 5, 2) := by decide +kernel
theorem dX3_smooth_32 : decode cX3_smooth 32 = .ok (.ladd, 1) := by decide +kernel
theorem dX3_smooth_33 : decode cX3_smooth 33 = .ok (.invokestatic 232, 3) := by decide +kernel
theorem dX3_smooth_36 : decode cX3_smooth 36 = .ok (.lreturn, 1) := by decide +kernel
theorem dX3_surrenderWorth_0 : decode cX3_surrenderWorth 0 = .ok (.aload_n 0, 1) := by decide +kernel
theorem dX3_surrenderWorth_1 : decode cX3_surrenderWorth 1 = .ok (.aload_n 1, 1) := by decide +kernel
theorem dX3_surrenderWorth_2 : decode cX3_surrenderWorth 2 = .ok (.invokevirtual 186, 3) := by decide +kernel
theorem dX3_surrenderWorth_5 : decode cX3_surrenderWorth 5 = .ok (.istore_n 2, 1) := by decide +kernel
theorem dX3_surrenderWorth_6 : decode cX3_surrenderWorth 6 = .ok (.ldc2_w 235, 3) := by decide +kernel
theorem dX3_surrenderWorth_9 : decode cX3_surrenderWorth 9 = .ok (.ldc2_w 237, 3) := by decide +kernel
theorem dX3_surrenderWorth_12 : decode cX3_surrenderWorth 12 = .ok (.iload_n 2, 1) := by decide +kernel
theorem dX3_surrenderWorth_13 : decode cX3_surrenderWorth 13 = .ok (.i2l, 1) := by decide +kernel
theorem dX3_surrenderWorth_14 : decode cX3_surrenderWorth 14 = .ok (.lmul, 1) := by decide +kernel
theorem dX3_surrenderWorth_15 : decode cX3_surrenderWorth 15 = .ok (.aload_n 1, 1) := by decide +kernel
theorem dX3_surrenderWorth_16 : decode cX3_surrenderWorth 16 = .ok (.getfield 192, 3) := by decide +kernel
theorem dX3_surrenderWorth_19 : decode cX3_surrenderWorth 19 = .ok (.getfield 199, 3) := by decide +kernel
theorem dX3_surrenderWorth_22 : decode cX3_surrenderWorth 22 = .ok (.i2l, 1) := by decide +kernel
theorem dX3_surrenderWorth_23 : decode cX3_surrenderWorth 23 = .ok (.invokestatic 226, 3) := by decide +kernel
theorem dX3_surrenderWorth_26 : decode cX3_surrenderWorth 26 = .ok (.ladd, 1) := by decide +kernel
theorem dX3_surrenderWorth_27 : decode cX3_surrenderWorth 27 = .ok (.lstore_n 3, 1) := by decide +kernel
theorem dX3_surrenderWorth_28 : decode cX3_surrenderWorth 28 = .ok (.aload_n 1, 1) := by decide +kernel
theorem dX3_surrenderWorth_29 : decode cX3_surrenderWorth 29 = .ok (.invokevirtual 139, 3) := by decide +kernel
theorem dX3_surrenderWorth_32 : decode cX3_surrenderWorth 32 = .ok (.lload_n 3, 1) := by decide +kernel
theorem dX3_surrenderWorth_33 : decode cX3_surrenderWorth 33 = .ok (.invokestatic 115, 3) := by decide +kernel
theorem dX3_surrenderWorth_36 : decode cX3_surrenderWorth 36 = .ok (.lstore 5, 2) := by decide +kernel
theorem dX3_surrenderWorth_38 : decode cX3_surrenderWorth 38 = .ok (.iload_n 2, 1) := by decide +kernel
theorem dX3_surrenderWorth_39 : decode cX3_surrenderWorth 39 = .ok (.i2l, 1) := by decide +kernel
theorem dX3_surrenderWorth_40 : decode cX3_surrenderWorth 40 = .ok (.aload_n 1, 1) := by decide +kernel
theorem dX3_surrenderWorth_41 : decode cX3_surrenderWorth 41 = .ok (.getfield 218, 3) := by decide +kernel
theorem dX3_surrenderWorth_44 : decode cX3_surrenderWorth 44 = .ok (.i2l, 1) := by decide +kernel
theorem dX3_surrenderWorth_45 : decode cX3_surrenderWorth 45 = .ok (.lmul, 1) := by decide +kernel
theorem dX3_surrenderWorth_46 : decode cX3_surrenderWorth 46 = .ok (.aload_n 0, 1) := by decide +kernel
theorem dX3_surrenderWorth_47 : decode cX3_surrenderWorth 47 = .ok (.getfield 43, 3) := by decide +kernel
theorem dX3_surrenderWorth_50 : decode cX3_surrenderWorth 50 = .ok (.i2l, 1) := by decide +kernel
theorem dX3_surrenderWorth_51 : decode cX3_surrenderWorth 51 = .ok (.invokestatic 115, 3) := by decide +kernel
theorem dX3_surrenderWorth_54 : decode cX3_surrenderWorth 54 = .ok (.lstore 7, 2) := by decide +kernel
theorem dX3_surrenderWorth_56 : decode cX3_surrenderWorth 56 = .ok (.lconst 0, 1) := by decide +kernel
theorem dX3_surrenderWorth_57 : decode cX3_surrenderWorth 57 = .ok (.lload 5, 2) := by decide +kernel
theorem dX3_surrenderWorth_59 : decode cX3_surrenderWorth 59 = .ok (.lload 7, 2) := by decide +kernel
theorem dX3_surrenderWorth_61 : decode cX3_surrenderWorth 61 = .ok (.invokestatic 176, 3) := by decide +kernel
theorem dX3_surrenderWorth_64 : decode cX3_surrenderWorth 64 = .ok (.invokestatic 176, 3) := by decide +kernel
theorem dX3_surrenderWorth_67 : decode cX3_surrenderWorth 67 = .ok (.lreturn, 1) := by decide +kernel
theorem dX3_close_0 : decode cX3_close 0 = .ok (.aload_n 0, 1) := by decide +kernel
theorem dX3_close_1 : decode cX3_close 1 = .ok (.dup, 1) := by decide +kernel
theorem dX3_close_2 : decode cX3_close 2 = .ok (.getfield 101, 3) := by decide +kernel
theorem dX3_close_5 : decode cX3_close 5 = .ok (.aload_n 1, 1) := by decide +kernel
theorem dX3_close_6 : decode cX3_close 6 = .ok (.getfield 192, 3) := by decide +kernel
theorem dX3_close_9 : decode cX3_close 9 = .ok (.aload_n 1, 1) := by decide +kernel
theorem dX3_close_10 : decode cX3_close 10 = .ok (.getfield 218, 3) := by decide +kernel
theorem dX3_close_13 : decode cX3_close 13 = .ok (.invokevirtual 239, 3) := by decide +kernel
theorem dX3_close_16 : decode cX3_close 16 = .ok (.lload_n 3, 1) := by decide +kernel
theorem dX3_close_17 : decode cX3_close 17 = .ok (.lsub, 1) := by decide +kernel
theorem dX3_close_18 : decode cX3_close 18 = .ok (.ladd, 1) := by decide +kernel
theorem dX3_close_19 : decode cX3_close 19 = .ok (.putfield 101, 3) := by decide +kernel
theorem dX3_close_22 : decode cX3_close 22 = .ok (.aload_n 0, 1) := by decide +kernel
theorem dX3_close_23 : decode cX3_close 23 = .ok (.dup, 1) := by decide +kernel
theorem dX3_close_24 : decode cX3_close 24 = .ok (.getfield 105, 3) := by decide +kernel
theorem dX3_close_27 : decode cX3_close 27 = .ok (.lload_n 3, 1) := by decide +kernel
theorem dX3_close_28 : decode cX3_close 28 = .ok (.lsub, 1) := by decide +kernel
theorem dX3_close_29 : decode cX3_close 29 = .ok (.putfield 105, 3) := by decide +kernel
theorem dX3_close_32 : decode cX3_close 32 = .ok (.aload_n 1, 1) := by decide +kernel
theorem dX3_close_33 : decode cX3_close 33 = .ok (.iload_n 2, 1) := by decide +kernel
theorem dX3_close_34 : decode cX3_close 34 = .ok (.putfield 133, 3) := by decide +kernel
theorem dX3_close_37 : decode cX3_close 37 = .ok (.aload_n 1, 1) := by decide +kernel
theorem dX3_close_38 : decode cX3_close 38 = .ok (.lload_n 3, 1) := by decide +kernel
theorem dX3_close_39 : decode cX3_close 39 = .ok (.putfield 164, 3) := by decide +kernel
theorem dX3_close_42 : decode cX3_close 42 = .ok (.return_, 1) := by decide +kernel
theorem dX3_thousandths_0 : decode cX3_thousandths 0 = .ok (.lload_n 0, 1) := by decide +kernel
theorem dX3_thousandths_1 : decode cX3_thousandths 1 = .ok (.lload_n 2, 1) := by decide +kernel
theorem dX3_thousandths_2 : decode cX3_thousandths 2 = .ok (.lmul, 1) := by decide +kernel
theorem dX3_thousandths_3 : decode cX3_thousandths 3 = .ok (.ldc2_w 224, 3) := by decide +kernel
theorem dX3_thousandths_6 : decode cX3_thousandths 6 = .ok (.invokestatic 242, 3) := by decide +kernel
theorem dX3_thousandths_9 : decode cX3_thousandths 9 = .ok (.lreturn, 1) := by decide +kernel
theorem dX3_parted_0 : decode cX3_parted 0 = .ok (.lload_n 2, 1) := by decide +kernel
theorem dX3_parted_1 : decode cX3_parted 1 = .ok (.lconst 0, 1) := by decide +kernel
theorem dX3_parted_2 : decode cX3_parted 2 = .ok (.lcmp, 1) := by decide +kernel
theorem dX3_parted_3 : decode cX3_parted 3 = .ok (.ifCond .le 9, 3) := by decide +kernel
theorem dX3_parted_6 : decode cX3_parted 6 = .ok (.lload_n 0, 1) := by decide +kernel
theorem dX3_parted_7 : decode cX3_parted 7 = .ok (.lload_n 2, 1) := by decide +kernel
theorem dX3_parted_8 : decode cX3_parted 8 = .ok (.ldiv, 1) := by decide +kernel
theorem dX3_parted_9 : decode cX3_parted 9 = .ok (.goto 4, 3) := by decide +kernel
theorem dX3_parted_12 : decode cX3_parted 12 = .ok (.lconst 0, 1) := by decide +kernel
theorem dX3_parted_13 : decode cX3_parted 13 = .ok (.lreturn, 1) := by decide +kernel
theorem dJ9_floorDiv_f86c9_0 : decode cJ9_floorDiv_f86c9 0 = .ok (.lload_n 0, 1) := by decide +kernel
theorem dJ9_floorDiv_f86c9_1 : decode cJ9_floorDiv_f86c9 1 = .ok (.lload_n 2, 1) := by decide +kernel
theorem dJ9_floorDiv_f86c9_2 : decode cJ9_floorDiv_f86c9 2 = .ok (.ldiv, 1) := by decide +kernel
theorem dJ9_floorDiv_f86c9_3 : decode cJ9_floorDiv_f86c9 3 = .ok (.lstore 4, 2) := by decide +kernel
theorem dJ9_floorDiv_f86c9_5 : decode cJ9_floorDiv_f86c9 5 = .ok (.lload_n 0, 1) := by decide +kernel
theorem dJ9_floorDiv_f86c9_6 : decode cJ9_floorDiv_f86c9 6 = .ok (.lload_n 2, 1) := by decide +kernel
theorem dJ9_floorDiv_f86c9_7 : decode cJ9_floorDiv_f86c9 7 = .ok (.lxor, 1) := by decide +kernel
theorem dJ9_floorDiv_f86c9_8 : decode cJ9_floorDiv_f86c9 8 = .ok (.lconst 0, 1) := by decide +kernel
theorem dJ9_floorDiv_f86c9_9 : decode cJ9_floorDiv_f86c9 9 = .ok (.lcmp, 1) := by decide +kernel
theorem dJ9_floorDiv_f86c9_10 : decode cJ9_floorDiv_f86c9 10 = .ok (.ifCond .ge 17, 3) := by decide +kernel
theorem dJ9_floorDiv_f86c9_13 : decode cJ9_floorDiv_f86c9 13 = .ok (.lload 4, 2) := by decide +kernel
theorem dJ9_floorDiv_f86c9_15 : decode cJ9_floorDiv_f86c9 15 = .ok (.lload_n 2, 1) := by decide +kernel
theorem dJ9_floorDiv_f86c9_16 : decode cJ9_floorDiv_f86c9 16 = .ok (.lmul, 1) := by decide +kernel
theorem dJ9_floorDiv_f86c9_17 : decode cJ9_floorDiv_f86c9 17 = .ok (.lload_n 0, 1) := by decide +kernel
theorem dJ9_floorDiv_f86c9_18 : decode cJ9_floorDiv_f86c9 18 = .ok (.lcmp, 1) := by decide +kernel
theorem dJ9_floorDiv_f86c9_19 : decode cJ9_floorDiv_f86c9 19 = .ok (.ifCond .eq 8, 3) := by decide +kernel
theorem dJ9_floorDiv_f86c9_22 : decode cJ9_floorDiv_f86c9 22 = .ok (.lload 4, 2) := by decide +kernel
theorem dJ9_floorDiv_f86c9_24 : decode cJ9_floorDiv_f86c9 24 = .ok (.lconst 1, 1) := by decide +kernel
theorem dJ9_floorDiv_f86c9_25 : decode cJ9_floorDiv_f86c9 25 = .ok (.lsub, 1) := by decide +kernel
theorem dJ9_floorDiv_f86c9_26 : decode cJ9_floorDiv_f86c9 26 = .ok (.lreturn, 1) := by decide +kernel
theorem dJ9_floorDiv_f86c9_27 : decode cJ9_floorDiv_f86c9 27 = .ok (.lload 4, 2) := by decide +kernel
theorem dJ9_floorDiv_f86c9_29 : decode cJ9_floorDiv_f86c9 29 = .ok (.lreturn, 1) := by decide +kernel
theorem dJ9_max_f86c9_0 : decode cJ9_max_f86c9 0 = .ok (.lload_n 0, 1) := by decide +kernel
theorem dJ9_max_f86c9_1 : decode cJ9_max_f86c9 1 = .ok (.lload_n 2, 1) := by decide +kernel
theorem dJ9_max_f86c9_2 : decode cJ9_max_f86c9 2 = .ok (.lcmp, 1) := by decide +kernel
theorem dJ9_max_f86c9_3 : decode cJ9_max_f86c9 3 = .ok (.ifCond .lt 7, 3) := by decide +kernel
theorem dJ9_max_f86c9_6 : decode cJ9_max_f86c9 6 = .ok (.lload_n 0, 1) := by decide +kernel
theorem dJ9_max_f86c9_7 : decode cJ9_max_f86c9 7 = .ok (.goto 4, 3) := by decide +kernel
theorem dJ9_max_f86c9_10 : decode cJ9_max_f86c9 10 = .ok (.lload_n 2, 1) := by decide +kernel
theorem dJ9_max_f86c9_11 : decode cJ9_max_f86c9 11 = .ok (.lreturn, 1) := by decide +kernel
theorem dJ9_min_f86c9_0 : decode cJ9_min_f86c9 0 = .ok (.lload_n 0, 1) := by decide +kernel
theorem dJ9_min_f86c9_1 : decode cJ9_min_f86c9 1 = .ok (.lload_n 2, 1) := by decide +kernel
theorem dJ9_min_f86c9_2 : decode cJ9_min_f86c9 2 = .ok (.lcmp, 1) := by decide +kernel
theorem dJ9_min_f86c9_3 : decode cJ9_min_f86c9 3 = .ok (.ifCond .gt 7, 3) := by decide +kernel
theorem dJ9_min_f86c9_6 : decode cJ9_min_f86c9 6 = .ok (.lload_n 0, 1) := by decide +kernel
theorem dJ9_min_f86c9_7 : decode cJ9_min_f86c9 7 = .ok (.goto 4, 3) := by decide +kernel
theorem dJ9_min_f86c9_10 : decode cJ9_min_f86c9 10 = .ok (.lload_n 2, 1) := by decide +kernel
theorem dJ9_min_f86c9_11 : decode cJ9_min_f86c9 11 = .ok (.lreturn, 1) := by decide +kernel
end
section
theorem dX4_init_0 : decode cX4_init 0 = .ok (.aload_n 0, 1) := by decide +kernel
theorem dX4_init_1 : decode cX4_init 1 = .ok (.invokespecial 1, 3) := by decide +kernel
theorem dX4_init_4 : decode cX4_init 4 = .ok (.aload_n 0, 1) := by decide +kernel
theorem dX4_init_5 : decode cX4_init 5 = .ok (.bipush 20, 2) := by decide +kernel
theorem dX4_init_7 : decode cX4_init 7 = .ok (.putfield 7, 3) := by decide +kernel
theorem dX4_init_10 : decode cX4_init 10 = .ok (.aload_n 0, 1) := by decide +kernel
theorem dX4_init_11 : decode cX4_init 11 = .ok (.iconst 5, 1) := by decide +kernel
theorem dX4_init_12 : decode cX4_init 12 = .ok (.putfield 13, 3) := by decide +kernel
theorem dX4_init_15 : decode cX4_init 15 = .ok (.aload_n 0, 1) := by decide +kernel
theorem dX4_init_16 : decode cX4_init 16 = .ok (.sipush 1000, 3) := by decide +kernel
theorem dX4_init_19 : decode cX4_init 19 = .ok (.putfield 16, 3) := by decide +kernel
theorem dX4_init_22 : decode cX4_init 22 = .ok (.aload_n 0, 1) := by decide +kernel
theorem dX4_init_23 : decode cX4_init 23 = .ok (.bipush 100, 2) := by decide +kernel
theorem dX4_init_25 : decode cX4_init 25 = .ok (.putfield 19, 3) := by decide +kernel
theorem dX4_init_28 : decode cX4_init 28 = .ok (.aload_n 0, 1) := by decide +kernel
theorem dX4_init_29 : decode cX4_init 29 = .ok (.sipush 500, 3) := by decide +kernel
theorem dX4_init_32 : decode cX4_init 32 = .ok (.putfield 22, 3) := by decide +kernel
theorem dX4_init_35 : decode cX4_init 35 = .ok (.aload_n 0, 1) := by decide +kernel
theorem dX4_init_36 : decode cX4_init 36 = .ok (.bipush 30, 2) := by decide +kernel
theorem dX4_init_38 : decode cX4_init 38 = .ok (.newarray .int, 2) := by decide +kernel
theorem dX4_init_40 : decode cX4_init 40 = .ok (.putfield 25, 3) := by decide +kernel
theorem dX4_init_43 : decode cX4_init 43 = .ok (.aload_n 0, 1) := by decide +kernel
theorem dX4_init_44 : decode cX4_init 44 = .ok (.bipush 30, 2) := by decide +kernel
theorem dX4_init_46 : decode cX4_init 46 = .ok (.newarray .int, 2) := by decide +kernel
theorem dX4_init_48 : decode cX4_init 48 = .ok (.putfield 29, 3) := by decide +kernel
theorem dX4_init_51 : decode cX4_init 51 = .ok (.aload_n 0, 1) := by decide +kernel
theorem dX4_init_52 : decode cX4_init 52 = .ok (.bipush 30, 2) := by decide +kernel
theorem dX4_init_54 : decode cX4_init 54 = .ok (.newarray .int, 2) := by decide +kernel
theorem dX4_init_56 : decode cX4_init 56 = .ok (.putfield 32, 3) := by decide +kernel
theorem dX4_init_59 : decode cX4_init 59 = .ok (.aload_n 0, 1) := by decide +kernel
theorem dX4_init_60 : decode cX4_init 60 = .ok (.bipush 30, 2) := by decide +kernel
theorem dX4_init_62 : decode cX4_init 62 = .ok (.newarray .int, 2) := by decide +kernel
theorem dX4_init_64 : decode cX4_init 64 = .ok (.putfield 35, 3) := by decide +kernel
theorem dX4_init_67 : decode cX4_init 67 = .ok (.aload_n 0, 1) := by decide +kernel
theorem dX4_init_68 : decode cX4_init 68 = .ok (.bipush 30, 2) := by decide +kernel
theorem dX4_init_70 : decode cX4_init 70 = .ok (.newarray .int, 2) := by decide +kernel
theorem dX4_init_72 : decode cX4_init 72 = .ok (.putfield 38, 3) := by decide +kernel
theorem dX4_init_75 : decode cX4_init 75 = .ok (.aload_n 0, 1) := by decide +kernel
theorem dX4_init_76 : decode cX4_init 76 = .ok (.bipush 30, 2) := by decide +kernel
theorem dX4_init_78 : decode cX4_init 78 = .ok (.newarray .int, 2) := by decide +kernel
theorem dX4_init_80 : decode cX4_init 80 = .ok (.putfield 41, 3) := by decide +kernel
theorem dX4_init_83 : decode cX4_init 83 = .ok (.aload_n 0, 1) := by decide +kernel
theorem dX4_init_84 : decode cX4_init 84 = .ok (.bipush 30, 2) := by decide +kernel
theorem dX4_init_86 : decode cX4_init 86 = .ok (.newarray .int, 2) := by decide +kernel
theorem dX4_init_88 : decode cX4_init 88 = .ok (.putfield 44, 3) := by decide +kernel
theorem dX4_init_91 : decode cX4_init 91 = .ok (.aload_n 0, 1) := by decide +kernel
theorem dX4_init_92 : decode cX4_init 92 = .ok (.bipush 30, 2) := by decide +kernel
theorem dX4_init_94 : decode cX4_init 94 = .ok (.newarray .long, 2) := by decide +kernel
theorem dX4_init_96 : decode cX4_init 96 = .ok (.putfield 47, 3) := by decide +kernel
theorem dX4_init_99 : decode cX4_init 99 = .ok (.aload_n 0, 1) := by decide +kernel
theorem dX4_init_100 : decode cX4_init 100 = .ok (.bipush 30, 2) := by decide +kernel
theorem dX4_init_102 : decode cX4_init 102 = .ok (.newarray .long, 2) := by decide +kernel
theorem dX4_init_104 : decode cX4_init 104 = .ok (.putfield 51, 3) := by decide +kernel
theorem dX4_init_107 : decode cX4_init 107 = .ok (.aload_n 0, 1) := by decide +kernel
theorem dX4_init_108 : decode cX4_init 108 = .ok (.bipush 21, 2) := by decide +kernel
theorem dX4_init_110 : decode cX4_init 110 = .ok (.newarray .int, 2) := by decide +kernel
theorem dX4_init_112 : decode cX4_init 112 = .ok (.putfield 54, 3) := by decide +kernel
theorem dX4_init_115 : decode cX4_init 115 = .ok (.aload_n 0, 1) := by decide +kernel
theorem dX4_init_116 : decode cX4_init 116 = .ok (.bipush 21, 2) := by decide +kernel
theorem dX4_init_118 : decode cX4_init 118 = .ok (.newarray .int, 2) := by decide +kernel
theorem dX4_init_120 : decode cX4_init 120 = .ok (.putfield 57, 3) := by decide +kernel
theorem dX4_init_123 : decode cX4_init 123 = .ok (.return_, 1) := by decide +kernel
theorem dX4_thrown_0 : decode cX4_thrown 0 = .ok (.aload_n 0, 1) := by decide +kernel
theorem dX4_thrown_1 : decode cX4_thrown 1 = .ok (.getfield 60, 3) := by decide +kernel
theorem dX4_thrown_4 : decode cX4_thrown 4 = .ok (.ireturn, 1) := by decide +kernel
theorem dX4_in_0 : decode cX4_in 0 = .ok (.iload_n 0, 1) := by decide +kernel
theorem dX4_in_1 : decode cX4_in 1 = .ok (.iload_n 1, 1) := by decide +kernel
theorem dX4_in_2 : decode cX4_in 2 = .ok (.if_icmp .lt 12, 3) := by decide +kernel
theorem dX4_in_5 : decode cX4_in 5 = .ok (.iload_n 0, 1) := by decide +kernel
theorem dX4_in_6 : decode cX4_in 6 = .ok (.iload_n 2, 1) := by decide +kernel
theorem dX4_in_7 : decode cX4_in 7 = .ok (.if_icmp .gt 7, 3) := by decide +kernel
theorem dX4_in_10 : decode cX4_in 10 = .ok (.iconst 1, 1) := by decide +kernel
theorem dX4_in_11 : decode cX4_in 11 = .ok (.goto 4, 3) := by decide +kernel
theorem dX4_in_14 : decode cX4_in 14 = .ok (.iconst 0, 1) := by decide +kernel
theorem dX4_in_15 : decode cX4_in 15 = .ok (.ireturn, 1) := by decide +kernel
theorem dX4_isPolicy_0 : decode cX4_isPolicy 0 = .ok (.aload_n 0, 1) := by decide +kernel
theorem dX4_isPolicy_1 : decode cX4_isPolicy 1 = .ok (.iload_n 1, 1) := by decide +kernel
theorem dX4_isPolicy_2 : decode cX4_isPolicy 2 = .ok (.iconst 0, 1) := by decide +kernel
theorem dX4_isPolicy_3 : decode cX4_isPolicy 3 = .ok (.aload_n 0, 1) := by decide +kernel
theorem dX4_isPolicy_4 : decode cX4_isPolicy 4 = .ok (.getfield 63, 3) := by decide +kernel
theorem dX4_isPolicy_7 : decode cX4_isPolicy 7 = .ok (.iconst 1, 1) := by decide +kernel
theorem dX4_isPolicy_8 : decode cX4_isPolicy 8 = .ok (.isub, 1) := by decide +kernel
theorem dX4_isPolicy_9 : decode cX4_isPolicy 9 = .ok (.invokestatic 66, 3) := by decide +kernel
theorem dX4_isPolicy_12 : decode cX4_isPolicy 12 = .ok (.ifCond .eq 7, 3) := by decide +kernel
theorem dX4_isPolicy_15 : decode cX4_isPolicy 15 = .ok (.iconst 0, 1) := by decide +kernel
theorem dX4_isPolicy_16 : decode cX4_isPolicy 16 = .ok (.goto 4, 3) := by decide +kernel
theorem dX4_isPolicy_19 : decode cX4_isPolicy 19 = .ok (.iconst 1, 1) := by decide +kernel
theorem dX4_isPolicy_20 : decode cX4_isPolicy 20 = .ok (.putfield 60, 3) := by decide +kernel
theorem dX4_isPolicy_23 : decode cX4_isPolicy 23 = .ok (.aload_n 0, 1) := by decide +kernel
theorem dX4_isPolicy_24 : decode cX4_isPolicy 24 = .ok (.getfield 60, 3) := by decide +kernel
theorem dX4_isPolicy_27 : decode cX4_isPolicy 27 = .ok (.ifCond .ne 7, 3) := by decide +kernel
theorem dX4_isPolicy_30 : decode cX4_isPolicy 30 = .ok (.iconst 1, 1) := by decide +kernel
theorem dX4_isPolicy_31 : decode cX4_isPolicy 31 = .ok (.goto 4, 3) := by decide +kernel
theorem dX4_isPolicy_34 : decode cX4_isPolicy 34 = .ok (.iconst 0, 1) := by decide +kernel
theorem dX4_isPolicy_35 : decode cX4_isPolicy 35 = .ok (.ireturn, 1) := by decide +kernel
theorem dX4_part_0 : decode cX4_part 0 = .ok (.lload_n 0, 1) := by decide +kernel
theorem dX4_part_1 : decode cX4_part 1 = .ok (.lload_n 2, 1) := by decide +kernel
theorem dX4_part_2 : decode cX4_part 2 = .ok (.lmul, 1) := by decide +kernel
theorem dX4_part_3 : decode cX4_part 3 = .ok (.lstore 4, 2) := by decide +kernel
theorem dX4_part_5 : decode cX4_part 5 = .ok (.lload 4, 2) := by decide +kernel
theorem dX4_part_7 : decode cX4_part 7 = .ok (.ldc2_w 70, 3) := by decide +kernel
theorem dX4_part_10 : decode cX4_part 10 = .ok (.ldiv, 1) := by decide +kernel
theorem dX4_part_11 : decode cX4_part 11 = .ok (.lstore 6, 2) := by decide +kernel
theorem dX4_part_13 : decode cX4_part 13 = .ok (.lload 4, 2) := by decide +kernel
theorem dX4_part_15 : decode cX4_part 15 = .ok (.lconst 0, 1) := by decide +kernel
theorem dX4_part_16 : decode cX4_part 16 = .ok (.lcmp, 1) := by decide +kernel
theorem dX4_part_17 : decode cX4_part 17 = .ok (.ifCond .ge 22, 3) := by decide +kernel
theorem dX4_part_20 : decode cX4_part 20 = .ok (.lload 6, 2) := by decide +kernel
theorem dX4_part_22 : decode cX4_part 22 = .ok (.ldc2_w 70, 3) := by decide +kernel
theorem dX4_part_25 : decode cX4_part 25 = .ok (.lmul, 1) := by decide +kernel
theorem dX4_part_26 : decode cX4_part 26 = .ok (.lload 4, 2) := by decide +kernel
theorem dX4_part_28 : decode cX4_part 28 = .ok (.lcmp, 1) := by decide +kernel
theorem dX4_part_29 : decode cX4_part 29 = .ok (.ifCond .eq 10, 3) := by decide +kernel
theorem dX4_part_32 : decode cX4_part 32 = .ok (.lload 6, 2) := by decide +kernel
theorem dX4_part_34 : decode cX4_part 34 = .ok (.lconst 1, 1) := by decide +kernel
theorem dX4_part_35 : decode cX4_part 35 = .ok (.lsub, 1) := by decide +kernel
theorem dX4_part_36 : decode cX4_part 36 = .ok (.goto 5, 3) := by decide +kernel
theorem dX4_part_39 : decode cX4_part 39 = .ok (.lload 6, 2) := by decide +kernel
theorem dX4_part_41 : decode cX4_part 41 = .ok (.lreturn, 1) := by decide +kernel
theorem dX4_firstOf_0 : decode cX4_firstOf 0 = .ok (.iconst (-1), 1) := by decide +kernel
theorem dX4_firstOf_1 : decode cX4_firstOf 1 = .ok (.istore_n 3, 1) := by decide +kernel
theorem dX4_firstOf_2 : decode cX4_firstOf 2 = .ok (.aload_n 0, 1) := by decide +kernel
theorem dX4_firstOf_3 : decode cX4_firstOf 3 = .ok (.getfield 63, 3) := by decide +kernel
theorem dX4_firstOf_6 : decode cX4_firstOf 6 = .ok (.iconst 1, 1) := by decide +kernel
theorem dX4_firstOf_7 : decode cX4_firstOf 7 = .ok (.isub, 1) := by decide +kernel
theorem dX4_firstOf_8 : decode cX4_firstOf 8 = .ok (.istore 4, 2) := by decide +kernel
theorem dX4_firstOf_10 : decode cX4_firstOf 10 = .ok (.iload 4, 2) := by decide +kernel
theorem dX4_firstOf_12 : decode cX4_firstOf 12 = .ok (.ifCond .lt 38, 3) := by decide +kernel
theorem dX4_firstOf_15 : decode cX4_firstOf 15 = .ok (.aload_n 0, 1) := by decide +kernel
theorem dX4_firstOf_16 : decode cX4_firstOf 16 = .ok (.getfield 25, 3) := by decide +kernel
theorem dX4_firstOf_19 : decode cX4_firstOf 19 = .ok (.iload 4, 2) := by decide +kernel
theorem dX4_firstOf_21 : decode cX4_firstOf 21 = .ok (.iaload, 1) := by decide +kernel
theorem dX4_firstOf_22 : decode cX4_firstOf 22 = .ok (.iload_n 1, 1) := by decide +kernel
theorem dX4_firstOf_23 : decode cX4_firstOf 23 = .ok (.if_icmp .ne 19, 3) := by decide +kernel
theorem dX4_firstOf_26 : decode cX4_firstOf 26 = .ok (.aload_n 0, 1) := by decide +kernel
theorem dX4_firstOf_27 : decode cX4_firstOf 27 = .ok (.getfield 29, 3) := by decide +kernel
theorem dX4_firstOf_30 : decode cX4_firstOf 30 = .ok (.iload 4, 2) := by decide +kernel
theorem dX4_firstOf_32 : decode cX4_firstOf 32 = .ok (.iaload, 1) := by decide +kernel
theorem dX4_firstOf_33 : decode cX4_firstOf 33 = .ok (.iload_n 2, 1) := by decide +kernel
theorem dX4_firstOf_34 : decode cX4_firstOf 34 = .ok (.if_icmp .ne 8, 3) := by decide +kernel
theorem dX4_firstOf_37 : decode cX4_firstOf 37 = .ok (.iload 4, 2) := by decide +kernel
theorem dX4_firstOf_39 : decode cX4_firstOf 39 = .ok (.goto 4, 3) := by decide +kernel
theorem dX4_firstOf_42 : decode cX4_firstOf 42 = .ok (.iload_n 3, 1) := by decide +kernel
theorem dX4_firstOf_43 : decode cX4_firstOf 43 = .ok (.istore_n 3, 1) := by decide +kernel
theorem dX4_firstOf_44 : decode cX4_firstOf 44 = .ok (.iinc 4 (-1), 3) := by decide +kernel
theorem dX4_firstOf_47 : decode cX4_firstOf 47 = .ok (.goto (-37), 3) := by decide +kernel
theorem dX4_firstOf_50 : decode cX4_firstOf 50 = .ok (.iload_n 3, 1) := by decide +kernel
theorem dX4_firstOf_51 : decode cX4_firstOf 51 = .ok (.ireturn, 1) := by decide +kernel
theorem dX4_home_0 : decode cX4_home 0 = .ok (.aload_n 0, 1) := by decide +kernel
theorem dX4_home_1 : decode cX4_home 1 = .ok (.aload_n 0, 1) := by decide +kernel
theorem dX4_home_2 : decode cX4_home 2 = .ok (.getfield 25, 3) := by decide +kernel
theorem dX4_home_5 : decode cX4_home 5 = .ok (.iload_n 1, 1) := by decide +kernel
theorem dX4_home_6 : decode cX4_home 6 = .ok (.iaload, 1) := by decide +kernel
theorem dX4_home_7 : decode cX4_home 7 = .ok (.aload_n 0, 1) := by decide +kernel
theorem dX4_home_8 : decode cX4_home 8 = .ok (.getfield 29, 3) := by decide +kernel
theorem dX4_home_11 : decode cX4_home 11 = .ok (.iload_n 1, 1) := by decide +kernel
theorem dX4_home_12 : decode cX4_home 12 = .ok (.iaload, 1) := by decide +kernel
theorem dX4_home_13 : decode cX4_home 13 = .ok (.invokevirtual 72, 3) := by decide +kernel
theorem dX4_home_16 : decode cX4_home 16 = .ok (.ireturn, 1) := by decide +kernel
theorem dX4_premiumsOf_0 : decode cX4_premiumsOf 0 = .ok (.lconst 0, 1) := by decide +kernel
theorem dX4_premiumsOf_1 : decode cX4_premiumsOf 1 = .ok (.lstore_n 3, 1) := by decide +kernel
theorem dX4_premiumsOf_2 : decode cX4_premiumsOf 2 = .ok (.iconst 0, 1) := by decide +kernel
theorem dX4_premiumsOf_3 : decode cX4_premiumsOf 3 = .ok (.istore 5, 2) := by decide +kernel
theorem dX4_premiumsOf_5 : decode cX4_premiumsOf 5 = .ok (.iload 5, 2) := by decide +kernel
theorem dX4_premiumsOf_7 : decode cX4_premiumsOf 7 = .ok (.aload_n 0, 1) := by decide +kernel
theorem dX4_premiumsOf_8 : decode cX4_premiumsOf 8 = .ok (.getfield 63, 3) := by decide +kernel
theorem dX4_premiumsOf_11 : decode cX4_premiumsOf 11 = .ok (.if_icmp .ge 56, 3) := by decide +kernel
theorem dX4_premiumsOf_14 : decode cX4_premiumsOf 14 = .ok (.lload_n 3, 1) := by decide +kernel
theorem dX4_premiumsOf_15 : decode cX4_premiumsOf 15 = .ok (.aload_n 0, 1) := by decide +kernel
theorem dX4_premiumsOf_16 : decode cX4_premiumsOf 16 = .ok (.getfield 25, 3) := by decide +kernel
theorem dX4_premiumsOf_19 : decode cX4_premiumsOf 19 = .ok (.iload 5, 2) := by decide +kernel
theorem dX4_premiumsOf_21 : decode cX4_premiumsOf 21 = .ok (.iaload, 1) := by decide +kernel
theorem dX4_premiumsOf_22 : decode cX4_premiumsOf 22 = .ok (.iload_n 1, 1) := by decide +kernel
theorem dX4_premiumsOf_23 : decode cX4_premiumsOf 23 = .ok (.if_icmp .ne 35, 3) := by decide +kernel
theorem dX4_premiumsOf_26 : decode cX4_premiumsOf 26 = .ok (.aload_n 0, 1) := by decide +kernel
theorem dX4_premiumsOf_27 : decode cX4_premiumsOf 27 = .ok (.getfield 29, 3) := by decide +kernel
theorem dX4_premiumsOf_30 : decode cX4_premiumsOf 30 = .ok (.iload 5, 2) := by decide +kernel
theorem dX4_premiumsOf_32 : decode cX4_premiumsOf 32 = .ok (.iaload, 1) := by decide +kernel
theorem dX4_premiumsOf_33 : decode cX4_premiumsOf 33 = .ok (.iload_n 2, 1) := by decide +kernel
theorem dX4_premiumsOf_34 : decode cX4_premiumsOf 34 = .ok (.if_icmp .ne 24, 3) := by decide +kernel
theorem dX4_premiumsOf_37 : decode cX4_premiumsOf 37 = .ok (.aload_n 0, 1) := by decide +kernel
theorem dX4_premiumsOf_38 : decode cX4_premiumsOf 38 = .ok (.getfield 38, 3) := by decide +kernel
theorem dX4_premiumsOf_41 : decode cX4_premiumsOf 41 = .ok (.iload 5, 2) := by decide +kernel
theorem dX4_premiumsOf_43 : decode cX4_premiumsOf 43 = .ok (.iaload, 1) := by decide +kernel
theorem dX4_premiumsOf_44 : decode cX4_premiumsOf 44 = .ok (.ifCond .ne 14, 3) := by decide +kernel
theorem dX4_premiumsOf_47 : decode cX4_premiumsOf 47 = .ok (.aload_n 0, 1) := by decide +kernel
theorem dX4_premiumsOf_48 : decode cX4_premiumsOf 48 = .ok (.getfield 32, 3) := by decide +kernel
theorem dX4_premiumsOf_51 : decode cX4_premiumsOf 51 = .ok (.iload 5, 2) := by decide +kernel
theorem dX4_premiumsOf_53 : decode cX4_premiumsOf 53 = .ok (.iaload, 1) := by decide +kernel
theorem dX4_premiumsOf_54 : decode cX4_premiumsOf 54 = .ok (.i2l, 1) := by decide +kernel
theorem dX4_premiumsOf_55 : decode cX4_premiumsOf 55 = .ok (.goto 4, 3) := by decide +kernel
theorem dX4_premiumsOf_58 : decode cX4_premiumsOf 58 = .ok (.lconst 0, 1) := by decide +kernel
theorem dX4_premiumsOf_59 : decode cX4_premiumsOf 59 = .ok (.ladd, 1) := by decide +kernel
theorem dX4_premiumsOf_60 : decode cX4_premiumsOf 60 = .ok (.lstore_n 3, 1) := by decide +kernel
theorem dX4_premiumsOf_61 : decode cX4_premiumsOf 61 = .ok (.iinc 5 1, 3) := by decide +kernel
theorem dX4_premiumsOf_64 : decode cX4_premiumsOf 64 = .ok (.goto (-59), 3) := by decide +kernel
theorem dX4_premiumsOf_67 : decode cX4_premiumsOf 67 = .ok (.lload_n 3, 1) := by decide +kernel
theorem dX4_premiumsOf_68 : decode cX4_premiumsOf 68 = .ok (.lreturn, 1) := by decide +kernel
theorem dX4_share_0 : decode cX4_share 0 = .ok (.aload_n 0, 1) := by decide +kernel
theorem dX4_share_1 : decode cX4_share 1 = .ok (.getfield 38, 3) := by decide +kernel
theorem dX4_share_4 : decode cX4_share 4 = .ok (.iload_n 1, 1) := by decide +kernel
theorem dX4_share_5 : decode cX4_share 5 = .ok (.iaload, 1) := by decide +kernel
theorem dX4_share_6 : decode cX4_share 6 = .ok (.ifCond .eq 5, 3) := by decide +kernel
theorem dX4_share_9 : decode cX4_share 9 = .ok (.lconst 0, 1) := by decide +kernel
theorem dX4_share_10 : decode cX4_share 10 = .ok (.lreturn, 1) := by decide +kernel
theorem dX4_share_11 : decode cX4_share 11 = .ok (.aload_n 0, 1) := by decide +kernel
theorem dX4_share_12 : decode cX4_share 12 = .ok (.getfield 51, 3) := by decide +kernel
theorem dX4_share_15 : decode cX4_share 15 = .ok (.aload_n 0, 1) := by decide +kernel
theorem dX4_share_16 : decode cX4_share 16 = .ok (.iload_n 1, 1) := by decide +kernel
theorem dX4_share_17 : decode cX4_share 17 = .ok (.invokevirtual 76, 3) := by decide +kernel
theorem dX4_share_20 : decode cX4_share 20 = .ok (.laload, 1) := by decide +kernel
theorem dX4_share_21 : decode cX4_share 21 = .ok (.aload_n 0, 1) := by decide +kernel
theorem dX4_share_22 : decode cX4_share 22 = .ok (.getfield 32, 3) := by decide +kernel
theorem dX4_share_25 : decode cX4_share 25 = .ok (.iload_n 1, 1) := by decide +kernel
theorem dX4_share_26 : decode cX4_share 26 = .ok (.iaload, 1) := by decide +kernel
theorem dX4_share_27 : decode cX4_share 27 = .ok (.i2l, 1) := by decide +kernel
theorem dX4_share_28 : decode cX4_share 28 = .ok (.lmul, 1) := by decide +kernel
theorem dX4_share_29 : decode cX4_share 29 = .ok (.aload_n 0, 1) := by decide +kernel
theorem dX4_share_30 : decode cX4_share 30 = .ok (.aload_n 0, 1) := by decide +kernel
theorem dX4_share_31 : decode cX4_share 31 = .ok (.getfield 25, 3) := by decide +kernel
theorem dX4_share_34 : decode cX4_share 34 = .ok (.iload_n 1, 1) := by decide +kernel
theorem dX4_share_35 : decode cX4_share 35 = .ok (.iaload, 1) := by decide +kernel
theorem dX4_share_36 : decode cX4_share 36 = .ok (.aload_n 0, 1) := by decide +kernel
theorem dX4_share_37 : decode cX4_share 37 = .ok (.getfield 29, 3) := by decide +kernel
theorem dX4_share_40 : decode cX4_share 40 = .ok (.iload_n 1, 1) := by decide +kernel
theorem dX4_share_41 : decode cX4_share 41 = .ok (.iaload, 1) := by decide +kernel
theorem dX4_share_42 : decode cX4_share 42 = .ok (.invokevirtual 80, 3) := by decide +kernel
theorem dX4_share_45 : decode cX4_share 45 = .ok (.ldiv, 1) := by decide +kernel
theorem dX4_share_46 : decode cX4_share 46 = .ok (.lreturn, 1) := by decide +kernel
theorem dX4_leaves_0 : decode cX4_leaves 0 = .ok (.aload_n 0, 1) := by decide +kernel
theorem dX4_leaves_1 : decode cX4_leaves 1 = .ok (.iload_n 1, 1) := by decide +kernel
theorem dX4_leaves_2 : decode cX4_leaves 2 = .ok (.invokevirtual 76, 3) := by decide +kernel
theorem dX4_leaves_5 : decode cX4_leaves 5 = .ok (.istore 6, 2) := by decide +kernel
theorem dX4_leaves_7 : decode cX4_leaves 7 = .ok (.aload_n 0, 1) := by decide +kernel
theorem dX4_leaves_8 : decode cX4_leaves 8 = .ok (.getfield 51, 3) := by decide +kernel
theorem dX4_leaves_11 : decode cX4_leaves 11 = .ok (.iload 6, 2) := by decide +kernel
theorem dX4_leaves_13 : decode cX4_leaves 13 = .ok (.dup2, 1) := by decide +kernel
theorem dX4_leaves_14 : decode cX4_leaves 14 = .ok (.laload, 1) := by decide +kernel
theorem dX4_leaves_15 : decode cX4_leaves 15 = .ok (.lload_n 3, 1) := by decide +kernel
theorem dX4_leaves_16 : decode cX4_leaves 16 = .ok (.lsub, 1) := by decide +kernel
theorem dX4_leaves_17 : decode cX4_leaves 17 = .ok (.lastore, 1) := by decide +kernel
theorem dX4_leaves_18 : decode cX4_leaves 18 = .ok (.aload_n 0, 1) := by decide +kernel
theorem dX4_leaves_19 : decode cX4_leaves 19 = .ok (.dup, 1) := by decide +kernel
theorem dX4_leaves_20 : decode cX4_leaves 20 = .ok (.getfield 84, 3) := by decide +kernel
theorem dX4_leaves_23 : decode cX4_leaves 23 = .ok (.lload_n 3, 1) := by decide +kernel
theorem dX4_leaves_24 : decode cX4_leaves 24 = .ok (.iload 5, 2) := by decide +kernel
theorem dX4_leaves_26 : decode cX4_leaves 26 = .ok (.i2l, 1) := by decide +kernel
theorem dX4_leaves_27 : decode cX4_leaves 27 = .ok (.lsub, 1) := by decide +kernel
theorem dX4_leaves_28 : decode cX4_leaves 28 = .ok (.ladd, 1) := by decide +kernel
theorem dX4_leaves_29 : decode cX4_leaves 29 = .ok (.putfield 84, 3) := by decide +kernel
theorem dX4_leaves_32 : decode cX4_leaves 32 = .ok (.aload_n 0, 1) := by decide +kernel
theorem dX4_leaves_33 : decode cX4_leaves 33 = .ok (.dup, 1) := by decide +kernel
theorem dX4_leaves_34 : decode cX4_leaves 34 = .ok (.getfield 88, 3) := by decide +kernel
theorem dX4_leaves_37 : decode cX4_leaves 37 = .ok (.iload 5, 2) := by decide +kernel
theorem dX4_leaves_39 : decode cX4_leaves 39 = .ok (.i2l, 1) := by decide +kernel
theorem dX4_leaves_40 : decode cX4_leaves 40 = .ok (.lsub, 1) := by decide +kernel
theorem dX4_leaves_41 : decode cX4_leaves 41 = .ok (.putfield 88, 3) := by decide +kernel
theorem dX4_leaves_44 : decode cX4_leaves 44 = .ok (.aload_n 0, 1) := by decide +kernel
theorem dX4_leaves_45 : decode cX4_leaves 45 = .ok (.getfield 38, 3) := by decide +kernel
theorem dX4_leaves_48 : decode cX4_leaves 48 = .ok (.iload_n 1, 1) := by decide +kernel
theorem dX4_leaves_49 : decode cX4_leaves 49 = .ok (.iload_n 2, 1) := by decide +kernel
theorem dX4_leaves_50 : decode cX4_leaves 50 = .ok (.iastore, 1) := by decide +kernel
theorem dX4_leaves_51 : decode cX4_leaves 51 = .ok (.aload_n 0, 1) := by decide +kernel
theorem dX4_leaves_52 : decode cX4_leaves 52 = .ok (.getfield 44, 3) := by decide +kernel
theorem dX4_leaves_55 : decode cX4_leaves 55 = .ok (.iload_n 1, 1) := by decide +kernel
theorem dX4_leaves_56 : decode cX4_leaves 56 = .ok (.iload 5, 2) := by decide +kernel
theorem dX4_leaves_58 : decode cX4_leaves 58 = .ok (.iastore, 1) := by decide +kernel
theorem dX4_leaves_59 : decode cX4_leaves 59 = .ok (.aload_n 0, 1) := by decide +kernel
theorem dX4_leaves_60 : decode cX4_leaves 60 = .ok (.aload_n 0, 1) := by decide +kernel
theorem dX4_leaves_61 : decode cX4_leaves 61 = .ok (.getfield 25, 3) := by decide +kernel
theorem dX4_leaves_64 : decode cX4_leaves 64 = .ok (.iload_n 1, 1) := by decide +kernel
theorem dX4_leaves_65 : decode cX4_leaves 65 = .ok (.iaload, 1) := by decide +kernel
theorem dX4_leaves_66 : decode cX4_leaves 66 = .ok (.aload_n 0, 1) := by decide +kernel
theorem dX4_leaves_67 : decode cX4_leaves 67 = .ok (.getfield 29, 3) := by decide +kernel
theorem dX4_leaves_70 : decode cX4_leaves 70 = .ok (.iload_n 1, 1) := by decide +kernel
theorem dX4_leaves_71 : decode cX4_leaves 71 = .ok (.iaload, 1) := by decide +kernel
theorem dX4_leaves_72 : decode cX4_leaves 72 = .ok (.invokevirtual 80, 3) := by decide +kernel
theorem dX4_leaves_75 : decode cX4_leaves 75 = .ok (.lconst 0, 1) := by decide +kernel
theorem dX4_leaves_76 : decode cX4_leaves 76 = .ok (.lcmp, 1) := by decide +kernel
theorem dX4_leaves_77 : decode cX4_leaves 77 = .ok (.ifCond .ne 27, 3) := by decide +kernel
theorem dX4_leaves_80 : decode cX4_leaves 80 = .ok (.aload_n 0, 1) := by decide +kernel
theorem dX4_leaves_81 : decode cX4_leaves 81 = .ok (.dup, 1) := by decide +kernel
theorem dX4_leaves_82 : decode cX4_leaves 82 = .ok (.getfield 84, 3) := by decide +kernel
theorem dX4_leaves_85 : decode cX4_leaves 85 = .ok (.aload_n 0, 1) := by decide +kernel
theorem dX4_leaves_86 : decode cX4_leaves 86 = .ok (.getfield 51, 3) := by decide +kernel
theorem dX4_leaves_89 : decode cX4_leaves 89 = .ok (.iload 6, 2) := by decide +kernel
theorem dX4_leaves_91 : decode cX4_leaves 91 = .ok (.laload, 1) := by decide +kernel
theorem dX4_leaves_92 : decode cX4_leaves 92 = .ok (.ladd, 1) := by decide +kernel
theorem dX4_leaves_93 : decode cX4_leaves 93 = .ok (.putfield 84, 3) := by decide +kernel
theorem dX4_leaves_96 : decode cX4_leaves 96 = .ok (.aload_n 0, 1) := by decide +kernel
theorem dX4_leaves_97 : decode cX4_leaves 97 = .ok (.getfield 51, 3) := by decide +kernel
theorem dX4_leaves_100 : decode cX4_leaves 100 = .ok (.iload 6, 2) := by decide +kernel
theorem dX4_leaves_102 : decode cX4_leaves 102 = .ok (.lconst 0, 1) := by decide +kernel
theorem dX4_leaves_103 : decode cX4_leaves 103 = .ok (.lastore, 1) := by decide +kernel
theorem dX4_leaves_104 : decode cX4_leaves 104 = .ok (.return_, 1) := by decide +kernel
theorem dX4_begin_0 : decode cX4_begin 0 = .ok (.aload_n 0, 1) := by decide +kernel
theorem dX4_begin_1 : decode cX4_begin 1 = .ok (.iload_n 1, 1) := by decide +kernel
theorem dX4_begin_2 : decode cX4_begin 2 = .ok (.iconst 2, 1) := by decide +kernel
theorem dX4_begin_3 : decode cX4_begin 3 = .ok (.bipush 20, 2) := by decide +kernel
theorem dX4_begin_5 : decode cX4_begin 5 = .ok (.invokestatic 66, 3) := by decide +kernel
theorem dX4_begin_8 : decode cX4_begin 8 = .ok (.ifCond .eq 24, 3) := by decide +kernel
theorem dX4_begin_11 : decode cX4_begin 11 = .ok (.iload_n 2, 1) := by decide +kernel
theorem dX4_begin_12 : decode cX4_begin 12 = .ok (.iconst 1, 1) := by decide +kernel
theorem dX4_begin_13 : decode cX4_begin 13 = .ok (.sipush 1000, 3) := by decide +kernel
theorem dX4_begin_16 : decode cX4_begin 16 = .ok (.invokestatic 66, 3) := by decide +kernel
theorem dX4_begin_19 : decode cX4_begin 19 = .ok (.ifCond .eq 13, 3) := by decide +kernel
theorem dX4_begin_22 : decode cX4_begin 22 = .ok (.iload_n 3, 1) := by decide +kernel
theorem dX4_begin_23 : decode cX4_begin 23 = .ok (.iconst 0, 1) := by decide +kernel
theorem dX4_begin_24 : decode cX4_begin 24 = .ok (.ldc 91, 2) := by decide +kernel
theorem dX4_begin_26 : decode cX4_begin 26 = .ok (.invokestatic 66, 3) := by decide +kernel
theorem dX4_begin_29 : decode cX4_begin 29 = .ok (.ifCond .ne 7, 3) := by decide +kernel
theorem dX4_begin_32 : decode cX4_begin 32 = .ok (.iconst 1, 1) := by decide +kernel
theorem dX4_begin_33 : decode cX4_begin 33 = .ok (.goto 17, 3) := by decide +kernel
theorem dX4_begin_36 : decode cX4_begin 36 = .ok (.aload_n 0, 1) := by decide +kernel
theorem dX4_begin_37 : decode cX4_begin 37 = .ok (.getfield 63, 3) := by decide +kernel
theorem dX4_begin_40 : decode cX4_begin 40 = .ok (.bipush 30, 2) := by decide +kernel
theorem dX4_begin_42 : decode cX4_begin 42 = .ok (.if_icmp .ne 7, 3) := by decide +kernel
theorem dX4_begin_45 : decode cX4_begin 45 = .ok (.iconst 2, 1) := by decide +kernel
theorem dX4_begin_46 : decode cX4_begin 46 = .ok (.goto 4, 3) := by decide +kernel
theorem dX4_begin_49 : decode cX4_begin 49 = .ok (.iconst 0, 1) := by decide +kernel
theorem dX4_begin_50 : decode cX4_begin 50 = .ok (.putfield 60, 3) := by decide +kernel
theorem dX4_begin_53 : decode cX4_begin 53 = .ok (.aload_n 0, 1) := by decide +kernel
theorem dX4_begin_54 : decode cX4_begin 54 = .ok (.getfield 60, 3) := by decide +kernel
theorem dX4_begin_57 : decode cX4_begin 57 = .ok (.ifCond .le 5, 3) := by decide +kernel
theorem dX4_begin_60 : decode cX4_begin 60 = .ok (.iconst 0, 1) := by decide +kernel
theorem dX4_begin_61 : decode cX4_begin 61 = .ok (.ireturn, 1) := by decide +kernel
theorem dX4_begin_62 : decode cX4_begin 62 = .ok (.aload_n 0, 1) := by decide +kernel
theorem dX4_begin_63 : decode cX4_begin 63 = .ok (.getfield 25, 3) := by decide +kernel
theorem dX4_begin_66 : decode cX4_begin 66 = .ok (.aload_n 0, 1) := by decide +kernel
theorem dX4_begin_67 : decode cX4_begin 67 = .ok (.getfield 63, 3) := by decide +kernel
theorem dX4_begin_70 : decode cX4_begin 70 = .ok (.aload_n 0, 1) := by decide +kernel
theorem dX4_begin_71 : decode cX4_begin 71 = .ok (.getfield 92, 3) := by decide +kernel
theorem dX4_begin_74 : decode cX4_begin 74 = .ok (.iastore, 1) := by decide +kernel
theorem dX4_begin_75 : decode cX4_begin 75 = .ok (.aload_n 0, 1) := by decide +kernel
theorem dX4_begin_76 : decode cX4_begin 76 = .ok (.getfield 29, 3) := by decide +kernel
theorem dX4_begin_79 : decode cX4_begin 79 = .ok (.aload_n 0, 1) := by decide +kernel
theorem dX4_begin_80 : decode cX4_begin 80 = .ok (.getfield 63, 3) := by decide +kernel
theorem dX4_begin_83 : decode cX4_begin 83 = .ok (.iload_n 1, 1) := by decide +kernel
theorem dX4_begin_84 : decode cX4_begin 84 = .ok (.iastore, 1) := by decide +kernel
theorem dX4_begin_85 : decode cX4_begin 85 = .ok (.aload_n 0, 1) := by decide +kernel
theorem dX4_begin_86 : decode cX4_begin 86 = .ok (.getfield 32, 3) := by decide +kernel
theorem dX4_begin_89 : decode cX4_begin 89 = .ok (.aload_n 0, 1) := by decide +kernel
theorem dX4_begin_90 : decode cX4_begin 90 = .ok (.getfield 63, 3) := by decide +kernel
theorem dX4_begin_93 : decode cX4_begin 93 = .ok (.iload_n 2, 1) := by decide +kernel
theorem dX4_begin_94 : decode cX4_begin 94 = .ok (.iastore, 1) := by decide +kernel
theorem dX4_begin_95 : decode cX4_begin 95 = .ok (.aload_n 0, 1) := by decide +kernel
theorem dX4_begin_96 : decode cX4_begin 96 = .ok (.getfield 35, 3) := by decide +kernel
theorem dX4_begin_99 : decode cX4_begin 99 = .ok (.aload_n 0, 1) := by decide +kernel
theorem dX4_begin_100 : decode cX4_begin 100 = .ok (.getfield 63, 3) := by decide +kernel
theorem dX4_begin_103 : decode cX4_begin 103 = .ok (.iload_n 3, 1) := by decide +kernel
theorem dX4_begin_104 : decode cX4_begin 104 = .ok (.iastore, 1) := by decide +kernel
theorem dX4_begin_105 : decode cX4_begin 105 = .ok (.aload_n 0, 1) := by decide +kernel
theorem dX4_begin_106 : decode cX4_begin 106 = .ok (.dup, 1) := by decide +kernel
theorem dX4_begin_107 : decode cX4_begin 107 = .ok (.getfield 63, 3) := by decide +kernel
theorem dX4_begin_110 : decode cX4_begin 110 = .ok (.iconst 1, 1) := by decide +kernel
theorem dX4_begin_111 : decode cX4_begin 111 = .ok (.iadd, 1) := by decide +kernel
theorem dX4_begin_112 : decode cX4_begin 112 = .ok (.putfield 63, 3) := by decide +kernel
theorem dX4_begin_115 : decode cX4_begin 115 = .ok (.aload_n 0, 1) := by decide +kernel
theorem dX4_begin_116 : decode cX4_begin 116 = .ok (.getfield 63, 3) := by decide +kernel
theorem dX4_begin_119 : decode cX4_begin 119 = .ok (.iconst 1, 1) := by decide +kernel
theorem dX4_begin_120 : decode cX4_begin 120 = .ok (.isub, 1) := by decide +kernel
theorem dX4_begin_121 : decode cX4_begin 121 = .ok (.ireturn, 1) := by decide +kernel
theorem dX4_worthOf_0 : decode cX4_worthOf 0 = .ok (.aload_n 0, 1) := by decide +kernel
theorem dX4_worthOf_1 : decode cX4_worthOf 1 = .ok (.getfield 92, 3) := by decide +kernel
theorem dX4_worthOf_4 : decode cX4_worthOf 4 = .ok (.aload_n 0, 1) := by decide +kernel
theorem dX4_worthOf_5 : decode cX4_worthOf 5 = .ok (.getfield 25, 3) := by decide +kernel
theorem dX4_worthOf_8 : decode cX4_worthOf 8 = .ok (.iload_n 1, 1) := by decide +kernel
theorem dX4_worthOf_9 : decode cX4_worthOf 9 = .ok (.iaload, 1) := by decide +kernel
theorem dX4_worthOf_10 : decode cX4_worthOf 10 = .ok (.isub, 1) := by decide +kernel
theorem dX4_worthOf_11 : decode cX4_worthOf 11 = .ok (.istore_n 2, 1) := by decide +kernel
theorem dX4_worthOf_12 : decode cX4_worthOf 12 = .ok (.aload_n 0, 1) := by decide +kernel
theorem dX4_worthOf_13 : decode cX4_worthOf 13 = .ok (.iload_n 1, 1) := by decide +kernel
theorem dX4_worthOf_14 : decode cX4_worthOf 14 = .ok (.invokevirtual 95, 3) := by decide +kernel
theorem dX4_worthOf_17 : decode cX4_worthOf 17 = .ok (.ldc2_w 99, 3) := by decide +kernel
theorem dX4_worthOf_20 : decode cX4_worthOf 20 = .ok (.ldc2_w 101, 3) := by decide +kernel
theorem dX4_worthOf_23 : decode cX4_worthOf 23 = .ok (.iload_n 2, 1) := by decide +kernel
theorem dX4_worthOf_24 : decode cX4_worthOf 24 = .ok (.i2l, 1) := by decide +kernel
theorem dX4_worthOf_25 : decode cX4_worthOf 25 = .ok (.lmul, 1) := by decide +kernel
theorem dX4_worthOf_26 : decode cX4_worthOf 26 = .ok (.aload_n 0, 1) := by decide +kernel
theorem dX4_worthOf_27 : decode cX4_worthOf 27 = .ok (.getfield 29, 3) := by decide +kernel
theorem dX4_worthOf_30 : decode cX4_worthOf 30 = .ok (.iload_n 1, 1) := by decide +kernel
theorem dX4_worthOf_31 : decode cX4_worthOf 31 = .ok (.iaload, 1) := by decide +kernel
theorem dX4_worthOf_32 : decode cX4_worthOf 32 = .ok (.i2l, 1) := by decide +kernel
theorem dX4_worthOf_33 : decode cX4_worthOf 33 = .ok (.ldiv, 1) := by decide +kernel
theorem dX4_worthOf_34 : decode cX4_worthOf 34 = .ok (.ladd, 1) := by decide +kernel
theorem dX4_worthOf_35 : decode cX4_worthOf 35 = .ok (.invokestatic 103, 3) := by decide +kernel
theorem dX4_worthOf_38 : decode cX4_worthOf 38 = .ok (.lstore_n 3, 1) := by decide +kernel
theorem dX4_worthOf_39 : decode cX4_worthOf 39 = .ok (.iload_n 2, 1) := by decide +kernel
theorem dX4_worthOf_40 : decode cX4_worthOf 40 = .ok (.i2l, 1) := by decide +kernel
theorem dX4_worthOf_41 : decode cX4_worthOf 41 = .ok (.aload_n 0, 1) := by decide +kernel
theorem dX4_worthOf_42 : decode cX4_worthOf 42 = .ok (.getfield 32, 3) := by decide +kernel
theorem dX4_worthOf_45 : decode cX4_worthOf 45 = .ok (.iload_n 1, 1) := by decide +kernel
theorem dX4_worthOf_46 : decode cX4_worthOf 46 = .ok (.iaload, 1) := by decide +kernel
theorem dX4_worthOf_47 : decode cX4_worthOf 47 = .ok (.i2l, 1) := by decide +kernel
theorem dX4_worthOf_48 : decode cX4_worthOf 48 = .ok (.lmul, 1) := by decide +kernel
theorem dX4_worthOf_49 : decode cX4_worthOf 49 = .ok (.aload_n 0, 1) := by decide +kernel
theorem dX4_worthOf_50 : decode cX4_worthOf 50 = .ok (.getfield 22, 3) := by decide +kernel
theorem dX4_worthOf_53 : decode cX4_worthOf 53 = .ok (.i2l, 1) := by decide +kernel
theorem dX4_worthOf_54 : decode cX4_worthOf 54 = .ok (.invokestatic 103, 3) := by decide +kernel
theorem dX4_worthOf_57 : decode cX4_worthOf 57 = .ok (.lstore 5, 2) := by decide +kernel
theorem dX4_worthOf_59 : decode cX4_worthOf 59 = .ok (.lload_n 3, 1) := by decide +kernel
theorem dX4_worthOf_60 : decode cX4_worthOf 60 = .ok (.lload 5, 2) := by decide +kernel
theorem dX4_worthOf_62 : decode cX4_worthOf 62 = .ok (.lcmp, 1) := by decide +kernel
theorem dX4_worthOf_63 : decode cX4_worthOf 63 = .ok (.ifCond .le 7, 3) := by decide +kernel
theorem dX4_worthOf_66 : decode cX4_worthOf 66 = .ok (.lload_n 3, 1) := by decide +kernel
theorem dX4_worthOf_67 : decode cX4_worthOf 67 = .ok (.goto 5, 3) := by decide +kernel
theorem dX4_worthOf_70 : decode cX4_worthOf 70 = .ok (.lload 5, 2) := by decide +kernel
theorem dX4_worthOf_72 : decode cX4_worthOf 72 = .ok (.lreturn, 1) := by decide +kernel
theorem dX4_canLeave_0 : decode cX4_canLeave 0 = .ok (.aload_n 0, 1) := by decide +kernel
theorem dX4_canLeave_1 : decode cX4_canLeave 1 = .ok (.iload_n 1, 1) := by decide +kernel
theorem dX4_canLeave_2 : decode cX4_canLeave 2 = .ok (.invokevirtual 107, 3) := by decide +kernel
theorem dX4_canLeave_5 : decode cX4_canLeave 5 = .ok (.ifCond .eq 34, 3) := by decide +kernel
theorem dX4_canLeave_8 : decode cX4_canLeave 8 = .ok (.aload_n 0, 1) := by decide +kernel
theorem dX4_canLeave_9 : decode cX4_canLeave 9 = .ok (.aload_n 0, 1) := by decide +kernel
theorem dX4_canLeave_10 : decode cX4_canLeave 10 = .ok (.getfield 38, 3) := by decide +kernel
theorem dX4_canLeave_13 : decode cX4_canLeave 13 = .ok (.iload_n 1, 1) := by decide +kernel
theorem dX4_canLeave_14 : decode cX4_canLeave 14 = .ok (.iaload, 1) := by decide +kernel
theorem dX4_canLeave_15 : decode cX4_canLeave 15 = .ok (.ifCond .ne 20, 3) := by decide +kernel
theorem dX4_canLeave_18 : decode cX4_canLeave 18 = .ok (.aload_n 0, 1) := by decide +kernel
theorem dX4_canLeave_19 : decode cX4_canLeave 19 = .ok (.getfield 92, 3) := by decide +kernel
theorem dX4_canLeave_22 : decode cX4_canLeave 22 = .ok (.aload_n 0, 1) := by decide +kernel
theorem dX4_canLeave_23 : decode cX4_canLeave 23 = .ok (.getfield 25, 3) := by decide +kernel
theorem dX4_canLeave_26 : decode cX4_canLeave 26 = .ok (.iload_n 1, 1) := by decide +kernel
theorem dX4_canLeave_27 : decode cX4_canLeave 27 = .ok (.iaload, 1) := by decide +kernel
theorem dX4_canLeave_28 : decode cX4_canLeave 28 = .ok (.if_icmp .le 7, 3) := by decide +kernel
theorem dX4_canLeave_31 : decode cX4_canLeave 31 = .ok (.iconst 0, 1) := by decide +kernel
theorem dX4_canLeave_32 : decode cX4_canLeave 32 = .ok (.goto 4, 3) := by decide +kernel
theorem dX4_canLeave_35 : decode cX4_canLeave 35 = .ok (.iconst 2, 1) := by decide +kernel
theorem dX4_canLeave_36 : decode cX4_canLeave 36 = .ok (.putfield 60, 3) := by decide +kernel
theorem dX4_canLeave_39 : decode cX4_canLeave 39 = .ok (.aload_n 0, 1) := by decide +kernel
theorem dX4_canLeave_40 : decode cX4_canLeave 40 = .ok (.getfield 60, 3) := by decide +kernel
theorem dX4_canLeave_43 : decode cX4_canLeave 43 = .ok (.ifCond .ne 7, 3) := by decide +kernel
theorem dX4_canLeave_46 : decode cX4_canLeave 46 = .ok (.iconst 1, 1) := by decide +kernel
theorem dX4_canLeave_47 : decode cX4_canLeave 47 = .ok (.goto 4, 3) := by decide +kernel
theorem dX4_canLeave_50 : decode cX4_canLeave 50 = .ok (.iconst 0, 1) := by decide +kernel
theorem dX4_canLeave_51 : decode cX4_canLeave 51 = .ok (.ireturn, 1) := by decide +kernel
theorem dX4_surrender_0 : decode cX4_surrender 0 = .ok (.aload_n 0, 1) := by decide +kernel
theorem dX4_surrender_1 : decode cX4_surrender 1 = .ok (.iload_n 1, 1) := by decide +kernel
theorem dX4_surrender_2 : decode cX4_surrender 2 = .ok (.invokevirtual 111, 3) := by decide +kernel
theorem dX4_surrender_5 : decode cX4_surrender 5 = .ok (.ifCond .ne 5, 3) := by decide +kernel
theorem dX4_surrender_8 : decode cX4_surrender 8 = .ok (.iconst 0, 1) := by decide +kernel
theorem dX4_surrender_9 : decode cX4_surrender 9 = .ok (.ireturn, 1) := by decide +kernel
theorem dX4_surrender_10 : decode cX4_surrender 10 = .ok (.aload_n 0, 1) := by decide +kernel
theorem dX4_surrender_11 : decode cX4_surrender 11 = .ok (.iload_n 1, 1) := by decide +kernel
theorem dX4_surrender_12 : decode cX4_surrender 12 = .ok (.invokevirtual 114, 3) := by decide +kernel
theorem dX4_surrender_15 : decode cX4_surrender 15 = .ok (.l2i, 1) := by decide +kernel
theorem dX4_surrender_16 : decode cX4_surrender 16 = .ok (.istore_n 2, 1) := by decide +kernel
theorem dX4_surrender_17 : decode cX4_surrender 17 = .ok (.aload_n 0, 1) := by decide +kernel
theorem dX4_surrender_18 : decode cX4_surrender 18 = .ok (.iload_n 1, 1) := by decide +kernel
theorem dX4_surrender_19 : decode cX4_surrender 19 = .ok (.iconst 2, 1) := by decide +kernel
theorem dX4_surrender_20 : decode cX4_surrender 20 = .ok (.aload_n 0, 1) := by decide +kernel
theorem dX4_surrender_21 : decode cX4_surrender 21 = .ok (.iload_n 1, 1) := by decide +kernel
theorem dX4_surrender_22 : decode cX4_surrender 22 = .ok (.invokevirtual 95, 3) := by decide +kernel
theorem dX4_surrender_25 : decode cX4_surrender 25 = .ok (.iload_n 2, 1) := by decide +kernel
theorem dX4_surrender_26 : decode cX4_surrender 26 = .ok (.invokevirtual 117, 3) := by decide +kernel
theorem dX4_surrender_29 : decode cX4_surrender 29 = .ok (.iload_n 2, 1) := by decide +kernel
theorem dX4_surrender_30 : decode cX4_surrender 30 = .ok (.ireturn, 1) := by decide +kernel
theorem dX4_setRates_0 : decode cX4_setRates 0 = .ok (.aload_n 0, 1) := by decide +kernel
theorem dX4_setRates_1 : decode cX4_setRates 1 = .ok (.iload_n 1, 1) := by decide +kernel
theorem dX4_setRates_2 : decode cX4_setRates 2 = .ok (.iconst 0, 1) := by decide +kernel
theorem dX4_setRates_3 : decode cX4_setRates 3 = .ok (.sipush 200, 3) := by decide +kernel
theorem dX4_setRates_6 : decode cX4_setRates 6 = .ok (.invokestatic 66, 3) := by decide +kernel
theorem dX4_setRates_9 : decode cX4_setRates 9 = .ok (.ifCond .eq 17, 3) := by decide +kernel
theorem dX4_setRates_12 : decode cX4_setRates 12 = .ok (.iload_n 2, 1) := by decide +kernel
theorem dX4_setRates_13 : decode cX4_setRates 13 = .ok (.iconst 0, 1) := by decide +kernel
theorem dX4_setRates_14 : decode cX4_setRates 14 = .ok (.bipush 100, 2) := by decide +kernel
theorem dX4_setRates_16 : decode cX4_setRates 16 = .ok (.invokestatic 66, 3) := by decide +kernel
theorem dX4_setRates_19 : decode cX4_setRates 19 = .ok (.ifCond .eq 7, 3) := by decide +kernel
theorem dX4_setRates_22 : decode cX4_setRates 22 = .ok (.iconst 0, 1) := by decide +kernel
theorem dX4_setRates_23 : decode cX4_setRates 23 = .ok (.goto 4, 3) := by decide +kernel
theorem dX4_setRates_26 : decode cX4_setRates 26 = .ok (.iconst 1, 1) := by decide +kernel
theorem dX4_setRates_27 : decode cX4_setRates 27 = .ok (.putfield 60, 3) := by decide +kernel
theorem dX4_setRates_30 : decode cX4_setRates 30 = .ok (.aload_n 0, 1) := by decide +kernel
theorem dX4_setRates_31 : decode cX4_setRates 31 = .ok (.getfield 60, 3) := by decide +kernel
theorem dX4_setRates_34 : decode cX4_setRates 34 = .ok (.ifCond .le 5, 3) := by decide +kernel
theorem dX4_setRates_37 : decode cX4_setRates 37 = .ok (.iconst 0, 1) := by decide +kernel
theorem dX4_setRates_38 : decode cX4_setRates 38 = .ok (.ireturn, 1) := by decide +kernel
theorem dX4_setRates_39 : decode cX4_setRates 39 = .ok (.aload_n 0, 1) := by decide +kernel
theorem dX4_setRates_40 : decode cX4_setRates 40 = .ok (.getfield 7, 3) := by decide +kernel
theorem dX4_setRates_43 : decode cX4_setRates 43 = .ok (.istore_n 3, 1) := by decide +kernel
theorem dX4_setRates_44 : decode cX4_setRates 44 = .ok (.aload_n 0, 1) := by decide +kernel
theorem dX4_setRates_45 : decode cX4_setRates 45 = .ok (.iload_n 1, 1) := by decide +kernel
theorem dX4_setRates_46 : decode cX4_setRates 46 = .ok (.putfield 7, 3) := by decide +kernel
theorem dX4_setRates_49 : decode cX4_setRates 49 = .ok (.aload_n 0, 1) := by decide +kernel
theorem dX4_setRates_50 : decode cX4_setRates 50 = .ok (.iload_n 2, 1) := by decide +kernel
theorem dX4_setRates_51 : decode cX4_setRates 51 = .ok (.putfield 13, 3) := by decide +kernel
theorem dX4_setRates_54 : decode cX4_setRates 54 = .ok (.iload_n 3, 1) := by decide +kernel
theorem dX4_setRates_55 : decode cX4_setRates 55 = .ok (.ireturn, 1) := by decide +kernel
theorem dX4_setScale_0 : decode cX4_setScale 0 = .ok (.aload_n 0, 1) := by decide +kernel
theorem dX4_setScale_1 : decode cX4_setScale 1 = .ok (.iload_n 1, 1) := by decide +kernel
theorem dX4_setScale_2 : decode cX4_setScale 2 = .ok (.sipush 500, 3) := by decide +kernel
theorem dX4_setScale_5 : decode cX4_setScale 5 = .ok (.sipush 1500, 3) := by decide +kernel
theorem dX4_setScale_8 : decode cX4_setScale 8 = .ok (.invokestatic 66, 3) := by decide +kernel
theorem dX4_setScale_11 : decode cX4_setScale 11 = .ok (.ifCond .eq 29, 3) := by decide +kernel
theorem dX4_setScale_14 : decode cX4_setScale 14 = .ok (.iload_n 2, 1) := by decide +kernel
theorem dX4_setScale_15 : decode cX4_setScale 15 = .ok (.iconst 0, 1) := by decide +kernel
theorem dX4_setScale_16 : decode cX4_setScale 16 = .ok (.sipush 1000, 3) := by decide +kernel
theorem dX4_setScale_19 : decode cX4_setScale 19 = .ok (.invokestatic 66, 3) := by decide +kernel
theorem dX4_setScale_22 : decode cX4_setScale 22 = .ok (.ifCond .eq 18, 3) := by decide +kernel
theorem dX4_setScale_25 : decode cX4_setScale 25 = .ok (.iload_n 3, 1) := by decide +kernel
theorem dX4_setScale_26 : decode cX4_setScale 26 = .ok (.iconst 0, 1) := by decide +kernel
theorem dX4_setScale_27 : decode cX4_setScale 27 = .ok (.sipush 1000, 3) := by decide +kernel
theorem dX4_setScale_30 : decode cX4_setScale 30 = .ok (.invokestatic 66, 3) := by decide +kernel
theorem dX4_setScale_33 : decode cX4_setScale 33 = .ok (.ifCond .eq 7, 3) := by decide +kernel
theorem dX4_setScale_36 : decode cX4_setScale 36 = .ok (.iconst 0, 1) := by decide +kernel
theorem dX4_setScale_37 : decode cX4_setScale 37 = .ok (.goto 4, 3) := by decide +kernel
theorem dX4_setScale_40 : decode cX4_setScale 40 = .ok (.iconst 1, 1) := by decide +kernel
theorem dX4_setScale_41 : decode cX4_setScale 41 = .ok (.putfield 60, 3) := by decide +kernel
theorem dX4_setScale_44 : decode cX4_setScale 44 = .ok (.aload_n 0, 1) := by decide +kernel
theorem dX4_setScale_45 : decode cX4_setScale 45 = .ok (.getfield 60, 3) := by decide +kernel
theorem dX4_setScale_48 : decode cX4_setScale 48 = .ok (.ifCond .le 5, 3) := by decide +kernel
theorem dX4_setScale_51 : decode cX4_setScale 51 = .ok (.iconst 0, 1) := by decide +kernel
theorem dX4_setScale_52 : decode cX4_setScale 52 = .ok (.ireturn, 1) := by decide +kernel
theorem dX4_setScale_53 : decode cX4_setScale 53 = .ok (.aload_n 0, 1) := by decide +kernel
theorem dX4_setScale_54 : decode cX4_setScale 54 = .ok (.getfield 16, 3) := by decide +kernel
theorem dX4_setScale_57 : decode cX4_setScale 57 = .ok (.istore 4, 2) := by decide +kernel
theorem dX4_setScale_59 : decode cX4_setScale 59 = .ok (.aload_n 0, 1) := by decide +kernel
theorem dX4_setScale_60 : decode cX4_setScale 60 = .ok (.iload_n 1, 1) := by decide +kernel
theorem dX4_setScale_61 : decode cX4_setScale 61 = .ok (.putfield 16, 3) := by decide +kernel
theorem dX4_setScale_64 : decode cX4_setScale 64 = .ok (.aload_n 0, 1) := by decide +kernel
theorem dX4_setScale_65 : decode cX4_setScale 65 = .ok (.iload_n 2, 1) := by decide +kernel
theorem dX4_setScale_66 : decode cX4_setScale 66 = .ok (.putfield 19, 3) := by decide +kernel
theorem dX4_setScale_69 : decode cX4_setScale 69 = .ok (.aload_n 0, 1) := by decide +kernel
theorem dX4_setScale_70 : decode cX4_setScale 70 = .ok (.iload_n 3, 1) := by decide +kernel
theorem dX4_setScale_71 : decode cX4_setScale 71 = .ok (.putfield 22, 3) := by decide +kernel
theorem dX4_setScale_74 : decode cX4_setScale 74 = .ok (.iload 4, 2) := by decide +kernel
theorem dX4_setScale_76 : decode cX4_setScale 76 = .ok (.ireturn, 1) := by decide +kernel
theorem dX4_endow_0 : decode cX4_endow 0 = .ok (.aload_n 0, 1) := by decide +kernel
theorem dX4_endow_1 : decode cX4_endow 1 = .ok (.iload_n 1, 1) := by decide +kernel
theorem dX4_endow_2 : decode cX4_endow 2 = .ok (.ldc 121, 2) := by decide +kernel
theorem dX4_endow_4 : decode cX4_endow 4 = .ok (.ldc 122, 2) := by decide +kernel
theorem dX4_endow_6 : decode cX4_endow 6 = .ok (.invokestatic 66, 3) := by decide +kernel
theorem dX4_endow_9 : decode cX4_endow 9 = .ok (.ifCond .eq 7, 3) := by decide +kernel
theorem dX4_endow_12 : decode cX4_endow 12 = .ok (.iconst 0, 1) := by decide +kernel
theorem dX4_endow_13 : decode cX4_endow 13 = .ok (.goto 4, 3) := by decide +kernel
theorem dX4_endow_16 : decode cX4_endow 16 = .ok (.iconst 1, 1) := by decide +kernel
theorem dX4_endow_17 : decode cX4_endow 17 = .ok (.putfield 60, 3) := by decide +kernel
theorem dX4_endow_20 : decode cX4_endow 20 = .ok (.aload_n 0, 1) := by decide +kernel
theorem dX4_endow_21 : decode cX4_endow 21 = .ok (.getfield 60, 3) := by decide +kernel
theorem dX4_endow_24 : decode cX4_endow 24 = .ok (.ifCond .le 5, 3) := by decide +kernel
theorem dX4_endow_27 : decode cX4_endow 27 = .ok (.lconst 0, 1) := by decide +kernel
theorem dX4_endow_28 : decode cX4_endow 28 = .ok (.lreturn, 1) := by decide +kernel
theorem dX4_endow_29 : decode cX4_endow 29 = .ok (.aload_n 0, 1) := by decide +kernel
theorem dX4_endow_30 : decode cX4_endow 30 = .ok (.dup, 1) := by decide +kernel
theorem dX4_endow_31 : decode cX4_endow 31 = .ok (.getfield 84, 3) := by decide +kernel
theorem dX4_endow_34 : decode cX4_endow 34 = .ok (.iload_n 1, 1) := by decide +kernel
theorem dX4_endow_35 : decode cX4_endow 35 = .ok (.i2l, 1) := by decide +kernel
theorem dX4_endow_36 : decode cX4_endow 36 = .ok (.ladd, 1) := by decide +kernel
theorem dX4_endow_37 : decode cX4_endow 37 = .ok (.putfield 84, 3) := by decide +kernel
theorem dX4_endow_40 : decode cX4_endow 40 = .ok (.aload_n 0, 1) := by decide +kernel
theorem dX4_endow_41 : decode cX4_endow 41 = .ok (.dup, 1) := by decide +kernel
theorem dX4_endow_42 : decode cX4_endow 42 = .ok (.getfield 88, 3) := by decide +kernel
theorem dX4_endow_45 : decode cX4_endow 45 = .ok (.iload_n 1, 1) := by decide +kernel
theorem dX4_endow_46 : decode cX4_endow 46 = .ok (.i2l, 1) := by decide +kernel
theorem dX4_endow_47 : decode cX4_endow 47 = .ok (.ladd, 1) := by decide +kernel
theorem dX4_endow_48 : decode cX4_endow 48 = .ok (.putfield 88, 3) := by decide +kernel
theorem dX4_endow_51 : decode cX4_endow 51 = .ok (.aload_n 0, 1) := by decide +kernel
theorem dX4_endow_52 : decode cX4_endow 52 = .ok (.getfield 84, 3) := by decide +kernel
theorem dX4_endow_55 : decode cX4_endow 55 = .ok (.lreturn, 1) := by decide +kernel
theorem dX4_grows_0 : decode cX4_grows 0 = .ok (.aload_n 0, 1) := by decide +kernel
theorem dX4_grows_1 : decode cX4_grows 1 = .ok (.getfield 84, 3) := by decide +kernel
theorem dX4_grows_4 : decode cX4_grows 4 = .ok (.lstore_n 2, 1) := by decide +kernel
theorem dX4_grows_5 : decode cX4_grows 5 = .ok (.iconst 0, 1) := by decide +kernel
theorem dX4_grows_6 : decode cX4_grows 6 = .ok (.istore 4, 2) := by decide +kernel
theorem dX4_grows_8 : decode cX4_grows 8 = .ok (.iload 4, 2) := by decide +kernel
theorem dX4_grows_10 : decode cX4_grows 10 = .ok (.aload_n 0, 1) := by decide +kernel
theorem dX4_grows_11 : decode cX4_grows 11 = .ok (.getfield 63, 3) := by decide +kernel
theorem dX4_grows_14 : decode cX4_grows 14 = .ok (.if_icmp .ge 133, 3) := by decide +kernel
theorem dX4_grows_17 : decode cX4_grows 17 = .ok (.aload_n 0, 1) := by decide +kernel
theorem dX4_grows_18 : decode cX4_grows 18 = .ok (.aload_n 0, 1) := by decide +kernel
theorem dX4_grows_19 : decode cX4_grows 19 = .ok (.getfield 25, 3) := by decide +kernel
theorem dX4_grows_22 : decode cX4_grows 22 = .ok (.iload 4, 2) := by decide +kernel
theorem dX4_grows_24 : decode cX4_grows 24 = .ok (.iaload, 1) := by decide +kernel
theorem dX4_grows_25 : decode cX4_grows 25 = .ok (.aload_n 0, 1) := by decide +kernel
theorem dX4_grows_26 : decode cX4_grows 26 = .ok (.getfield 29, 3) := by decide +kernel
theorem dX4_grows_29 : decode cX4_grows 29 = .ok (.iload 4, 2) := by decide +kernel
theorem dX4_grows_31 : decode cX4_grows 31 = .ok (.iaload, 1) := by decide +kernel
theorem dX4_grows_32 : decode cX4_grows 32 = .ok (.invokevirtual 80, 3) := by decide +kernel
theorem dX4_grows_35 : decode cX4_grows 35 = .ok (.lstore 5, 2) := by decide +kernel
theorem dX4_grows_37 : decode cX4_grows 37 = .ok (.aload_n 0, 1) := by decide +kernel
theorem dX4_grows_38 : decode cX4_grows 38 = .ok (.iload 4, 2) := by decide +kernel
theorem dX4_grows_40 : decode cX4_grows 40 = .ok (.invokevirtual 76, 3) := by decide +kernel
theorem dX4_grows_43 : decode cX4_grows 43 = .ok (.iload 4, 2) := by decide +kernel
theorem dX4_grows_45 : decode cX4_grows 45 = .ok (.if_icmp .ne 96, 3) := by decide +kernel
theorem dX4_grows_48 : decode cX4_grows 48 = .ok (.lload 5, 2) := by decide +kernel
theorem dX4_grows_50 : decode cX4_grows 50 = .ok (.lconst 0, 1) := by decide +kernel
theorem dX4_grows_51 : decode cX4_grows 51 = .ok (.lcmp, 1) := by decide +kernel
theorem dX4_grows_52 : decode cX4_grows 52 = .ok (.ifCond .le 89, 3) := by decide +kernel
theorem dX4_grows_55 : decode cX4_grows 55 = .ok (.aload_n 0, 1) := by decide +kernel
theorem dX4_grows_56 : decode cX4_grows 56 = .ok (.getfield 51, 3) := by decide +kernel
theorem dX4_grows_59 : decode cX4_grows 59 = .ok (.iload 4, 2) := by decide +kernel
theorem dX4_grows_61 : decode cX4_grows 61 = .ok (.laload, 1) := by decide +kernel
theorem dX4_grows_62 : decode cX4_grows 62 = .ok (.lload 5, 2) := by decide +kernel
theorem dX4_grows_64 : decode cX4_grows 64 = .ok (.ladd, 1) := by decide +kernel
theorem dX4_grows_65 : decode cX4_grows 65 = .ok (.iload_n 1, 1) := by decide +kernel
theorem dX4_grows_66 : decode cX4_grows 66 = .ok (.i2l, 1) := by decide +kernel
theorem dX4_grows_67 : decode cX4_grows 67 = .ok (.invokestatic 103, 3) := by decide +kernel
theorem dX4_grows_70 : decode cX4_grows 70 = .ok (.lstore 7, 2) := by decide +kernel
theorem dX4_grows_72 : decode cX4_grows 72 = .ok (.aload_n 0, 1) := by decide +kernel
theorem dX4_grows_73 : decode cX4_grows 73 = .ok (.getfield 51, 3) := by decide +kernel
theorem dX4_grows_76 : decode cX4_grows 76 = .ok (.iload 4, 2) := by decide +kernel
theorem dX4_grows_78 : decode cX4_grows 78 = .ok (.dup2, 1) := by decide +kernel
theorem dX4_grows_79 : decode cX4_grows 79 = .ok (.laload, 1) := by decide +kernel
theorem dX4_grows_80 : decode cX4_grows 80 = .ok (.lload 5, 2) := by decide +kernel
theorem dX4_grows_82 : decode cX4_grows 82 = .ok (.lload 7, 2) := by decide +kernel
theorem dX4_grows_84 : decode cX4_grows 84 = .ok (.ladd, 1) := by decide +kernel
theorem dX4_grows_85 : decode cX4_grows 85 = .ok (.ladd, 1) := by decide +kernel
theorem dX4_grows_86 : decode cX4_grows 86 = .ok (.lastore, 1) := by decide +kernel
theorem dX4_grows_87 : decode cX4_grows 87 = .ok (.aload_n 0, 1) := by decide +kernel
theorem dX4_grows_88 : decode cX4_grows 88 = .ok (.dup, 1) := by decide +kernel
theorem dX4_grows_89 : decode cX4_grows 89 = .ok (.getfield 88, 3) := by decide +kernel
theorem dX4_grows_92 : decode cX4_grows 92 = .ok (.lload 5, 2) := by decide +kernel
theorem dX4_grows_94 : decode cX4_grows 94 = .ok (.lload 7, 2) := by decide +kernel
theorem dX4_grows_96 : decode cX4_grows 96 = .ok (.ladd, 1) := by decide +kernel
theorem dX4_grows_97 : decode cX4_grows 97 = .ok (.ladd, 1) := by decide +kernel
theorem dX4_grows_98 : decode cX4_grows 98 = .ok (.putfield 88, 3) := by decide +kernel
theorem dX4_grows_101 : decode cX4_grows 101 = .ok (.aload_n 0, 1) := by decide +kernel
theorem dX4_grows_102 : decode cX4_grows 102 = .ok (.getfield 51, 3) := by decide +kernel
theorem dX4_grows_105 : decode cX4_grows 105 = .ok (.iload 4, 2) := by decide +kernel
theorem dX4_grows_107 : decode cX4_grows 107 = .ok (.laload, 1) := by decide +kernel
theorem dX4_grows_108 : decode cX4_grows 108 = .ok (.aload_n 0, 1) := by decide +kernel
theorem dX4_grows_109 : decode cX4_grows 109 = .ok (.getfield 13, 3) := by decide +kernel
theorem dX4_grows_112 : decode cX4_grows 112 = .ok (.i2l, 1) := by decide +kernel
theorem dX4_grows_113 : decode cX4_grows 113 = .ok (.invokestatic 103, 3) := by decide +kernel
theorem dX4_grows_116 : decode cX4_grows 116 = .ok (.lstore 9, 2) := by decide +kernel
theorem dX4_grows_118 : decode cX4_grows 118 = .ok (.aload_n 0, 1) := by decide +kernel
theorem dX4_grows_119 : decode cX4_grows 119 = .ok (.getfield 51, 3) := by decide +kernel
theorem dX4_grows_122 : decode cX4_grows 122 = .ok (.iload 4, 2) := by decide +kernel
theorem dX4_grows_124 : decode cX4_grows 124 = .ok (.dup2, 1) := by decide +kernel
theorem dX4_grows_125 : decode cX4_grows 125 = .ok (.laload, 1) := by decide +kernel
theorem dX4_grows_126 : decode cX4_grows 126 = .ok (.lload 9, 2) := by decide +kernel
theorem dX4_grows_128 : decode cX4_grows 128 = .ok (.lsub, 1) := by decide +kernel
theorem dX4_grows_129 : decode cX4_grows 129 = .ok (.lastore, 1) := by decide +kernel
theorem dX4_grows_130 : decode cX4_grows 130 = .ok (.aload_n 0, 1) := by decide +kernel
theorem dX4_grows_131 : decode cX4_grows 131 = .ok (.dup, 1) := by decide +kernel
theorem dX4_grows_132 : decode cX4_grows 132 = .ok (.getfield 84, 3) := by decide +kernel
theorem dX4_grows_135 : decode cX4_grows 135 = .ok (.lload 9, 2) := by decide +kernel
theorem dX4_grows_137 : decode cX4_grows 137 = .ok (.ladd, 1) := by decide +kernel
theorem dX4_grows_138 : decode cX4_grows 138 = .ok (.putfield 84, 3) := by decide +kernel
theorem dX4_grows_141 : decode cX4_grows 141 = .ok (.iinc 4 1, 3) := by decide +kernel
theorem dX4_grows_144 : decode cX4_grows 144 = .ok (.goto (-136), 3) := by decide +kernel
theorem dX4_grows_147 : decode cX4_grows 147 = .ok (.aload_n 0, 1) := by decide +kernel
theorem dX4_grows_148 : decode cX4_grows 148 = .ok (.dup, 1) := by decide +kernel
theorem dX4_grows_149 : decode cX4_grows 149 = .ok (.getfield 84, 3) := by decide +kernel
theorem dX4_grows_152 : decode cX4_grows 152 = .ok (.lload_n 2, 1) := by decide +kernel
theorem dX4_grows_153 : decode cX4_grows 153 = .ok (.iload_n 1, 1) := by decide +kernel
theorem dX4_grows_154 : decode cX4_grows 154 = .ok (.i2l, 1) := by decide +kernel
theorem dX4_grows_155 : decode cX4_grows 155 = .ok (.invokestatic 103, 3) := by decide +kernel
theorem dX4_grows_158 : decode cX4_grows 158 = .ok (.ladd, 1) := by decide +kernel
theorem dX4_grows_159 : decode cX4_grows 159 = .ok (.putfield 84, 3) := by decide +kernel
theorem dX4_grows_162 : decode cX4_grows 162 = .ok (.aload_n 0, 1) := by decide +kernel
theorem dX4_grows_163 : decode cX4_grows 163 = .ok (.dup, 1) := by decide +kernel
theorem dX4_grows_164 : decode cX4_grows 164 = .ok (.getfield 88, 3) := by decide +kernel
theorem dX4_grows_167 : decode cX4_grows 167 = .ok (.lload_n 2, 1) := by decide +kernel
theorem dX4_grows_168 : decode cX4_grows 168 = .ok (.iload_n 1, 1) := by decide +kernel
theorem dX4_grows_169 : decode cX4_grows 169 = .ok (.i2l, 1) := by decide +kernel
theorem dX4_grows_170 : decode cX4_grows 170 = .ok (.invokestatic 103, 3) := by decide +kernel
theorem dX4_grows_173 : decode cX4_grows 173 = .ok (.ladd, 1) := by decide +kernel
theorem dX4_grows_174 : decode cX4_grows 174 = .ok (.putfield 88, 3) := by decide +kernel
theorem dX4_grows_177 : decode cX4_grows 177 = .ok (.return_, 1) := by decide +kernel
theorem dX4_grants_0 : decode cX4_grants 0 = .ok (.iconst 0, 1) := by decide +kernel
theorem dX4_grants_1 : decode cX4_grants 1 = .ok (.istore_n 2, 1) := by decide +kernel
theorem dX4_grants_2 : decode cX4_grants 2 = .ok (.iload_n 2, 1) := by decide +kernel
theorem dX4_grants_3 : decode cX4_grants 3 = .ok (.aload_n 0, 1) := by decide +kernel
theorem dX4_grants_4 : decode cX4_grants 4 = .ok (.getfield 63, 3) := by decide +kernel
theorem dX4_grants_7 : decode cX4_grants 7 = .ok (.if_icmp .ge 91, 3) := by decide +kernel
theorem dX4_grants_10 : decode cX4_grants 10 = .ok (.aload_n 0, 1) := by decide +kernel
theorem dX4_grants_11 : decode cX4_grants 11 = .ok (.getfield 38, 3) := by decide +kernel
theorem dX4_grants_14 : decode cX4_grants 14 = .ok (.iload_n 2, 1) := by decide +kernel
theorem dX4_grants_15 : decode cX4_grants 15 = .ok (.iaload, 1) := by decide +kernel
theorem dX4_grants_16 : decode cX4_grants 16 = .ok (.ifCond .ne 76, 3) := by decide +kernel
theorem dX4_grants_19 : decode cX4_grants 19 = .ok (.aload_n 0, 1) := by decide +kernel
theorem dX4_grants_20 : decode cX4_grants 20 = .ok (.getfield 47, 3) := by decide +kernel
theorem dX4_grants_23 : decode cX4_grants 23 = .ok (.iload_n 2, 1) := by decide +kernel
theorem dX4_grants_24 : decode cX4_grants 24 = .ok (.laload, 1) := by decide +kernel
theorem dX4_grants_25 : decode cX4_grants 25 = .ok (.aload_n 0, 1) := by decide +kernel
theorem dX4_grants_26 : decode cX4_grants 26 = .ok (.getfield 32, 3) := by decide +kernel
theorem dX4_grants_29 : decode cX4_grants 29 = .ok (.iload_n 2, 1) := by decide +kernel
theorem dX4_grants_30 : decode cX4_grants 30 = .ok (.iaload, 1) := by decide +kernel
theorem dX4_grants_31 : decode cX4_grants 31 = .ok (.i2l, 1) := by decide +kernel
theorem dX4_grants_32 : decode cX4_grants 32 = .ok (.ladd, 1) := by decide +kernel
theorem dX4_grants_33 : decode cX4_grants 33 = .ok (.lstore_n 3, 1) := by decide +kernel
theorem dX4_grants_34 : decode cX4_grants 34 = .ok (.lload_n 3, 1) := by decide +kernel
theorem dX4_grants_35 : decode cX4_grants 35 = .ok (.lload_n 3, 1) := by decide +kernel
theorem dX4_grants_36 : decode cX4_grants 36 = .ok (.iload_n 1, 1) := by decide +kernel
theorem dX4_grants_37 : decode cX4_grants 37 = .ok (.i2l, 1) := by decide +kernel
theorem dX4_grants_38 : decode cX4_grants 38 = .ok (.invokestatic 103, 3) := by decide +kernel
theorem dX4_grants_41 : decode cX4_grants 41 = .ok (.ladd, 1) := by decide +kernel
theorem dX4_grants_42 : decode cX4_grants 42 = .ok (.lstore_n 3, 1) := by decide +kernel
theorem dX4_grants_43 : decode cX4_grants 43 = .ok (.aload_n 0, 1) := by decide +kernel
theorem dX4_grants_44 : decode cX4_grants 44 = .ok (.getfield 47, 3) := by decide +kernel
theorem dX4_grants_47 : decode cX4_grants 47 = .ok (.iload_n 2, 1) := by decide +kernel
theorem dX4_grants_48 : decode cX4_grants 48 = .ok (.lload_n 3, 1) := by decide +kernel
theorem dX4_grants_49 : decode cX4_grants 49 = .ok (.lload_n 3, 1) := by decide +kernel
theorem dX4_grants_50 : decode cX4_grants 50 = .ok (.aload_n 0, 1) := by decide +kernel
theorem dX4_grants_51 : decode cX4_grants 51 = .ok (.getfield 13, 3) := by decide +kernel
theorem dX4_grants_54 : decode cX4_grants 54 = .ok (.i2l, 1) := by decide +kernel
theorem dX4_grants_55 : decode cX4_grants 55 = .ok (.invokestatic 103, 3) := by decide +kernel
theorem dX4_grants_58 : decode cX4_grants 58 = .ok (.lsub, 1) := by decide +kernel
theorem dX4_grants_59 : decode cX4_grants 59 = .ok (.lastore, 1) := by decide +kernel
theorem dX4_grants_60 : decode cX4_grants 60 = .ok (.aload_n 0, 1) := by decide +kernel
theorem dX4_grants_61 : decode cX4_grants 61 = .ok (.getfield 41, 3) := by decide +kernel
theorem dX4_grants_64 : decode cX4_grants 64 = .ok (.iload_n 2, 1) := by decide +kernel
theorem dX4_grants_65 : decode cX4_grants 65 = .ok (.dup2, 1) := by decide +kernel
theorem dX4_grants_66 : decode cX4_grants 66 = .ok (.iaload, 1) := by decide +kernel
theorem dX4_grants_67 : decode cX4_grants 67 = .ok (.aload_n 0, 1) := by decide +kernel
theorem dX4_grants_68 : decode cX4_grants 68 = .ok (.getfield 35, 3) := by decide +kernel
theorem dX4_grants_71 : decode cX4_grants 71 = .ok (.iload_n 2, 1) := by decide +kernel
theorem dX4_grants_72 : decode cX4_grants 72 = .ok (.iaload, 1) := by decide +kernel
theorem dX4_grants_73 : decode cX4_grants 73 = .ok (.aload_n 0, 1) := by decide +kernel
theorem dX4_grants_74 : decode cX4_grants 74 = .ok (.getfield 41, 3) := by decide +kernel
theorem dX4_grants_77 : decode cX4_grants 77 = .ok (.iload_n 2, 1) := by decide +kernel
theorem dX4_grants_78 : decode cX4_grants 78 = .ok (.iaload, 1) := by decide +kernel
theorem dX4_grants_79 : decode cX4_grants 79 = .ok (.iadd, 1) := by decide +kernel
theorem dX4_grants_80 : decode cX4_grants 80 = .ok (.i2l, 1) := by decide +kernel
theorem dX4_grants_81 : decode cX4_grants 81 = .ok (.aload_n 0, 1) := by decide +kernel
theorem dX4_grants_82 : decode cX4_grants 82 = .ok (.getfield 7, 3) := by decide +kernel
theorem dX4_grants_85 : decode cX4_grants 85 = .ok (.i2l, 1) := by decide +kernel
theorem dX4_grants_86 : decode cX4_grants 86 = .ok (.invokestatic 103, 3) := by decide +kernel
theorem dX4_grants_89 : decode cX4_grants 89 = .ok (.l2i, 1) := by decide +kernel
theorem dX4_grants_90 : decode cX4_grants 90 = .ok (.iadd, 1) := by decide +kernel
theorem dX4_grants_91 : decode cX4_grants 91 = .ok (.iastore, 1) := by decide +kernel
theorem dX4_grants_92 : decode cX4_grants 92 = .ok (.iinc 2 1, 3) := by decide +kernel
theorem dX4_grants_95 : decode cX4_grants 95 = .ok (.goto (-93), 3) := by decide +kernel
theorem dX4_grants_98 : decode cX4_grants 98 = .ok (.return_, 1) := by decide +kernel
theorem dX4_matures_0 : decode cX4_matures 0 = .ok (.aload_n 0, 1) := by decide +kernel
theorem dX4_matures_1 : decode cX4_matures 1 = .ok (.iload_n 1, 1) := by decide +kernel
theorem dX4_matures_2 : decode cX4_matures 2 = .ok (.invokevirtual 95, 3) := by decide +kernel
theorem dX4_matures_5 : decode cX4_matures 5 = .ok (.lstore_n 2, 1) := by decide +kernel
theorem dX4_matures_6 : decode cX4_matures 6 = .ok (.aload_n 0, 1) := by decide +kernel
theorem dX4_matures_7 : decode cX4_matures 7 = .ok (.getfield 29, 3) := by decide +kernel
theorem dX4_matures_10 : decode cX4_matures 10 = .ok (.iload_n 1, 1) := by decide +kernel
theorem dX4_matures_11 : decode cX4_matures 11 = .ok (.iaload, 1) := by decide +kernel
theorem dX4_matures_12 : decode cX4_matures 12 = .ok (.i2l, 1) := by decide +kernel
theorem dX4_matures_13 : decode cX4_matures 13 = .ok (.aload_n 0, 1) := by decide +kernel
theorem dX4_matures_14 : decode cX4_matures 14 = .ok (.getfield 32, 3) := by decide +kernel
theorem dX4_matures_17 : decode cX4_matures 17 = .ok (.iload_n 1, 1) := by decide +kernel
theorem dX4_matures_18 : decode cX4_matures 18 = .ok (.iaload, 1) := by decide +kernel
theorem dX4_matures_19 : decode cX4_matures 19 = .ok (.i2l, 1) := by decide +kernel
theorem dX4_matures_20 : decode cX4_matures 20 = .ok (.lmul, 1) := by decide +kernel
theorem dX4_matures_21 : decode cX4_matures 21 = .ok (.lstore 4, 2) := by decide +kernel
theorem dX4_matures_23 : decode cX4_matures 23 = .ok (.lload_n 2, 1) := by decide +kernel
theorem dX4_matures_24 : decode cX4_matures 24 = .ok (.aload_n 0, 1) := by decide +kernel
theorem dX4_matures_25 : decode cX4_matures 25 = .ok (.getfield 16, 3) := by decide +kernel
theorem dX4_matures_28 : decode cX4_matures 28 = .ok (.i2l, 1) := by decide +kernel
theorem dX4_matures_29 : decode cX4_matures 29 = .ok (.invokestatic 103, 3) := by decide +kernel
theorem dX4_matures_32 : decode cX4_matures 32 = .ok (.ldc2_w 70, 3) := by decide +kernel
theorem dX4_matures_35 : decode cX4_matures 35 = .ok (.lmul, 1) := by decide +kernel
theorem dX4_matures_36 : decode cX4_matures 36 = .ok (.lload 4, 2) := by decide +kernel
theorem dX4_matures_38 : decode cX4_matures 38 = .ok (.ldiv, 1) := by decide +kernel
theorem dX4_matures_39 : decode cX4_matures 39 = .ok (.lstore 6, 2) := by decide +kernel
theorem dX4_matures_41 : decode cX4_matures 41 = .ok (.aload_n 0, 1) := by decide +kernel
theorem dX4_matures_42 : decode cX4_matures 42 = .ok (.getfield 29, 3) := by decide +kernel
theorem dX4_matures_45 : decode cX4_matures 45 = .ok (.iload_n 1, 1) := by decide +kernel
theorem dX4_matures_46 : decode cX4_matures 46 = .ok (.iaload, 1) := by decide +kernel
theorem dX4_matures_47 : decode cX4_matures 47 = .ok (.istore 8, 2) := by decide +kernel
theorem dX4_matures_49 : decode cX4_matures 49 = .ok (.aload_n 0, 1) := by decide +kernel
theorem dX4_matures_50 : decode cX4_matures 50 = .ok (.getfield 54, 3) := by decide +kernel
theorem dX4_matures_53 : decode cX4_matures 53 = .ok (.iload 8, 2) := by decide +kernel
theorem dX4_matures_55 : decode cX4_matures 55 = .ok (.iaload, 1) := by decide +kernel
theorem dX4_matures_56 : decode cX4_matures 56 = .ok (.ifCond .le 69, 3) := by decide +kernel
theorem dX4_matures_59 : decode cX4_matures 59 = .ok (.aload_n 0, 1) := by decide +kernel
theorem dX4_matures_60 : decode cX4_matures 60 = .ok (.getfield 54, 3) := by decide +kernel
theorem dX4_matures_63 : decode cX4_matures 63 = .ok (.iload 8, 2) := by decide +kernel
theorem dX4_matures_65 : decode cX4_matures 65 = .ok (.iaload, 1) := by decide +kernel
theorem dX4_matures_66 : decode cX4_matures 66 = .ok (.i2l, 1) := by decide +kernel
theorem dX4_matures_67 : decode cX4_matures 67 = .ok (.lconst 1, 1) := by decide +kernel
theorem dX4_matures_68 : decode cX4_matures 68 = .ok (.lsub, 1) := by decide +kernel
theorem dX4_matures_69 : decode cX4_matures 69 = .ok (.lstore 9, 2) := by decide +kernel
theorem dX4_matures_71 : decode cX4_matures 71 = .ok (.lload 9, 2) := by decide +kernel
theorem dX4_matures_73 : decode cX4_matures 73 = .ok (.aload_n 0, 1) := by decide +kernel
theorem dX4_matures_74 : decode cX4_matures 74 = .ok (.getfield 19, 3) := by decide +kernel
theorem dX4_matures_77 : decode cX4_matures 77 = .ok (.i2l, 1) := by decide +kernel
theorem dX4_matures_78 : decode cX4_matures 78 = .ok (.invokestatic 103, 3) := by decide +kernel
theorem dX4_matures_81 : decode cX4_matures 81 = .ok (.lstore 11, 2) := by decide +kernel
theorem dX4_matures_83 : decode cX4_matures 83 = .ok (.lload 6, 2) := by decide +kernel
theorem dX4_matures_85 : decode cX4_matures 85 = .ok (.lload 9, 2) := by decide +kernel
theorem dX4_matures_87 : decode cX4_matures 87 = .ok (.lload 11, 2) := by decide +kernel
theorem dX4_matures_89 : decode cX4_matures 89 = .ok (.lsub, 1) := by decide +kernel
theorem dX4_matures_90 : decode cX4_matures 90 = .ok (.lcmp, 1) := by decide +kernel
theorem dX4_matures_91 : decode cX4_matures 91 = .ok (.ifCond .ge 11, 3) := by decide +kernel
theorem dX4_matures_94 : decode cX4_matures 94 = .ok (.lload 9, 2) := by decide +kernel
theorem dX4_matures_96 : decode cX4_matures 96 = .ok (.lload 11, 2) := by decide +kernel
theorem dX4_matures_98 : decode cX4_matures 98 = .ok (.lsub, 1) := by decide +kernel
theorem dX4_matures_99 : decode cX4_matures 99 = .ok (.goto 24, 3) := by decide +kernel
theorem dX4_matures_102 : decode cX4_matures 102 = .ok (.lload 6, 2) := by decide +kernel
theorem dX4_matures_104 : decode cX4_matures 104 = .ok (.lload 9, 2) := by decide +kernel
theorem dX4_matures_106 : decode cX4_matures 106 = .ok (.lload 11, 2) := by decide +kernel
theorem dX4_matures_108 : decode cX4_matures 108 = .ok (.ladd, 1) := by decide +kernel
theorem dX4_matures_109 : decode cX4_matures 109 = .ok (.lcmp, 1) := by decide +kernel
theorem dX4_matures_110 : decode cX4_matures 110 = .ok (.ifCond .le 11, 3) := by decide +kernel
theorem dX4_matures_113 : decode cX4_matures 113 = .ok (.lload 9, 2) := by decide +kernel
theorem dX4_matures_115 : decode cX4_matures 115 = .ok (.lload 11, 2) := by decide +kernel
theorem dX4_matures_117 : decode cX4_matures 117 = .ok (.ladd, 1) := by decide +kernel
theorem dX4_matures_118 : decode cX4_matures 118 = .ok (.goto 5, 3) := by decide +kernel
theorem dX4_matures_121 : decode cX4_matures 121 = .ok (.lload 6, 2) := by decide +kernel
theorem dX4_matures_123 : decode cX4_matures 123 = .ok (.lstore 6, 2) := by decide +kernel
theorem dX4_matures_125 : decode cX4_matures 125 = .ok (.aload_n 0, 1) := by decide +kernel
theorem dX4_matures_126 : decode cX4_matures 126 = .ok (.getfield 57, 3) := by decide +kernel
theorem dX4_matures_129 : decode cX4_matures 129 = .ok (.iload 8, 2) := by decide +kernel
theorem dX4_matures_131 : decode cX4_matures 131 = .ok (.lload 6, 2) := by decide +kernel
theorem dX4_matures_133 : decode cX4_matures 133 = .ok (.l2i, 1) := by decide +kernel
theorem dX4_matures_134 : decode cX4_matures 134 = .ok (.iconst 1, 1) := by decide +kernel
theorem dX4_matures_135 : decode cX4_matures 135 = .ok (.iadd, 1) := by decide +kernel
theorem dX4_matures_136 : decode cX4_matures 136 = .ok (.iastore, 1) := by decide +kernel
theorem dX4_matures_137 : decode cX4_matures 137 = .ok (.lload 4, 2) := by decide +kernel
theorem dX4_matures_139 : decode cX4_matures 139 = .ok (.lload 6, 2) := by decide +kernel
theorem dX4_matures_141 : decode cX4_matures 141 = .ok (.invokestatic 103, 3) := by decide +kernel
theorem dX4_matures_144 : decode cX4_matures 144 = .ok (.lstore 9, 2) := by decide +kernel
theorem dX4_matures_146 : decode cX4_matures 146 = .ok (.aload_n 0, 1) := by decide +kernel
theorem dX4_matures_147 : decode cX4_matures 147 = .ok (.getfield 35, 3) := by decide +kernel
theorem dX4_matures_150 : decode cX4_matures 150 = .ok (.iload_n 1, 1) := by decide +kernel
theorem dX4_matures_151 : decode cX4_matures 151 = .ok (.iaload, 1) := by decide +kernel
theorem dX4_matures_152 : decode cX4_matures 152 = .ok (.i2l, 1) := by decide +kernel
theorem dX4_matures_153 : decode cX4_matures 153 = .ok (.aload_n 0, 1) := by decide +kernel
theorem dX4_matures_154 : decode cX4_matures 154 = .ok (.getfield 41, 3) := by decide +kernel
theorem dX4_matures_157 : decode cX4_matures 157 = .ok (.iload_n 1, 1) := by decide +kernel
theorem dX4_matures_158 : decode cX4_matures 158 = .ok (.iaload, 1) := by decide +kernel
theorem dX4_matures_159 : decode cX4_matures 159 = .ok (.i2l, 1) := by decide +kernel
theorem dX4_matures_160 : decode cX4_matures 160 = .ok (.ladd, 1) := by decide +kernel
theorem dX4_matures_161 : decode cX4_matures 161 = .ok (.lstore 11, 2) := by decide +kernel
theorem dX4_matures_163 : decode cX4_matures 163 = .ok (.aload_n 0, 1) := by decide +kernel
theorem dX4_matures_164 : decode cX4_matures 164 = .ok (.iload_n 1, 1) := by decide +kernel
theorem dX4_matures_165 : decode cX4_matures 165 = .ok (.iconst 1, 1) := by decide +kernel
theorem dX4_matures_166 : decode cX4_matures 166 = .ok (.lload_n 2, 1) := by decide +kernel
theorem dX4_matures_167 : decode cX4_matures 167 = .ok (.lload 9, 2) := by decide +kernel
theorem dX4_matures_169 : decode cX4_matures 169 = .ok (.lload 11, 2) := by decide +kernel
theorem dX4_matures_171 : decode cX4_matures 171 = .ok (.lcmp, 1) := by decide +kernel
theorem dX4_matures_172 : decode cX4_matures 172 = .ok (.ifCond .le 8, 3) := by decide +kernel
theorem dX4_matures_175 : decode cX4_matures 175 = .ok (.lload 9, 2) := by decide +kernel
theorem dX4_matures_177 : decode cX4_matures 177 = .ok (.goto 5, 3) := by decide +kernel
theorem dX4_matures_180 : decode cX4_matures 180 = .ok (.lload 11, 2) := by decide +kernel
theorem dX4_matures_182 : decode cX4_matures 182 = .ok (.l2i, 1) := by decide +kernel
theorem dX4_matures_183 : decode cX4_matures 183 = .ok (.invokevirtual 117, 3) := by decide +kernel
theorem dX4_matures_186 : decode cX4_matures 186 = .ok (.return_, 1) := by decide +kernel
theorem dX4_run_0 : decode cX4_run 0 = .ok (.aload_n 0, 1) := by decide +kernel
theorem dX4_run_1 : decode cX4_run 1 = .ok (.iload_n 1, 1) := by decide +kernel
theorem dX4_run_2 : decode cX4_run 2 = .ok (.sipush (-200), 3) := by decide +kernel
theorem dX4_run_5 : decode cX4_run 5 = .ok (.sipush 200, 3) := by decide +kernel
theorem dX4_run_8 : decode cX4_run 8 = .ok (.invokestatic 66, 3) := by decide +kernel
theorem dX4_run_11 : decode cX4_run 11 = .ok (.ifCond .ne 7, 3) := by decide +kernel
theorem dX4_run_14 : decode cX4_run 14 = .ok (.iconst 1, 1) := by decide +kernel
theorem dX4_run_15 : decode cX4_run 15 = .ok (.goto 17, 3) := by decide +kernel
theorem dX4_run_18 : decode cX4_run 18 = .ok (.aload_n 0, 1) := by decide +kernel
theorem dX4_run_19 : decode cX4_run 19 = .ok (.getfield 92, 3) := by decide +kernel
theorem dX4_run_22 : decode cX4_run 22 = .ok (.bipush 40, 2) := by decide +kernel
theorem dX4_run_24 : decode cX4_run 24 = .ok (.if_icmp .ne 7, 3) := by decide +kernel
theorem dX4_run_27 : decode cX4_run 27 = .ok (.iconst 2, 1) := by decide +kernel
theorem dX4_run_28 : decode cX4_run 28 = .ok (.goto 4, 3) := by decide +kernel
theorem dX4_run_31 : decode cX4_run 31 = .ok (.iconst 0, 1) := by decide +kernel
theorem dX4_run_32 : decode cX4_run 32 = .ok (.putfield 60, 3) := by decide +kernel
theorem dX4_run_35 : decode cX4_run 35 = .ok (.aload_n 0, 1) := by decide +kernel
theorem dX4_run_36 : decode cX4_run 36 = .ok (.getfield 60, 3) := by decide +kernel
theorem dX4_run_39 : decode cX4_run 39 = .ok (.ifCond .le 5, 3) := by decide +kernel
theorem dX4_run_42 : decode cX4_run 42 = .ok (.iconst 0, 1) := by decide +kernel
theorem dX4_run_43 : decode cX4_run 43 = .ok (.ireturn, 1) := by decide +kernel
theorem dX4_run_44 : decode cX4_run 44 = .ok (.aload_n 0, 1) := by decide +kernel
theorem dX4_run_45 : decode cX4_run 45 = .ok (.iload_n 1, 1) := by decide +kernel
theorem dX4_run_46 : decode cX4_run 46 = .ok (.invokevirtual 123, 3) := by decide +kernel
theorem dX4_run_49 : decode cX4_run 49 = .ok (.aload_n 0, 1) := by decide +kernel
theorem dX4_run_50 : decode cX4_run 50 = .ok (.iload_n 1, 1) := by decide +kernel
theorem dX4_run_51 : decode cX4_run 51 = .ok (.invokevirtual 127, 3) := by decide +kernel
theorem dX4_run_54 : decode cX4_run 54 = .ok (.iconst 0, 1) := by decide +kernel
theorem dX4_run_55 : decode cX4_run 55 = .ok (.istore_n 2, 1) := by decide +kernel
theorem dX4_run_56 : decode cX4_run 56 = .ok (.iload_n 2, 1) := by decide +kernel
theorem dX4_run_57 : decode cX4_run 57 = .ok (.bipush 21, 2) := by decide +kernel
theorem dX4_run_59 : decode cX4_run 59 = .ok (.if_icmp .ge 21, 3) := by decide +kernel
theorem dX4_run_62 : decode cX4_run 62 = .ok (.aload_n 0, 1) := by decide +kernel
theorem dX4_run_63 : decode cX4_run 63 = .ok (.getfield 57, 3) := by decide +kernel
theorem dX4_run_66 : decode cX4_run 66 = .ok (.iload_n 2, 1) := by decide +kernel
theorem dX4_run_67 : decode cX4_run 67 = .ok (.aload_n 0, 1) := by decide +kernel
theorem dX4_run_68 : decode cX4_run 68 = .ok (.getfield 54, 3) := by decide +kernel
theorem dX4_run_71 : decode cX4_run 71 = .ok (.iload_n 2, 1) := by decide +kernel
theorem dX4_run_72 : decode cX4_run 72 = .ok (.iaload, 1) := by decide +kernel
theorem dX4_run_73 : decode cX4_run 73 = .ok (.iastore, 1) := by decide +kernel
theorem dX4_run_74 : decode cX4_run 74 = .ok (.iinc 2 1, 3) := by decide +kernel
theorem dX4_run_77 : decode cX4_run 77 = .ok (.goto (-21), 3) := by decide +kernel
theorem dX4_run_80 : decode cX4_run 80 = .ok (.iconst 0, 1) := by decide +kernel
theorem dX4_run_81 : decode cX4_run 81 = .ok (.istore_n 2, 1) := by decide +kernel
theorem dX4_run_82 : decode cX4_run 82 = .ok (.iconst 0, 1) := by decide +kernel
theorem dX4_run_83 : decode cX4_run 83 = .ok (.istore_n 3, 1) := by decide +kernel
theorem dX4_run_84 : decode cX4_run 84 = .ok (.iload_n 3, 1) := by decide +kernel
theorem dX4_run_85 : decode cX4_run 85 = .ok (.aload_n 0, 1) := by decide +kernel
theorem dX4_run_86 : decode cX4_run 86 = .ok (.getfield 63, 3) := by decide +kernel
theorem dX4_run_89 : decode cX4_run 89 = .ok (.if_icmp .ge 48, 3) := by decide +kernel
theorem dX4_run_92 : decode cX4_run 92 = .ok (.aload_n 0, 1) := by decide +kernel
theorem dX4_run_93 : decode cX4_run 93 = .ok (.getfield 38, 3) := by decide +kernel
theorem dX4_run_96 : decode cX4_run 96 = .ok (.iload_n 3, 1) := by decide +kernel
theorem dX4_run_97 : decode cX4_run 97 = .ok (.iaload, 1) := by decide +kernel
theorem dX4_run_98 : decode cX4_run 98 = .ok (.ifCond .ne 33, 3) := by decide +kernel
theorem dX4_run_101 : decode cX4_run 101 = .ok (.aload_n 0, 1) := by decide +kernel
theorem dX4_run_102 : decode cX4_run 102 = .ok (.getfield 92, 3) := by decide +kernel
theorem dX4_run_105 : decode cX4_run 105 = .ok (.aload_n 0, 1) := by decide +kernel
theorem dX4_run_106 : decode cX4_run 106 = .ok (.getfield 25, 3) := by decide +kernel
theorem dX4_run_109 : decode cX4_run 109 = .ok (.iload_n 3, 1) := by decide +kernel
theorem dX4_run_110 : decode cX4_run 110 = .ok (.iaload, 1) := by decide +kernel
theorem dX4_run_111 : decode cX4_run 111 = .ok (.isub, 1) := by decide +kernel
theorem dX4_run_112 : decode cX4_run 112 = .ok (.iconst 1, 1) := by decide +kernel
theorem dX4_run_113 : decode cX4_run 113 = .ok (.iadd, 1) := by decide +kernel
theorem dX4_run_114 : decode cX4_run 114 = .ok (.aload_n 0, 1) := by decide +kernel
theorem dX4_run_115 : decode cX4_run 115 = .ok (.getfield 29, 3) := by decide +kernel
theorem dX4_run_118 : decode cX4_run 118 = .ok (.iload_n 3, 1) := by decide +kernel
theorem dX4_run_119 : decode cX4_run 119 = .ok (.iaload, 1) := by decide +kernel
theorem dX4_run_120 : decode cX4_run 120 = .ok (.if_icmp .ne 11, 3) := by decide +kernel
theorem dX4_run_123 : decode cX4_run 123 = .ok (.aload_n 0, 1) := by decide +kernel
theorem dX4_run_124 : decode cX4_run 124 = .ok (.iload_n 3, 1) := by decide +kernel
theorem dX4_run_125 : decode cX4_run 125 = .ok (.invokevirtual 130, 3) := by decide +kernel
theorem dX4_run_128 : decode cX4_run 128 = .ok (.iinc 2 1, 3) := by decide +kernel
theorem dX4_run_131 : decode cX4_run 131 = .ok (.iinc 3 1, 3) := by decide +kernel
theorem dX4_run_134 : decode cX4_run 134 = .ok (.goto (-50), 3) := by decide +kernel
theorem dX4_run_137 : decode cX4_run 137 = .ok (.iconst 0, 1) := by decide +kernel
theorem dX4_run_138 : decode cX4_run 138 = .ok (.istore_n 3, 1) := by decide +kernel
theorem dX4_run_139 : decode cX4_run 139 = .ok (.iload_n 3, 1) := by decide +kernel
theorem dX4_run_140 : decode cX4_run 140 = .ok (.bipush 21, 2) := by decide +kernel
theorem dX4_run_142 : decode cX4_run 142 = .ok (.if_icmp .ge 21, 3) := by decide +kernel
theorem dX4_run_145 : decode cX4_run 145 = .ok (.aload_n 0, 1) := by decide +kernel
theorem dX4_run_146 : decode cX4_run 146 = .ok (.getfield 54, 3) := by decide +kernel
theorem dX4_run_149 : decode cX4_run 149 = .ok (.iload_n 3, 1) := by decide +kernel
theorem dX4_run_150 : decode cX4_run 150 = .ok (.aload_n 0, 1) := by decide +kernel
theorem dX4_run_151 : decode cX4_run 151 = .ok (.getfield 57, 3) := by decide +kernel
theorem dX4_run_154 : decode cX4_run 154 = .ok (.iload_n 3, 1) := by decide +kernel
theorem dX4_run_155 : decode cX4_run 155 = .ok (.iaload, 1) := by decide +kernel
theorem dX4_run_156 : decode cX4_run 156 = .ok (.iastore, 1) := by decide +kernel
theorem dX4_run_157 : decode cX4_run 157 = .ok (.iinc 3 1, 3) := by decide +kernel
theorem dX4_run_160 : decode cX4_run 160 = .ok (.goto (-21), 3) := by decide +kernel
theorem dX4_run_163 : decode cX4_run 163 = .ok (.aload_n 0, 1) := by decide +kernel
theorem dX4_run_164 : decode cX4_run 164 = .ok (.dup, 1) := by decide +kernel
theorem dX4_run_165 : decode cX4_run 165 = .ok (.getfield 92, 3) := by decide +kernel
theorem dX4_run_168 : decode cX4_run 168 = .ok (.iconst 1, 1) := by decide +kernel
theorem dX4_run_169 : decode cX4_run 169 = .ok (.iadd, 1) := by decide +kernel
theorem dX4_run_170 : decode cX4_run 170 = .ok (.putfield 92, 3) := by decide +kernel
theorem dX4_run_173 : decode cX4_run 173 = .ok (.iload_n 2, 1) := by decide +kernel
theorem dX4_run_174 : decode cX4_run 174 = .ok (.ireturn, 1) := by decide +kernel
theorem dX4_year_0 : decode cX4_year 0 = .ok (.aload_n 0, 1) := by decide +kernel
theorem dX4_year_1 : decode cX4_year 1 = .ok (.iconst 0, 1) := by decide +kernel
theorem dX4_year_2 : decode cX4_year 2 = .ok (.putfield 60, 3) := by decide +kernel
theorem dX4_year_5 : decode cX4_year 5 = .ok (.aload_n 0, 1) := by decide +kernel
theorem dX4_year_6 : decode cX4_year 6 = .ok (.getfield 92, 3) := by decide +kernel
theorem dX4_year_9 : decode cX4_year 9 = .ok (.ireturn, 1) := by decide +kernel
theorem dX4_policies_0 : decode cX4_policies 0 = .ok (.aload_n 0, 1) := by decide +kernel
theorem dX4_policies_1 : decode cX4_policies 1 = .ok (.iconst 0, 1) := by decide +kernel
theorem dX4_policies_2 : decode cX4_policies 2 = .ok (.putfield 60, 3) := by decide +kernel
theorem dX4_policies_5 : decode cX4_policies 5 = .ok (.aload_n 0, 1) := by decide +kernel
theorem dX4_policies_6 : decode cX4_policies 6 = .ok (.getfield 63, 3) := by decide +kernel
theorem dX4_policies_9 : decode cX4_policies 9 = .ok (.ireturn, 1) := by decide +kernel
theorem dX4_stateOf_0 : decode cX4_stateOf 0 = .ok (.aload_n 0, 1) := by decide +kernel
theorem dX4_stateOf_1 : decode cX4_stateOf 1 = .ok (.iload_n 1, 1) := by decide +kernel
theorem dX4_stateOf_2 : decode cX4_stateOf 2 = .ok (.invokevirtual 107, 3) := by decide +kernel
theorem dX4_stateOf_5 : decode cX4_stateOf 5 = .ok (.ifCond .eq 12, 3) := by decide +kernel
theorem dX4_stateOf_8 : decode cX4_stateOf 8 = .ok (.aload_n 0, 1) := by decide +kernel
theorem dX4_stateOf_9 : decode cX4_stateOf 9 = .ok (.getfield 38, 3) := by decide +kernel
theorem dX4_stateOf_12 : decode cX4_stateOf 12 = .ok (.iload_n 1, 1) := by decide +kernel
theorem dX4_stateOf_13 : decode cX4_stateOf 13 = .ok (.iaload, 1) := by decide +kernel
theorem dX4_stateOf_14 : decode cX4_stateOf 14 = .ok (.goto 4, 3) := by decide +kernel
theorem dX4_stateOf_17 : decode cX4_stateOf 17 = .ok (.iconst 0, 1) := by decide +kernel
theorem dX4_stateOf_18 : decode cX4_stateOf 18 = .ok (.ireturn, 1) := by decide +kernel
theorem dX4_bonuses_0 : decode cX4_bonuses 0 = .ok (.aload_n 0, 1) := by decide +kernel
theorem dX4_bonuses_1 : decode cX4_bonuses 1 = .ok (.iload_n 1, 1) := by decide +kernel
theorem dX4_bonuses_2 : decode cX4_bonuses 2 = .ok (.invokevirtual 107, 3) := by decide +kernel
theorem dX4_bonuses_5 : decode cX4_bonuses 5 = .ok (.ifCond .eq 12, 3) := by decide +kernel
theorem dX4_bonuses_8 : decode cX4_bonuses 8 = .ok (.aload_n 0, 1) := by decide +kernel
theorem dX4_bonuses_9 : decode cX4_bonuses 9 = .ok (.getfield 41, 3) := by decide +kernel
theorem dX4_bonuses_12 : decode cX4_bonuses 12 = .ok (.iload_n 1, 1) := by decide +kernel
theorem dX4_bonuses_13 : decode cX4_bonuses 13 = .ok (.iaload, 1) := by decide +kernel
theorem dX4_bonuses_14 : decode cX4_bonuses 14 = .ok (.goto 4, 3) := by decide +kernel
theorem dX4_bonuses_17 : decode cX4_bonuses 17 = .ok (.iconst 0, 1) := by decide +kernel
theorem dX4_bonuses_18 : decode cX4_bonuses 18 = .ok (.ireturn, 1) := by decide +kernel
theorem dX4_shareOf_0 : decode cX4_shareOf 0 = .ok (.aload_n 0, 1) := by decide +kernel
theorem dX4_shareOf_1 : decode cX4_shareOf 1 = .ok (.iload_n 1, 1) := by decide +kernel
theorem dX4_shareOf_2 : decode cX4_shareOf 2 = .ok (.invokevirtual 107, 3) := by decide +kernel
theorem dX4_shareOf_5 : decode cX4_shareOf 5 = .ok (.ifCond .eq 12, 3) := by decide +kernel
theorem dX4_shareOf_8 : decode cX4_shareOf 8 = .ok (.aload_n 0, 1) := by decide +kernel
theorem dX4_shareOf_9 : decode cX4_shareOf 9 = .ok (.iload_n 1, 1) := by decide +kernel
theorem dX4_shareOf_10 : decode cX4_shareOf 10 = .ok (.invokevirtual 95, 3) := by decide +kernel
theorem dX4_shareOf_13 : decode cX4_shareOf 13 = .ok (.l2i, 1) := by decide +kernel
theorem dX4_shareOf_14 : decode cX4_shareOf 14 = .ok (.goto 4, 3) := by decide +kernel
theorem dX4_shareOf_17 : decode cX4_shareOf 17 = .ok (.iconst 0, 1) := by decide +kernel
theorem dX4_shareOf_18 : decode cX4_shareOf 18 = .ok (.ireturn, 1) := by decide +kernel
theorem dX4_shareAlone_0 : decode cX4_shareAlone 0 = .ok (.aload_n 0, 1) := by decide +kernel
theorem dX4_shareAlone_1 : decode cX4_shareAlone 1 = .ok (.iload_n 1, 1) := by decide +kernel
theorem dX4_shareAlone_2 : decode cX4_shareAlone 2 = .ok (.invokevirtual 107, 3) := by decide +kernel
theorem dX4_shareAlone_5 : decode cX4_shareAlone 5 = .ok (.ifCond .eq 22, 3) := by decide +kernel
theorem dX4_shareAlone_8 : decode cX4_shareAlone 8 = .ok (.aload_n 0, 1) := by decide +kernel
theorem dX4_shareAlone_9 : decode cX4_shareAlone 9 = .ok (.getfield 38, 3) := by decide +kernel
theorem dX4_shareAlone_12 : decode cX4_shareAlone 12 = .ok (.iload_n 1, 1) := by decide +kernel
theorem dX4_shareAlone_13 : decode cX4_shareAlone 13 = .ok (.iaload, 1) := by decide +kernel
theorem dX4_shareAlone_14 : decode cX4_shareAlone 14 = .ok (.ifCond .ne 13, 3) := by decide +kernel
theorem dX4_shareAlone_17 : decode cX4_shareAlone 17 = .ok (.aload_n 0, 1) := by decide +kernel
theorem dX4_shareAlone_18 : decode cX4_shareAlone 18 = .ok (.getfield 47, 3) := by decide +kernel
theorem dX4_shareAlone_21 : decode cX4_shareAlone 21 = .ok (.iload_n 1, 1) := by decide +kernel
theorem dX4_shareAlone_22 : decode cX4_shareAlone 22 = .ok (.laload, 1) := by decide +kernel
theorem dX4_shareAlone_23 : decode cX4_shareAlone 23 = .ok (.l2i, 1) := by decide +kernel
theorem dX4_shareAlone_24 : decode cX4_shareAlone 24 = .ok (.goto 4, 3) := by decide +kernel
theorem dX4_shareAlone_27 : decode cX4_shareAlone 27 = .ok (.iconst 0, 1) := by decide +kernel
theorem dX4_shareAlone_28 : decode cX4_shareAlone 28 = .ok (.ireturn, 1) := by decide +kernel
theorem dX4_generation_0 : decode cX4_generation 0 = .ok (.aload_n 0, 1) := by decide +kernel
theorem dX4_generation_1 : decode cX4_generation 1 = .ok (.iload_n 1, 1) := by decide +kernel
theorem dX4_generation_2 : decode cX4_generation 2 = .ok (.iconst 0, 1) := by decide +kernel
theorem dX4_generation_3 : decode cX4_generation 3 = .ok (.bipush 40, 2) := by decide +kernel
theorem dX4_generation_5 : decode cX4_generation 5 = .ok (.invokestatic 66, 3) := by decide +kernel
theorem dX4_generation_8 : decode cX4_generation 8 = .ok (.ifCond .eq 17, 3) := by decide +kernel
theorem dX4_generation_11 : decode cX4_generation 11 = .ok (.iload_n 2, 1) := by decide +kernel
theorem dX4_generation_12 : decode cX4_generation 12 = .ok (.iconst 2, 1) := by decide +kernel
theorem dX4_generation_13 : decode cX4_generation 13 = .ok (.bipush 20, 2) := by decide +kernel
theorem dX4_generation_15 : decode cX4_generation 15 = .ok (.invokestatic 66, 3) := by decide +kernel
theorem dX4_generation_18 : decode cX4_generation 18 = .ok (.ifCond .eq 7, 3) := by decide +kernel
theorem dX4_generation_21 : decode cX4_generation 21 = .ok (.iconst 0, 1) := by decide +kernel
theorem dX4_generation_22 : decode cX4_generation 22 = .ok (.goto 4, 3) := by decide +kernel
theorem dX4_generation_25 : decode cX4_generation 25 = .ok (.iconst 1, 1) := by decide +kernel
theorem dX4_generation_26 : decode cX4_generation 26 = .ok (.putfield 60, 3) := by decide +kernel
theorem dX4_generation_29 : decode cX4_generation 29 = .ok (.aload_n 0, 1) := by decide +kernel
theorem dX4_generation_30 : decode cX4_generation 30 = .ok (.iload_n 1, 1) := by decide +kernel
theorem dX4_generation_31 : decode cX4_generation 31 = .ok (.iload_n 2, 1) := by decide +kernel
theorem dX4_generation_32 : decode cX4_generation 32 = .ok (.invokevirtual 72, 3) := by decide +kernel
theorem dX4_generation_35 : decode cX4_generation 35 = .ok (.istore_n 3, 1) := by decide +kernel
theorem dX4_generation_36 : decode cX4_generation 36 = .ok (.aload_n 0, 1) := by decide +kernel
theorem dX4_generation_37 : decode cX4_generation 37 = .ok (.getfield 60, 3) := by decide +kernel
theorem dX4_generation_40 : decode cX4_generation 40 = .ok (.ifCond .ne 18, 3) := by decide +kernel
theorem dX4_generation_43 : decode cX4_generation 43 = .ok (.iload_n 3, 1) := by decide +kernel
theorem dX4_generation_44 : decode cX4_generation 44 = .ok (.iconst (-1), 1) := by decide +kernel
theorem dX4_generation_45 : decode cX4_generation 45 = .ok (.if_icmp .eq 13, 3) := by decide +kernel
theorem dX4_generation_48 : decode cX4_generation 48 = .ok (.aload_n 0, 1) := by decide +kernel
theorem dX4_generation_49 : decode cX4_generation 49 = .ok (.getfield 51, 3) := by decide +kernel
theorem dX4_generation_52 : decode cX4_generation 52 = .ok (.iload_n 3, 1) := by decide +kernel
theorem dX4_generation_53 : decode cX4_generation 53 = .ok (.laload, 1) := by decide +kernel
theorem dX4_generation_54 : decode cX4_generation 54 = .ok (.l2i, 1) := by decide +kernel
theorem dX4_generation_55 : decode cX4_generation 55 = .ok (.goto 4, 3) := by decide +kernel
theorem dX4_generation_58 : decode cX4_generation 58 = .ok (.iconst 0, 1) := by decide +kernel
theorem dX4_generation_59 : decode cX4_generation 59 = .ok (.ireturn, 1) := by decide +kernel
theorem dX4_paid_0 : decode cX4_paid 0 = .ok (.aload_n 0, 1) := by decide +kernel
theorem dX4_paid_1 : decode cX4_paid 1 = .ok (.iload_n 1, 1) := by decide +kernel
theorem dX4_paid_2 : decode cX4_paid 2 = .ok (.invokevirtual 107, 3) := by decide +kernel
theorem dX4_paid_5 : decode cX4_paid 5 = .ok (.ifCond .ne 7, 3) := by decide +kernel
theorem dX4_paid_8 : decode cX4_paid 8 = .ok (.iconst 0, 1) := by decide +kernel
theorem dX4_paid_9 : decode cX4_paid 9 = .ok (.goto 22, 3) := by decide +kernel
theorem dX4_paid_12 : decode cX4_paid 12 = .ok (.aload_n 0, 1) := by decide +kernel
theorem dX4_paid_13 : decode cX4_paid 13 = .ok (.getfield 38, 3) := by decide +kernel
theorem dX4_paid_16 : decode cX4_paid 16 = .ok (.iload_n 1, 1) := by decide +kernel
theorem dX4_paid_17 : decode cX4_paid 17 = .ok (.iaload, 1) := by decide +kernel
theorem dX4_paid_18 : decode cX4_paid 18 = .ok (.ifCond .ne 7, 3) := by decide +kernel
theorem dX4_paid_21 : decode cX4_paid 21 = .ok (.iconst (-1), 1) := by decide +kernel
theorem dX4_paid_22 : decode cX4_paid 22 = .ok (.goto 9, 3) := by decide +kernel
theorem dX4_paid_25 : decode cX4_paid 25 = .ok (.aload_n 0, 1) := by decide +kernel
theorem dX4_paid_26 : decode cX4_paid 26 = .ok (.getfield 44, 3) := by decide +kernel
theorem dX4_paid_29 : decode cX4_paid 29 = .ok (.iload_n 1, 1) := by decide +kernel
theorem dX4_paid_30 : decode cX4_paid 30 = .ok (.iaload, 1) := by decide +kernel
theorem dX4_paid_31 : decode cX4_paid 31 = .ok (.ireturn, 1) := by decide +kernel
theorem dX4_worth_0 : decode cX4_worth 0 = .ok (.aload_n 0, 1) := by decide +kernel
theorem dX4_worth_1 : decode cX4_worth 1 = .ok (.iload_n 1, 1) := by decide +kernel
theorem dX4_worth_2 : decode cX4_worth 2 = .ok (.invokevirtual 111, 3) := by decide +kernel
theorem dX4_worth_5 : decode cX4_worth 5 = .ok (.ifCond .eq 12, 3) := by decide +kernel
theorem dX4_worth_8 : decode cX4_worth 8 = .ok (.aload_n 0, 1) := by decide +kernel
theorem dX4_worth_9 : decode cX4_worth 9 = .ok (.iload_n 1, 1) := by decide +kernel
theorem dX4_worth_10 : decode cX4_worth 10 = .ok (.invokevirtual 114, 3) := by decide +kernel
theorem dX4_worth_13 : decode cX4_worth 13 = .ok (.l2i, 1) := by decide +kernel
theorem dX4_worth_14 : decode cX4_worth 14 = .ok (.goto 4, 3) := by decide +kernel
theorem dX4_worth_17 : decode cX4_worth 17 = .ok (.iconst 0, 1) := by decide +kernel
theorem dX4_worth_18 : decode cX4_worth 18 = .ok (.ireturn, 1) := by decide +kernel
theorem dX4_lastRatio_0 : decode cX4_lastRatio 0 = .ok (.aload_n 0, 1) := by decide +kernel
theorem dX4_lastRatio_1 : decode cX4_lastRatio 1 = .ok (.iload_n 1, 1) := by decide +kernel
theorem dX4_lastRatio_2 : decode cX4_lastRatio 2 = .ok (.iconst 2, 1) := by decide +kernel
theorem dX4_lastRatio_3 : decode cX4_lastRatio 3 = .ok (.bipush 20, 2) := by decide +kernel
theorem dX4_lastRatio_5 : decode cX4_lastRatio 5 = .ok (.invokestatic 66, 3) := by decide +kernel
theorem dX4_lastRatio_8 : decode cX4_lastRatio 8 = .ok (.ifCond .eq 7, 3) := by decide +kernel
theorem dX4_lastRatio_11 : decode cX4_lastRatio 11 = .ok (.iconst 0, 1) := by decide +kernel
theorem dX4_lastRatio_12 : decode cX4_lastRatio 12 = .ok (.goto 4, 3) := by decide +kernel
theorem dX4_lastRatio_15 : decode cX4_lastRatio 15 = .ok (.iconst 1, 1) := by decide +kernel
theorem dX4_lastRatio_16 : decode cX4_lastRatio 16 = .ok (.putfield 60, 3) := by decide +kernel
theorem dX4_lastRatio_19 : decode cX4_lastRatio 19 = .ok (.aload_n 0, 1) := by decide +kernel
theorem dX4_lastRatio_20 : decode cX4_lastRatio 20 = .ok (.getfield 60, 3) := by decide +kernel
theorem dX4_lastRatio_23 : decode cX4_lastRatio 23 = .ok (.ifCond .ne 14, 3) := by decide +kernel
theorem dX4_lastRatio_26 : decode cX4_lastRatio 26 = .ok (.aload_n 0, 1) := by decide +kernel
theorem dX4_lastRatio_27 : decode cX4_lastRatio 27 = .ok (.getfield 54, 3) := by decide +kernel
theorem dX4_lastRatio_30 : decode cX4_lastRatio 30 = .ok (.iload_n 1, 1) := by decide +kernel
theorem dX4_lastRatio_31 : decode cX4_lastRatio 31 = .ok (.iaload, 1) := by decide +kernel
theorem dX4_lastRatio_32 : decode cX4_lastRatio 32 = .ok (.iconst 1, 1) := by decide +kernel
theorem dX4_lastRatio_33 : decode cX4_lastRatio 33 = .ok (.isub, 1) := by decide +kernel
theorem dX4_lastRatio_34 : decode cX4_lastRatio 34 = .ok (.goto 4, 3) := by decide +kernel
theorem dX4_lastRatio_37 : decode cX4_lastRatio 37 = .ok (.iconst 0, 1) := by decide +kernel
theorem dX4_lastRatio_38 : decode cX4_lastRatio 38 = .ok (.ireturn, 1) := by decide +kernel
theorem dX4_estate_0 : decode cX4_estate 0 = .ok (.aload_n 0, 1) := by decide +kernel
theorem dX4_estate_1 : decode cX4_estate 1 = .ok (.iconst 0, 1) := by decide +kernel
theorem dX4_estate_2 : decode cX4_estate 2 = .ok (.putfield 60, 3) := by decide +kernel
theorem dX4_estate_5 : decode cX4_estate 5 = .ok (.aload_n 0, 1) := by decide +kernel
theorem dX4_estate_6 : decode cX4_estate 6 = .ok (.getfield 84, 3) := by decide +kernel
theorem dX4_estate_9 : decode cX4_estate 9 = .ok (.lreturn, 1) := by decide +kernel
theorem dX4_sharesAndEstate_0 : decode cX4_sharesAndEstate 0 = .ok (.aload_n 0, 1) := by decide +kernel
theorem dX4_sharesAndEstate_1 : decode cX4_sharesAndEstate 1 = .ok (.iconst 0, 1) := by decide +kernel
theorem dX4_sharesAndEstate_2 : decode cX4_sharesAndEstate 2 = .ok (.putfield 60, 3) := by decide +kernel
theorem dX4_sharesAndEstate_5 : decode cX4_sharesAndEstate 5 = .ok (.aload_n 0, 1) := by decide +kernel
theorem dX4_sharesAndEstate_6 : decode cX4_sharesAndEstate 6 = .ok (.getfield 84, 3) := by decide +kernel
theorem dX4_sharesAndEstate_9 : decode cX4_sharesAndEstate 9 = .ok (.lstore_n 1, 1) := by decide +kernel
theorem dX4_sharesAndEstate_10 : decode cX4_sharesAndEstate 10 = .ok (.iconst 0, 1) := by decide +kernel
theorem dX4_sharesAndEstate_11 : decode cX4_sharesAndEstate 11 = .ok (.istore_n 3, 1) := by decide +kernel
theorem dX4_sharesAndEstate_12 : decode cX4_sharesAndEstate 12 = .ok (.iload_n 3, 1) := by decide +kernel
theorem dX4_sharesAndEstate_13 : decode cX4_sharesAndEstate 13 = .ok (.aload_n 0, 1) := by decide +kernel
theorem dX4_sharesAndEstate_14 : decode cX4_sharesAndEstate 14 = .ok (.getfield 63, 3) := by decide +kernel
theorem dX4_sharesAndEstate_17 : decode cX4_sharesAndEstate 17 = .ok (.if_icmp .ge 18, 3) := by decide +kernel
theorem dX4_sharesAndEstate_20 : decode cX4_sharesAndEstate 20 = .ok (.lload_n 1, 1) := by decide +kernel
theorem dX4_sharesAndEstate_21 : decode cX4_sharesAndEstate 21 = .ok (.aload_n 0, 1) := by decide +kernel
theorem dX4_sharesAndEstate_22 : decode cX4_sharesAndEstate 22 = .ok (.getfield 51, 3) := by decide +kernel
theorem dX4_sharesAndEstate_25 : decode cX4_sharesAndEstate 25 = .ok (.iload_n 3, 1) := by decide +kernel
theorem dX4_sharesAndEstate_26 : decode cX4_sharesAndEstate 26 = .ok (.laload, 1) := by decide +kernel
theorem dX4_sharesAndEstate_27 : decode cX4_sharesAndEstate 27 = .ok (.ladd, 1) := by decide +kernel
theorem dX4_sharesAndEstate_28 : decode cX4_sharesAndEstate 28 = .ok (.lstore_n 1, 1) := by decide +kernel
theorem dX4_sharesAndEstate_29 : decode cX4_sharesAndEstate 29 = .ok (.iinc 3 1, 3) := by decide +kernel
theorem dX4_sharesAndEstate_32 : decode cX4_sharesAndEstate 32 = .ok (.goto (-20), 3) := by decide +kernel
theorem dX4_sharesAndEstate_35 : decode cX4_sharesAndEstate 35 = .ok (.lload_n 1, 1) := by decide +kernel
theorem dX4_sharesAndEstate_36 : decode cX4_sharesAndEstate 36 = .ok (.lreturn, 1) := by decide +kernel
theorem dX4_assets_0 : decode cX4_assets 0 = .ok (.aload_n 0, 1) := by decide +kernel
theorem dX4_assets_1 : decode cX4_assets 1 = .ok (.iconst 0, 1) := by decide +kernel
theorem dX4_assets_2 : decode cX4_assets 2 = .ok (.putfield 60, 3) := by decide +kernel
theorem dX4_assets_5 : decode cX4_assets 5 = .ok (.aload_n 0, 1) := by decide +kernel
theorem dX4_assets_6 : decode cX4_assets 6 = .ok (.getfield 88, 3) := by decide +kernel
theorem dX4_assets_9 : decode cX4_assets 9 = .ok (.lreturn, 1) := by decide +kernel
theorem dX4_shortfall_0 : decode cX4_shortfall 0 = .ok (.aload_n 0, 1) := by decide +kernel
theorem dX4_shortfall_1 : decode cX4_shortfall 1 = .ok (.iconst 0, 1) := by decide +kernel
theorem dX4_shortfall_2 : decode cX4_shortfall 2 = .ok (.putfield 60, 3) := by decide +kernel
theorem dX4_shortfall_5 : decode cX4_shortfall 5 = .ok (.lconst 0, 1) := by decide +kernel
theorem dX4_shortfall_6 : decode cX4_shortfall 6 = .ok (.lstore_n 1, 1) := by decide +kernel
theorem dX4_shortfall_7 : decode cX4_shortfall 7 = .ok (.iconst 0, 1) := by decide +kernel
theorem dX4_shortfall_8 : decode cX4_shortfall 8 = .ok (.istore_n 3, 1) := by decide +kernel
theorem dX4_shortfall_9 : decode cX4_shortfall 9 = .ok (.iload_n 3, 1) := by decide +kernel
theorem dX4_shortfall_10 : decode cX4_shortfall 10 = .ok (.aload_n 0, 1) := by decide +kernel
theorem dX4_shortfall_11 : decode cX4_shortfall 11 = .ok (.getfield 63, 3) := by decide +kernel
theorem dX4_shortfall_14 : decode cX4_shortfall 14 = .ok (.if_icmp .ge 60, 3) := by decide +kernel
theorem dX4_shortfall_17 : decode cX4_shortfall 17 = .ok (.aload_n 0, 1) := by decide +kernel
theorem dX4_shortfall_18 : decode cX4_shortfall 18 = .ok (.getfield 38, 3) := by decide +kernel
theorem dX4_shortfall_21 : decode cX4_shortfall 21 = .ok (.iload_n 3, 1) := by decide +kernel
theorem dX4_shortfall_22 : decode cX4_shortfall 22 = .ok (.iaload, 1) := by decide +kernel
theorem dX4_shortfall_23 : decode cX4_shortfall 23 = .ok (.ifCond .ne 26, 3) := by decide +kernel
theorem dX4_shortfall_26 : decode cX4_shortfall 26 = .ok (.aload_n 0, 1) := by decide +kernel
theorem dX4_shortfall_27 : decode cX4_shortfall 27 = .ok (.getfield 35, 3) := by decide +kernel
theorem dX4_shortfall_30 : decode cX4_shortfall 30 = .ok (.iload_n 3, 1) := by decide +kernel
theorem dX4_shortfall_31 : decode cX4_shortfall 31 = .ok (.iaload, 1) := by decide +kernel
theorem dX4_shortfall_32 : decode cX4_shortfall 32 = .ok (.aload_n 0, 1) := by decide +kernel
theorem dX4_shortfall_33 : decode cX4_shortfall 33 = .ok (.getfield 41, 3) := by decide +kernel
theorem dX4_shortfall_36 : decode cX4_shortfall 36 = .ok (.iload_n 3, 1) := by decide +kernel
theorem dX4_shortfall_37 : decode cX4_shortfall 37 = .ok (.iaload, 1) := by decide +kernel
theorem dX4_shortfall_38 : decode cX4_shortfall 38 = .ok (.iadd, 1) := by decide +kernel
theorem dX4_shortfall_39 : decode cX4_shortfall 39 = .ok (.i2l, 1) := by decide +kernel
theorem dX4_shortfall_40 : decode cX4_shortfall 40 = .ok (.aload_n 0, 1) := by decide +kernel
theorem dX4_shortfall_41 : decode cX4_shortfall 41 = .ok (.iload_n 3, 1) := by decide +kernel
theorem dX4_shortfall_42 : decode cX4_shortfall 42 = .ok (.invokevirtual 95, 3) := by decide +kernel
theorem dX4_shortfall_45 : decode cX4_shortfall 45 = .ok (.lsub, 1) := by decide +kernel
theorem dX4_shortfall_46 : decode cX4_shortfall 46 = .ok (.goto 4, 3) := by decide +kernel
theorem dX4_shortfall_49 : decode cX4_shortfall 49 = .ok (.lconst 0, 1) := by decide +kernel
theorem dX4_shortfall_50 : decode cX4_shortfall 50 = .ok (.lstore 4, 2) := by decide +kernel
theorem dX4_shortfall_52 : decode cX4_shortfall 52 = .ok (.lload_n 1, 1) := by decide +kernel
theorem dX4_shortfall_53 : decode cX4_shortfall 53 = .ok (.lload 4, 2) := by decide +kernel
theorem dX4_shortfall_55 : decode cX4_shortfall 55 = .ok (.lconst 0, 1) := by decide +kernel
theorem dX4_shortfall_56 : decode cX4_shortfall 56 = .ok (.lcmp, 1) := by decide +kernel
theorem dX4_shortfall_57 : decode cX4_shortfall 57 = .ok (.ifCond .le 8, 3) := by decide +kernel
theorem dX4_shortfall_60 : decode cX4_shortfall 60 = .ok (.lload 4, 2) := by decide +kernel
theorem dX4_shortfall_62 : decode cX4_shortfall 62 = .ok (.goto 4, 3) := by decide +kernel
theorem dX4_shortfall_65 : decode cX4_shortfall 65 = .ok (.lconst 0, 1) := by decide +kernel
theorem dX4_shortfall_66 : decode cX4_shortfall 66 = .ok (.ladd, 1) := by decide +kernel
theorem dX4_shortfall_67 : decode cX4_shortfall 67 = .ok (.lstore_n 1, 1) := by decide +kernel
theorem dX4_shortfall_68 : decode cX4_shortfall 68 = .ok (.iinc 3 1, 3) := by decide +kernel
theorem dX4_shortfall_71 : decode cX4_shortfall 71 = .ok (.goto (-62), 3) := by decide +kernel
theorem dX4_shortfall_74 : decode cX4_shortfall 74 = .ok (.lload_n 1, 1) := by decide +kernel
theorem dX4_shortfall_75 : decode cX4_shortfall 75 = .ok (.l2i, 1) := by decide +kernel
theorem dX4_shortfall_76 : decode cX4_shortfall 76 = .ok (.ireturn, 1) := by decide +kernel
end
section
theorem dL_begin_0 : decode cL_begin 0 = .ok (.aload 4, 2) := by decide +kernel
theorem dL_begin_2 : decode cL_begin 2 = .ok (.iconst 0, 1) := by decide +kernel
theorem dL_begin_3 : decode cL_begin 3 = .ok (.aload_n 0, 1) := by decide +kernel
theorem dL_begin_4 : decode cL_begin 4 = .ok (.iload_n 1, 1) := by decide +kernel
theorem dL_begin_5 : decode cL_begin 5 = .ok (.iload_n 2, 1) := by decide +kernel
theorem dL_begin_6 : decode cL_begin 6 = .ok (.iload_n 3, 1) := by decide +kernel
theorem dL_begin_7 : decode cL_begin 7 = .ok (.invokevirtual 7, 3) := by decide +kernel
theorem dL_begin_10 : decode cL_begin 10 = .ok (.i2l, 1) := by decide +kernel
theorem dL_begin_11 : decode cL_begin 11 = .ok (.lastore, 1) := by decide +kernel
theorem dL_begin_12 : decode cL_begin 12 = .ok (.goto 11, 3) := by decide +kernel
theorem dL_begin_15 : decode cL_begin 15 = .ok (.astore 5, 2) := by decide +kernel
theorem dL_begin_17 : decode cL_begin 17 = .ok (.iconst 1, 1) := by decide +kernel
theorem dL_begin_18 : decode cL_begin 18 = .ok (.ireturn, 1) := by decide +kernel
theorem dL_begin_19 : decode cL_begin 19 = .ok (.astore 5, 2) := by decide +kernel
theorem dL_begin_21 : decode cL_begin 21 = .ok (.iconst 2, 1) := by decide +kernel
theorem dL_begin_22 : decode cL_begin 22 = .ok (.ireturn, 1) := by decide +kernel
theorem dL_begin_23 : decode cL_begin 23 = .ok (.iconst 0, 1) := by decide +kernel
theorem dL_begin_24 : decode cL_begin 24 = .ok (.ireturn, 1) := by decide +kernel
theorem dL_surrender_0 : decode cL_surrender 0 = .ok (.aload_n 2, 1) := by decide +kernel
theorem dL_surrender_1 : decode cL_surrender 1 = .ok (.iconst 0, 1) := by decide +kernel
theorem dL_surrender_2 : decode cL_surrender 2 = .ok (.aload_n 0, 1) := by decide +kernel
theorem dL_surrender_3 : decode cL_surrender 3 = .ok (.iload_n 1, 1) := by decide +kernel
theorem dL_surrender_4 : decode cL_surrender 4 = .ok (.invokevirtual 17, 3) := by decide +kernel
theorem dL_surrender_7 : decode cL_surrender 7 = .ok (.i2l, 1) := by decide +kernel
theorem dL_surrender_8 : decode cL_surrender 8 = .ok (.lastore, 1) := by decide +kernel
theorem dL_surrender_9 : decode cL_surrender 9 = .ok (.goto 9, 3) := by decide +kernel
theorem dL_surrender_12 : decode cL_surrender 12 = .ok (.astore_n 3, 1) := by decide +kernel
theorem dL_surrender_13 : decode cL_surrender 13 = .ok (.iconst 1, 1) := by decide +kernel
theorem dL_surrender_14 : decode cL_surrender 14 = .ok (.ireturn, 1) := by decide +kernel
theorem dL_surrender_15 : decode cL_surrender 15 = .ok (.astore_n 3, 1) := by decide +kernel
theorem dL_surrender_16 : decode cL_surrender 16 = .ok (.iconst 2, 1) := by decide +kernel
theorem dL_surrender_17 : decode cL_surrender 17 = .ok (.ireturn, 1) := by decide +kernel
theorem dL_surrender_18 : decode cL_surrender 18 = .ok (.iconst 0, 1) := by decide +kernel
theorem dL_surrender_19 : decode cL_surrender 19 = .ok (.ireturn, 1) := by decide +kernel
theorem dL_setRates_0 : decode cL_setRates 0 = .ok (.aload_n 3, 1) := by decide +kernel
theorem dL_setRates_1 : decode cL_setRates 1 = .ok (.iconst 0, 1) := by decide +kernel
theorem dL_setRates_2 : decode cL_setRates 2 = .ok (.aload_n 0, 1) := by decide +kernel
theorem dL_setRates_3 : decode cL_setRates 3 = .ok (.iload_n 1, 1) := by decide +kernel
theorem dL_setRates_4 : decode cL_setRates 4 = .ok (.iload_n 2, 1) := by decide +kernel
theorem dL_setRates_5 : decode cL_setRates 5 = .ok (.invokevirtual 23, 3) := by decide +kernel
theorem dL_setRates_8 : decode cL_setRates 8 = .ok (.i2l, 1) := by decide +kernel
theorem dL_setRates_9 : decode cL_setRates 9 = .ok (.lastore, 1) := by decide +kernel
theorem dL_setRates_10 : decode cL_setRates 10 = .ok (.goto 7, 3) := by decide +kernel
theorem dL_setRates_13 : decode cL_setRates 13 = .ok (.astore 4, 2) := by decide +kernel
theorem dL_setRates_15 : decode cL_setRates 15 = .ok (.iconst 1, 1) := by decide +kernel
theorem dL_setRates_16 : decode cL_setRates 16 = .ok (.ireturn, 1) := by decide +kernel
theorem dL_setRates_17 : decode cL_setRates 17 = .ok (.iconst 0, 1) := by decide +kernel
theorem dL_setRates_18 : decode cL_setRates 18 = .ok (.ireturn, 1) := by decide +kernel
theorem dL_setScale_0 : decode cL_setScale 0 = .ok (.aload 4, 2) := by decide +kernel
theorem dL_setScale_2 : decode cL_setScale 2 = .ok (.iconst 0, 1) := by decide +kernel
theorem dL_setScale_3 : decode cL_setScale 3 = .ok (.aload_n 0, 1) := by decide +kernel
theorem dL_setScale_4 : decode cL_setScale 4 = .ok (.iload_n 1, 1) := by decide +kernel
theorem dL_setScale_5 : decode cL_setScale 5 = .ok (.iload_n 2, 1) := by decide +kernel
theorem dL_setScale_6 : decode cL_setScale 6 = .ok (.iload_n 3, 1) := by decide +kernel
theorem dL_setScale_7 : decode cL_setScale 7 = .ok (.invokevirtual 27, 3) := by decide +kernel
theorem dL_setScale_10 : decode cL_setScale 10 = .ok (.i2l, 1) := by decide +kernel
theorem dL_setScale_11 : decode cL_setScale 11 = .ok (.lastore, 1) := by decide +kernel
theorem dL_setScale_12 : decode cL_setScale 12 = .ok (.goto 7, 3) := by decide +kernel
theorem dL_setScale_15 : decode cL_setScale 15 = .ok (.astore 5, 2) := by decide +kernel
theorem dL_setScale_17 : decode cL_setScale 17 = .ok (.iconst 1, 1) := by decide +kernel
theorem dL_setScale_18 : decode cL_setScale 18 = .ok (.ireturn, 1) := by decide +kernel
theorem dL_setScale_19 : decode cL_setScale 19 = .ok (.iconst 0, 1) := by decide +kernel
theorem dL_setScale_20 : decode cL_setScale 20 = .ok (.ireturn, 1) := by decide +kernel
theorem dL_endow_0 : decode cL_endow 0 = .ok (.aload_n 2, 1) := by decide +kernel
theorem dL_endow_1 : decode cL_endow 1 = .ok (.iconst 0, 1) := by decide +kernel
theorem dL_endow_2 : decode cL_endow 2 = .ok (.aload_n 0, 1) := by decide +kernel
theorem dL_endow_3 : decode cL_endow 3 = .ok (.iload_n 1, 1) := by decide +kernel
theorem dL_endow_4 : decode cL_endow 4 = .ok (.invokevirtual 30, 3) := by decide +kernel
theorem dL_endow_7 : decode cL_endow 7 = .ok (.lastore, 1) := by decide +kernel
theorem dL_endow_8 : decode cL_endow 8 = .ok (.goto 6, 3) := by decide +kernel
theorem dL_endow_11 : decode cL_endow 11 = .ok (.astore_n 3, 1) := by decide +kernel
theorem dL_endow_12 : decode cL_endow 12 = .ok (.iconst 1, 1) := by decide +kernel
theorem dL_endow_13 : decode cL_endow 13 = .ok (.ireturn, 1) := by decide +kernel
theorem dL_endow_14 : decode cL_endow 14 = .ok (.iconst 0, 1) := by decide +kernel
theorem dL_endow_15 : decode cL_endow 15 = .ok (.ireturn, 1) := by decide +kernel
theorem dL_run_0 : decode cL_run 0 = .ok (.aload_n 2, 1) := by decide +kernel
theorem dL_run_1 : decode cL_run 1 = .ok (.iconst 0, 1) := by decide +kernel
theorem dL_run_2 : decode cL_run 2 = .ok (.aload_n 0, 1) := by decide +kernel
theorem dL_run_3 : decode cL_run 3 = .ok (.iload_n 1, 1) := by decide +kernel
theorem dL_run_4 : decode cL_run 4 = .ok (.invokevirtual 34, 3) := by decide +kernel
theorem dL_run_7 : decode cL_run 7 = .ok (.i2l, 1) := by decide +kernel
theorem dL_run_8 : decode cL_run 8 = .ok (.lastore, 1) := by decide +kernel
theorem dL_run_9 : decode cL_run 9 = .ok (.goto 9, 3) := by decide +kernel
theorem dL_run_12 : decode cL_run 12 = .ok (.astore_n 3, 1) := by decide +kernel
theorem dL_run_13 : decode cL_run 13 = .ok (.iconst 1, 1) := by decide +kernel
theorem dL_run_14 : decode cL_run 14 = .ok (.ireturn, 1) := by decide +kernel
theorem dL_run_15 : decode cL_run 15 = .ok (.astore_n 3, 1) := by decide +kernel
theorem dL_run_16 : decode cL_run 16 = .ok (.iconst 2, 1) := by decide +kernel
theorem dL_run_17 : decode cL_run 17 = .ok (.ireturn, 1) := by decide +kernel
theorem dL_run_18 : decode cL_run 18 = .ok (.iconst 0, 1) := by decide +kernel
theorem dL_run_19 : decode cL_run 19 = .ok (.ireturn, 1) := by decide +kernel
theorem dL_stateOf_0 : decode cL_stateOf 0 = .ok (.aload_n 2, 1) := by decide +kernel
theorem dL_stateOf_1 : decode cL_stateOf 1 = .ok (.iconst 0, 1) := by decide +kernel
theorem dL_stateOf_2 : decode cL_stateOf 2 = .ok (.aload_n 0, 1) := by decide +kernel
theorem dL_stateOf_3 : decode cL_stateOf 3 = .ok (.iload_n 1, 1) := by decide +kernel
theorem dL_stateOf_4 : decode cL_stateOf 4 = .ok (.invokevirtual 37, 3) := by decide +kernel
theorem dL_stateOf_7 : decode cL_stateOf 7 = .ok (.i2l, 1) := by decide +kernel
theorem dL_stateOf_8 : decode cL_stateOf 8 = .ok (.lastore, 1) := by decide +kernel
theorem dL_stateOf_9 : decode cL_stateOf 9 = .ok (.goto 6, 3) := by decide +kernel
theorem dL_stateOf_12 : decode cL_stateOf 12 = .ok (.astore_n 3, 1) := by decide +kernel
theorem dL_stateOf_13 : decode cL_stateOf 13 = .ok (.iconst 1, 1) := by decide +kernel
theorem dL_stateOf_14 : decode cL_stateOf 14 = .ok (.ireturn, 1) := by decide +kernel
theorem dL_stateOf_15 : decode cL_stateOf 15 = .ok (.iconst 0, 1) := by decide +kernel
theorem dL_stateOf_16 : decode cL_stateOf 16 = .ok (.ireturn, 1) := by decide +kernel
theorem dL_bonuses_0 : decode cL_bonuses 0 = .ok (.aload_n 2, 1) := by decide +kernel
theorem dL_bonuses_1 : decode cL_bonuses 1 = .ok (.iconst 0, 1) := by decide +kernel
theorem dL_bonuses_2 : decode cL_bonuses 2 = .ok (.aload_n 0, 1) := by decide +kernel
theorem dL_bonuses_3 : decode cL_bonuses 3 = .ok (.iload_n 1, 1) := by decide +kernel
theorem dL_bonuses_4 : decode cL_bonuses 4 = .ok (.invokevirtual 40, 3) := by decide +kernel
theorem dL_bonuses_7 : decode cL_bonuses 7 = .ok (.i2l, 1) := by decide +kernel
theorem dL_bonuses_8 : decode cL_bonuses 8 = .ok (.lastore, 1) := by decide +kernel
theorem dL_bonuses_9 : decode cL_bonuses 9 = .ok (.goto 6, 3) := by decide +kernel
theorem dL_bonuses_12 : decode cL_bonuses 12 = .ok (.astore_n 3, 1) := by decide +kernel
theorem dL_bonuses_13 : decode cL_bonuses 13 = .ok (.iconst 1, 1) := by decide +kernel
theorem dL_bonuses_14 : decode cL_bonuses 14 = .ok (.ireturn, 1) := by decide +kernel
theorem dL_bonuses_15 : decode cL_bonuses 15 = .ok (.iconst 0, 1) := by decide +kernel
theorem dL_bonuses_16 : decode cL_bonuses 16 = .ok (.ireturn, 1) := by decide +kernel
theorem dL_shareOf_0 : decode cL_shareOf 0 = .ok (.aload_n 2, 1) := by decide +kernel
theorem dL_shareOf_1 : decode cL_shareOf 1 = .ok (.iconst 0, 1) := by decide +kernel
theorem dL_shareOf_2 : decode cL_shareOf 2 = .ok (.aload_n 0, 1) := by decide +kernel
theorem dL_shareOf_3 : decode cL_shareOf 3 = .ok (.iload_n 1, 1) := by decide +kernel
theorem dL_shareOf_4 : decode cL_shareOf 4 = .ok (.invokevirtual 43, 3) := by decide +kernel
theorem dL_shareOf_7 : decode cL_shareOf 7 = .ok (.i2l, 1) := by decide +kernel
theorem dL_shareOf_8 : decode cL_shareOf 8 = .ok (.lastore, 1) := by decide +kernel
theorem dL_shareOf_9 : decode cL_shareOf 9 = .ok (.goto 6, 3) := by decide +kernel
theorem dL_shareOf_12 : decode cL_shareOf 12 = .ok (.astore_n 3, 1) := by decide +kernel
theorem dL_shareOf_13 : decode cL_shareOf 13 = .ok (.iconst 1, 1) := by decide +kernel
theorem dL_shareOf_14 : decode cL_shareOf 14 = .ok (.ireturn, 1) := by decide +kernel
theorem dL_shareOf_15 : decode cL_shareOf 15 = .ok (.iconst 0, 1) := by decide +kernel
theorem dL_shareOf_16 : decode cL_shareOf 16 = .ok (.ireturn, 1) := by decide +kernel
theorem dL_shareAlone_0 : decode cL_shareAlone 0 = .ok (.aload_n 2, 1) := by decide +kernel
theorem dL_shareAlone_1 : decode cL_shareAlone 1 = .ok (.iconst 0, 1) := by decide +kernel
theorem dL_shareAlone_2 : decode cL_shareAlone 2 = .ok (.aload_n 0, 1) := by decide +kernel
theorem dL_shareAlone_3 : decode cL_shareAlone 3 = .ok (.iload_n 1, 1) := by decide +kernel
theorem dL_shareAlone_4 : decode cL_shareAlone 4 = .ok (.invokevirtual 46, 3) := by decide +kernel
theorem dL_shareAlone_7 : decode cL_shareAlone 7 = .ok (.i2l, 1) := by decide +kernel
theorem dL_shareAlone_8 : decode cL_shareAlone 8 = .ok (.lastore, 1) := by decide +kernel
theorem dL_shareAlone_9 : decode cL_shareAlone 9 = .ok (.goto 6, 3) := by decide +kernel
theorem dL_shareAlone_12 : decode cL_shareAlone 12 = .ok (.astore_n 3, 1) := by decide +kernel
theorem dL_shareAlone_13 : decode cL_shareAlone 13 = .ok (.iconst 1, 1) := by decide +kernel
theorem dL_shareAlone_14 : decode cL_shareAlone 14 = .ok (.ireturn, 1) := by decide +kernel
theorem dL_shareAlone_15 : decode cL_shareAlone 15 = .ok (.iconst 0, 1) := by decide +kernel
theorem dL_shareAlone_16 : decode cL_shareAlone 16 = .ok (.ireturn, 1) := by decide +kernel
theorem dL_generation_0 : decode cL_generation 0 = .ok (.aload_n 3, 1) := by decide +kernel
theorem dL_generation_1 : decode cL_generation 1 = .ok (.iconst 0, 1) := by decide +kernel
theorem dL_generation_2 : decode cL_generation 2 = .ok (.aload_n 0, 1) := by decide +kernel
theorem dL_generation_3 : decode cL_generation 3 = .ok (.iload_n 1, 1) := by decide +kernel
theorem dL_generation_4 : decode cL_generation 4 = .ok (.iload_n 2, 1) := by decide +kernel
theorem dL_generation_5 : decode cL_generation 5 = .ok (.invokevirtual 49, 3) := by decide +kernel
theorem dL_generation_8 : decode cL_generation 8 = .ok (.i2l, 1) := by decide +kernel
theorem dL_generation_9 : decode cL_generation 9 = .ok (.lastore, 1) := by decide +kernel
theorem dL_generation_10 : decode cL_generation 10 = .ok (.goto 7, 3) := by decide +kernel
theorem dL_generation_13 : decode cL_generation 13 = .ok (.astore 4, 2) := by decide +kernel
theorem dL_generation_15 : decode cL_generation 15 = .ok (.iconst 1, 1) := by decide +kernel
theorem dL_generation_16 : decode cL_generation 16 = .ok (.ireturn, 1) := by decide +kernel
theorem dL_generation_17 : decode cL_generation 17 = .ok (.iconst 0, 1) := by decide +kernel
theorem dL_generation_18 : decode cL_generation 18 = .ok (.ireturn, 1) := by decide +kernel
theorem dL_paid_0 : decode cL_paid 0 = .ok (.aload_n 2, 1) := by decide +kernel
theorem dL_paid_1 : decode cL_paid 1 = .ok (.iconst 0, 1) := by decide +kernel
theorem dL_paid_2 : decode cL_paid 2 = .ok (.aload_n 0, 1) := by decide +kernel
theorem dL_paid_3 : decode cL_paid 3 = .ok (.iload_n 1, 1) := by decide +kernel
theorem dL_paid_4 : decode cL_paid 4 = .ok (.invokevirtual 52, 3) := by decide +kernel
theorem dL_paid_7 : decode cL_paid 7 = .ok (.i2l, 1) := by decide +kernel
theorem dL_paid_8 : decode cL_paid 8 = .ok (.lastore, 1) := by decide +kernel
theorem dL_paid_9 : decode cL_paid 9 = .ok (.goto 6, 3) := by decide +kernel
theorem dL_paid_12 : decode cL_paid 12 = .ok (.astore_n 3, 1) := by decide +kernel
theorem dL_paid_13 : decode cL_paid 13 = .ok (.iconst 1, 1) := by decide +kernel
theorem dL_paid_14 : decode cL_paid 14 = .ok (.ireturn, 1) := by decide +kernel
theorem dL_paid_15 : decode cL_paid 15 = .ok (.iconst 0, 1) := by decide +kernel
theorem dL_paid_16 : decode cL_paid 16 = .ok (.ireturn, 1) := by decide +kernel
theorem dL_worth_0 : decode cL_worth 0 = .ok (.aload_n 2, 1) := by decide +kernel
theorem dL_worth_1 : decode cL_worth 1 = .ok (.iconst 0, 1) := by decide +kernel
theorem dL_worth_2 : decode cL_worth 2 = .ok (.aload_n 0, 1) := by decide +kernel
theorem dL_worth_3 : decode cL_worth 3 = .ok (.iload_n 1, 1) := by decide +kernel
theorem dL_worth_4 : decode cL_worth 4 = .ok (.invokevirtual 55, 3) := by decide +kernel
theorem dL_worth_7 : decode cL_worth 7 = .ok (.i2l, 1) := by decide +kernel
theorem dL_worth_8 : decode cL_worth 8 = .ok (.lastore, 1) := by decide +kernel
theorem dL_worth_9 : decode cL_worth 9 = .ok (.goto 9, 3) := by decide +kernel
theorem dL_worth_12 : decode cL_worth 12 = .ok (.astore_n 3, 1) := by decide +kernel
theorem dL_worth_13 : decode cL_worth 13 = .ok (.iconst 1, 1) := by decide +kernel
theorem dL_worth_14 : decode cL_worth 14 = .ok (.ireturn, 1) := by decide +kernel
theorem dL_worth_15 : decode cL_worth 15 = .ok (.astore_n 3, 1) := by decide +kernel
theorem dL_worth_16 : decode cL_worth 16 = .ok (.iconst 2, 1) := by decide +kernel
theorem dL_worth_17 : decode cL_worth 17 = .ok (.ireturn, 1) := by decide +kernel
theorem dL_worth_18 : decode cL_worth 18 = .ok (.iconst 0, 1) := by decide +kernel
theorem dL_worth_19 : decode cL_worth 19 = .ok (.ireturn, 1) := by decide +kernel
theorem dL_lastRatio_0 : decode cL_lastRatio 0 = .ok (.aload_n 2, 1) := by decide +kernel
theorem dL_lastRatio_1 : decode cL_lastRatio 1 = .ok (.iconst 0, 1) := by decide +kernel
theorem dL_lastRatio_2 : decode cL_lastRatio 2 = .ok (.aload_n 0, 1) := by decide +kernel
theorem dL_lastRatio_3 : decode cL_lastRatio 3 = .ok (.iload_n 1, 1) := by decide +kernel
theorem dL_lastRatio_4 : decode cL_lastRatio 4 = .ok (.invokevirtual 58, 3) := by decide +kernel
theorem dL_lastRatio_7 : decode cL_lastRatio 7 = .ok (.i2l, 1) := by decide +kernel
theorem dL_lastRatio_8 : decode cL_lastRatio 8 = .ok (.lastore, 1) := by decide +kernel
theorem dL_lastRatio_9 : decode cL_lastRatio 9 = .ok (.goto 6, 3) := by decide +kernel
theorem dL_lastRatio_12 : decode cL_lastRatio 12 = .ok (.astore_n 3, 1) := by decide +kernel
theorem dL_lastRatio_13 : decode cL_lastRatio 13 = .ok (.iconst 1, 1) := by decide +kernel
theorem dL_lastRatio_14 : decode cL_lastRatio 14 = .ok (.ireturn, 1) := by decide +kernel
theorem dL_lastRatio_15 : decode cL_lastRatio 15 = .ok (.iconst 0, 1) := by decide +kernel
theorem dL_lastRatio_16 : decode cL_lastRatio 16 = .ok (.ireturn, 1) := by decide +kernel
theorem dL_law_0 : decode cL_law 0 = .ok (.new 8, 3) := by decide +kernel
theorem dL_law_3 : decode cL_law 3 = .ok (.dup, 1) := by decide +kernel
theorem dL_law_4 : decode cL_law 4 = .ok (.invokespecial 61, 3) := by decide +kernel
theorem dL_law_7 : decode cL_law 7 = .ok (.astore_n 1, 1) := by decide +kernel
theorem dL_law_8 : decode cL_law 8 = .ok (.new 62, 3) := by decide +kernel
theorem dL_law_11 : decode cL_law 11 = .ok (.dup, 1) := by decide +kernel
theorem dL_law_12 : decode cL_law 12 = .ok (.invokespecial 64, 3) := by decide +kernel
theorem dL_law_15 : decode cL_law 15 = .ok (.astore_n 2, 1) := by decide +kernel
theorem dL_law_16 : decode cL_law 16 = .ok (.iconst 1, 1) := by decide +kernel
theorem dL_law_17 : decode cL_law 17 = .ok (.newarray .long, 2) := by decide +kernel
theorem dL_law_19 : decode cL_law 19 = .ok (.astore_n 3, 1) := by decide +kernel
theorem dL_law_20 : decode cL_law 20 = .ok (.iconst 0, 1) := by decide +kernel
theorem dL_law_21 : decode cL_law 21 = .ok (.istore 4, 2) := by decide +kernel
theorem dL_law_23 : decode cL_law 23 = .ok (.iload 4, 2) := by decide +kernel
theorem dL_law_25 : decode cL_law 25 = .ok (.aload_n 0, 1) := by decide +kernel
theorem dL_law_26 : decode cL_law 26 = .ok (.arraylength, 1) := by decide +kernel
theorem dL_law_27 : decode cL_law 27 = .ok (.iconst 4, 1) := by decide +kernel
theorem dL_law_28 : decode cL_law 28 = .ok (.isub, 1) := by decide +kernel
theorem dL_law_29 : decode cL_law 29 = .ok (.if_icmp .gt 1045, 3) := by decide +kernel
theorem dL_law_32 : decode cL_law 32 = .ok (.aload_n 0, 1) := by decide +kernel
theorem dL_law_33 : decode cL_law 33 = .ok (.iload 4, 2) := by decide +kernel
theorem dL_law_35 : decode cL_law 35 = .ok (.iaload, 1) := by decide +kernel
theorem dL_law_36 : decode cL_law 36 = .ok (.bipush 31, 2) := by decide +kernel
theorem dL_law_38 : decode cL_law 38 = .ok (.iand, 1) := by decide +kernel
theorem dL_law_39 : decode cL_law 39 = .ok (.tableswitch 1029 0 19 #[93, 173, 229, 297, 377, 432, 488, 501, 514, 570, 626, 682, 738, 806, 862, 918, 974, 988, 1002, 1016], 93) := by decide +kernel
theorem dL_law_132 : decode cL_law 132 = .ok (.aload_n 1, 1) := by decide +kernel
theorem dL_law_133 : decode cL_law 133 = .ok (.aload_n 0, 1) := by decide +kernel
theorem dL_law_134 : decode cL_law 134 = .ok (.iload 4, 2) := by decide +kernel
theorem dL_law_136 : decode cL_law 136 = .ok (.iconst 1, 1) := by decide +kernel
theorem dL_law_137 : decode cL_law 137 = .ok (.iadd, 1) := by decide +kernel
theorem dL_law_138 : decode cL_law 138 = .ok (.iaload, 1) := by decide +kernel
theorem dL_law_139 : decode cL_law 139 = .ok (.aload_n 0, 1) := by decide +kernel
theorem dL_law_140 : decode cL_law 140 = .ok (.iload 4, 2) := by decide +kernel
theorem dL_law_142 : decode cL_law 142 = .ok (.iconst 2, 1) := by decide +kernel
theorem dL_law_143 : decode cL_law 143 = .ok (.iadd, 1) := by decide +kernel
theorem dL_law_144 : decode cL_law 144 = .ok (.iaload, 1) := by decide +kernel
theorem dL_law_145 : decode cL_law 145 = .ok (.aload_n 0, 1) := by decide +kernel
theorem dL_law_146 : decode cL_law 146 = .ok (.iload 4, 2) := by decide +kernel
theorem dL_law_148 : decode cL_law 148 = .ok (.iconst 3, 1) := by decide +kernel
theorem dL_law_149 : decode cL_law 149 = .ok (.iadd, 1) := by decide +kernel
theorem dL_law_150 : decode cL_law 150 = .ok (.iaload, 1) := by decide +kernel
theorem dL_law_151 : decode cL_law 151 = .ok (.aload_n 3, 1) := by decide +kernel
theorem dL_law_152 : decode cL_law 152 = .ok (.invokestatic 65, 3) := by decide +kernel
theorem dL_law_155 : decode cL_law 155 = .ok (.istore 5, 2) := by decide +kernel
theorem dL_law_157 : decode cL_law 157 = .ok (.aload_n 2, 1) := by decide +kernel
theorem dL_law_158 : decode cL_law 158 = .ok (.aload_n 0, 1) := by decide +kernel
theorem dL_law_159 : decode cL_law 159 = .ok (.iload 4, 2) := by decide +kernel
theorem dL_law_161 : decode cL_law 161 = .ok (.iconst 1, 1) := by decide +kernel
theorem dL_law_162 : decode cL_law 162 = .ok (.iadd, 1) := by decide +kernel
theorem dL_law_163 : decode cL_law 163 = .ok (.iaload, 1) := by decide +kernel
theorem dL_law_164 : decode cL_law 164 = .ok (.aload_n 0, 1) := by decide +kernel
theorem dL_law_165 : decode cL_law 165 = .ok (.iload 4, 2) := by decide +kernel
theorem dL_law_167 : decode cL_law 167 = .ok (.iconst 2, 1) := by decide +kernel
theorem dL_law_168 : decode cL_law 168 = .ok (.iadd, 1) := by decide +kernel
theorem dL_law_169 : decode cL_law 169 = .ok (.iaload, 1) := by decide +kernel
theorem dL_law_170 : decode cL_law 170 = .ok (.aload_n 0, 1) := by decide +kernel
theorem dL_law_171 : decode cL_law 171 = .ok (.iload 4, 2) := by decide +kernel
theorem dL_law_173 : decode cL_law 173 = .ok (.iconst 3, 1) := by decide +kernel
theorem dL_law_174 : decode cL_law 174 = .ok (.iadd, 1) := by decide +kernel
theorem dL_law_175 : decode cL_law 175 = .ok (.iaload, 1) := by decide +kernel
theorem dL_law_176 : decode cL_law 176 = .ok (.invokevirtual 70, 3) := by decide +kernel
theorem dL_law_179 : decode cL_law 179 = .ok (.istore 6, 2) := by decide +kernel
theorem dL_law_181 : decode cL_law 181 = .ok (.aload_n 2, 1) := by decide +kernel
theorem dL_law_182 : decode cL_law 182 = .ok (.invokevirtual 71, 3) := by decide +kernel
theorem dL_law_185 : decode cL_law 185 = .ok (.iload 5, 2) := by decide +kernel
theorem dL_law_187 : decode cL_law 187 = .ok (.if_icmp .eq 5, 3) := by decide +kernel
theorem dL_law_190 : decode cL_law 190 = .ok (.iconst 0, 1) := by decide +kernel
theorem dL_law_191 : decode cL_law 191 = .ok (.ireturn, 1) := by decide +kernel
theorem dL_law_192 : decode cL_law 192 = .ok (.iload 5, 2) := by decide +kernel
theorem dL_law_194 : decode cL_law 194 = .ok (.ifCond .ne 15, 3) := by decide +kernel
theorem dL_law_197 : decode cL_law 197 = .ok (.aload_n 3, 1) := by decide +kernel
theorem dL_law_198 : decode cL_law 198 = .ok (.iconst 0, 1) := by decide +kernel
theorem dL_law_199 : decode cL_law 199 = .ok (.laload, 1) := by decide +kernel
theorem dL_law_200 : decode cL_law 200 = .ok (.iload 6, 2) := by decide +kernel
theorem dL_law_202 : decode cL_law 202 = .ok (.i2l, 1) := by decide +kernel
theorem dL_law_203 : decode cL_law 203 = .ok (.lcmp, 1) := by decide +kernel
theorem dL_law_204 : decode cL_law 204 = .ok (.ifCond .eq 5, 3) := by decide +kernel
theorem dL_law_207 : decode cL_law 207 = .ok (.iconst 0, 1) := by decide +kernel
theorem dL_law_208 : decode cL_law 208 = .ok (.ireturn, 1) := by decide +kernel
theorem dL_law_209 : decode cL_law 209 = .ok (.goto 859, 3) := by decide +kernel
theorem dL_law_212 : decode cL_law 212 = .ok (.aload_n 1, 1) := by decide +kernel
theorem dL_law_213 : decode cL_law 213 = .ok (.aload_n 0, 1) := by decide +kernel
theorem dL_law_214 : decode cL_law 214 = .ok (.iload 4, 2) := by decide +kernel
theorem dL_law_216 : decode cL_law 216 = .ok (.iconst 1, 1) := by decide +kernel
theorem dL_law_217 : decode cL_law 217 = .ok (.iadd, 1) := by decide +kernel
theorem dL_law_218 : decode cL_law 218 = .ok (.iaload, 1) := by decide +kernel
theorem dL_law_219 : decode cL_law 219 = .ok (.aload_n 3, 1) := by decide +kernel
theorem dL_law_220 : decode cL_law 220 = .ok (.invokestatic 75, 3) := by decide +kernel
theorem dL_law_223 : decode cL_law 223 = .ok (.istore 5, 2) := by decide +kernel
theorem dL_law_225 : decode cL_law 225 = .ok (.aload_n 2, 1) := by decide +kernel
theorem dL_law_226 : decode cL_law 226 = .ok (.aload_n 0, 1) := by decide +kernel
theorem dL_law_227 : decode cL_law 227 = .ok (.iload 4, 2) := by decide +kernel
theorem dL_law_229 : decode cL_law 229 = .ok (.iconst 1, 1) := by decide +kernel
theorem dL_law_230 : decode cL_law 230 = .ok (.iadd, 1) := by decide +kernel
theorem dL_law_231 : decode cL_law 231 = .ok (.iaload, 1) := by decide +kernel
theorem dL_law_232 : decode cL_law 232 = .ok (.invokevirtual 78, 3) := by decide +kernel
theorem dL_law_235 : decode cL_law 235 = .ok (.istore 6, 2) := by decide +kernel
theorem dL_law_237 : decode cL_law 237 = .ok (.aload_n 2, 1) := by decide +kernel
theorem dL_law_238 : decode cL_law 238 = .ok (.invokevirtual 71, 3) := by decide +kernel
theorem dL_law_241 : decode cL_law 241 = .ok (.iload 5, 2) := by decide +kernel
theorem dL_law_243 : decode cL_law 243 = .ok (.if_icmp .eq 5, 3) := by decide +kernel
theorem dL_law_246 : decode cL_law 246 = .ok (.iconst 0, 1) := by decide +kernel
theorem dL_law_247 : decode cL_law 247 = .ok (.ireturn, 1) := by decide +kernel
theorem dL_law_248 : decode cL_law 248 = .ok (.iload 5, 2) := by decide +kernel
theorem dL_law_250 : decode cL_law 250 = .ok (.ifCond .ne 15, 3) := by decide +kernel
theorem dL_law_253 : decode cL_law 253 = .ok (.aload_n 3, 1) := by decide +kernel
theorem dL_law_254 : decode cL_law 254 = .ok (.iconst 0, 1) := by decide +kernel
theorem dL_law_255 : decode cL_law 255 = .ok (.laload, 1) := by decide +kernel
theorem dL_law_256 : decode cL_law 256 = .ok (.iload 6, 2) := by decide +kernel
theorem dL_law_258 : decode cL_law 258 = .ok (.i2l, 1) := by decide +kernel
theorem dL_law_259 : decode cL_law 259 = .ok (.lcmp, 1) := by decide +kernel
theorem dL_law_260 : decode cL_law 260 = .ok (.ifCond .eq 5, 3) := by decide +kernel
theorem dL_law_263 : decode cL_law 263 = .ok (.iconst 0, 1) := by decide +kernel
theorem dL_law_264 : decode cL_law 264 = .ok (.ireturn, 1) := by decide +kernel
theorem dL_law_265 : decode cL_law 265 = .ok (.goto 803, 3) := by decide +kernel
theorem dL_law_268 : decode cL_law 268 = .ok (.aload_n 1, 1) := by decide +kernel
theorem dL_law_269 : decode cL_law 269 = .ok (.aload_n 0, 1) := by decide +kernel
theorem dL_law_270 : decode cL_law 270 = .ok (.iload 4, 2) := by decide +kernel
theorem dL_law_272 : decode cL_law 272 = .ok (.iconst 1, 1) := by decide +kernel
theorem dL_law_273 : decode cL_law 273 = .ok (.iadd, 1) := by decide +kernel
theorem dL_law_274 : decode cL_law 274 = .ok (.iaload, 1) := by decide +kernel
theorem dL_law_275 : decode cL_law 275 = .ok (.aload_n 0, 1) := by decide +kernel
theorem dL_law_276 : decode cL_law 276 = .ok (.iload 4, 2) := by decide +kernel
theorem dL_law_278 : decode cL_law 278 = .ok (.iconst 2, 1) := by decide +kernel
theorem dL_law_279 : decode cL_law 279 = .ok (.iadd, 1) := by decide +kernel
theorem dL_law_280 : decode cL_law 280 = .ok (.iaload, 1) := by decide +kernel
theorem dL_law_281 : decode cL_law 281 = .ok (.aload_n 3, 1) := by decide +kernel
theorem dL_law_282 : decode cL_law 282 = .ok (.invokestatic 79, 3) := by decide +kernel
theorem dL_law_285 : decode cL_law 285 = .ok (.istore 5, 2) := by decide +kernel
theorem dL_law_287 : decode cL_law 287 = .ok (.aload_n 2, 1) := by decide +kernel
theorem dL_law_288 : decode cL_law 288 = .ok (.aload_n 0, 1) := by decide +kernel
theorem dL_law_289 : decode cL_law 289 = .ok (.iload 4, 2) := by decide +kernel
theorem dL_law_291 : decode cL_law 291 = .ok (.iconst 1, 1) := by decide +kernel
theorem dL_law_292 : decode cL_law 292 = .ok (.iadd, 1) := by decide +kernel
theorem dL_law_293 : decode cL_law 293 = .ok (.iaload, 1) := by decide +kernel
theorem dL_law_294 : decode cL_law 294 = .ok (.aload_n 0, 1) := by decide +kernel
theorem dL_law_295 : decode cL_law 295 = .ok (.iload 4, 2) := by decide +kernel
theorem dL_law_297 : decode cL_law 297 = .ok (.iconst 2, 1) := by decide +kernel
theorem dL_law_298 : decode cL_law 298 = .ok (.iadd, 1) := by decide +kernel
theorem dL_law_299 : decode cL_law 299 = .ok (.iaload, 1) := by decide +kernel
theorem dL_law_300 : decode cL_law 300 = .ok (.invokevirtual 82, 3) := by decide +kernel
theorem dL_law_303 : decode cL_law 303 = .ok (.istore 6, 2) := by decide +kernel
theorem dL_law_305 : decode cL_law 305 = .ok (.aload_n 2, 1) := by decide +kernel
theorem dL_law_306 : decode cL_law 306 = .ok (.invokevirtual 71, 3) := by decide +kernel
theorem dL_law_309 : decode cL_law 309 = .ok (.iload 5, 2) := by decide +kernel
theorem dL_law_311 : decode cL_law 311 = .ok (.if_icmp .eq 5, 3) := by decide +kernel
theorem dL_law_314 : decode cL_law 314 = .ok (.iconst 0, 1) := by decide +kernel
theorem dL_law_315 : decode cL_law 315 = .ok (.ireturn, 1) := by decide +kernel
theorem dL_law_316 : decode cL_law 316 = .ok (.iload 5, 2) := by decide +kernel
theorem dL_law_318 : decode cL_law 318 = .ok (.ifCond .ne 15, 3) := by decide +kernel
theorem dL_law_321 : decode cL_law 321 = .ok (.aload_n 3, 1) := by decide +kernel
theorem dL_law_322 : decode cL_law 322 = .ok (.iconst 0, 1) := by decide +kernel
theorem dL_law_323 : decode cL_law 323 = .ok (.laload, 1) := by decide +kernel
theorem dL_law_324 : decode cL_law 324 = .ok (.iload 6, 2) := by decide +kernel
theorem dL_law_326 : decode cL_law 326 = .ok (.i2l, 1) := by decide +kernel
theorem dL_law_327 : decode cL_law 327 = .ok (.lcmp, 1) := by decide +kernel
theorem dL_law_328 : decode cL_law 328 = .ok (.ifCond .eq 5, 3) := by decide +kernel
theorem dL_law_331 : decode cL_law 331 = .ok (.iconst 0, 1) := by decide +kernel
theorem dL_law_332 : decode cL_law 332 = .ok (.ireturn, 1) := by decide +kernel
theorem dL_law_333 : decode cL_law 333 = .ok (.goto 735, 3) := by decide +kernel
theorem dL_law_336 : decode cL_law 336 = .ok (.aload_n 1, 1) := by decide +kernel
theorem dL_law_337 : decode cL_law 337 = .ok (.aload_n 0, 1) := by decide +kernel
theorem dL_law_338 : decode cL_law 338 = .ok (.iload 4, 2) := by decide +kernel
theorem dL_law_340 : decode cL_law 340 = .ok (.iconst 1, 1) := by decide +kernel
theorem dL_law_341 : decode cL_law 341 = .ok (.iadd, 1) := by decide +kernel
theorem dL_law_342 : decode cL_law 342 = .ok (.iaload, 1) := by decide +kernel
theorem dL_law_343 : decode cL_law 343 = .ok (.aload_n 0, 1) := by decide +kernel
theorem dL_law_344 : decode cL_law 344 = .ok (.iload 4, 2) := by decide +kernel
theorem dL_law_346 : decode cL_law 346 = .ok (.iconst 2, 1) := by decide +kernel
theorem dL_law_347 : decode cL_law 347 = .ok (.iadd, 1) := by decide +kernel
theorem dL_law_348 : decode cL_law 348 = .ok (.iaload, 1) := by decide +kernel
theorem dL_law_349 : decode cL_law 349 = .ok (.aload_n 0, 1) := by decide +kernel
theorem dL_law_350 : decode cL_law 350 = .ok (.iload 4, 2) := by decide +kernel
theorem dL_law_352 : decode cL_law 352 = .ok (.iconst 3, 1) := by decide +kernel
theorem dL_law_353 : decode cL_law 353 = .ok (.iadd, 1) := by decide +kernel
theorem dL_law_354 : decode cL_law 354 = .ok (.iaload, 1) := by decide +kernel
theorem dL_law_355 : decode cL_law 355 = .ok (.aload_n 3, 1) := by decide +kernel
theorem dL_law_356 : decode cL_law 356 = .ok (.invokestatic 83, 3) := by decide +kernel
theorem dL_law_359 : decode cL_law 359 = .ok (.istore 5, 2) := by decide +kernel
theorem dL_law_361 : decode cL_law 361 = .ok (.aload_n 2, 1) := by decide +kernel
theorem dL_law_362 : decode cL_law 362 = .ok (.aload_n 0, 1) := by decide +kernel
theorem dL_law_363 : decode cL_law 363 = .ok (.iload 4, 2) := by decide +kernel
theorem dL_law_365 : decode cL_law 365 = .ok (.iconst 1, 1) := by decide +kernel
theorem dL_law_366 : decode cL_law 366 = .ok (.iadd, 1) := by decide +kernel
theorem dL_law_367 : decode cL_law 367 = .ok (.iaload, 1) := by decide +kernel
theorem dL_law_368 : decode cL_law 368 = .ok (.aload_n 0, 1) := by decide +kernel
theorem dL_law_369 : decode cL_law 369 = .ok (.iload 4, 2) := by decide +kernel
theorem dL_law_371 : decode cL_law 371 = .ok (.iconst 2, 1) := by decide +kernel
theorem dL_law_372 : decode cL_law 372 = .ok (.iadd, 1) := by decide +kernel
theorem dL_law_373 : decode cL_law 373 = .ok (.iaload, 1) := by decide +kernel
theorem dL_law_374 : decode cL_law 374 = .ok (.aload_n 0, 1) := by decide +kernel
theorem dL_law_375 : decode cL_law 375 = .ok (.iload 4, 2) := by decide +kernel
theorem dL_law_377 : decode cL_law 377 = .ok (.iconst 3, 1) := by decide +kernel
theorem dL_law_378 : decode cL_law 378 = .ok (.iadd, 1) := by decide +kernel
theorem dL_law_379 : decode cL_law 379 = .ok (.iaload, 1) := by decide +kernel
theorem dL_law_380 : decode cL_law 380 = .ok (.invokevirtual 85, 3) := by decide +kernel
theorem dL_law_383 : decode cL_law 383 = .ok (.istore 6, 2) := by decide +kernel
theorem dL_law_385 : decode cL_law 385 = .ok (.aload_n 2, 1) := by decide +kernel
theorem dL_law_386 : decode cL_law 386 = .ok (.invokevirtual 71, 3) := by decide +kernel
theorem dL_law_389 : decode cL_law 389 = .ok (.iload 5, 2) := by decide +kernel
theorem dL_law_391 : decode cL_law 391 = .ok (.if_icmp .eq 5, 3) := by decide +kernel
theorem dL_law_394 : decode cL_law 394 = .ok (.iconst 0, 1) := by decide +kernel
theorem dL_law_395 : decode cL_law 395 = .ok (.ireturn, 1) := by decide +kernel
theorem dL_law_396 : decode cL_law 396 = .ok (.iload 5, 2) := by decide +kernel
theorem dL_law_398 : decode cL_law 398 = .ok (.ifCond .ne 15, 3) := by decide +kernel
theorem dL_law_401 : decode cL_law 401 = .ok (.aload_n 3, 1) := by decide +kernel
theorem dL_law_402 : decode cL_law 402 = .ok (.iconst 0, 1) := by decide +kernel
theorem dL_law_403 : decode cL_law 403 = .ok (.laload, 1) := by decide +kernel
theorem dL_law_404 : decode cL_law 404 = .ok (.iload 6, 2) := by decide +kernel
theorem dL_law_406 : decode cL_law 406 = .ok (.i2l, 1) := by decide +kernel
theorem dL_law_407 : decode cL_law 407 = .ok (.lcmp, 1) := by decide +kernel
theorem dL_law_408 : decode cL_law 408 = .ok (.ifCond .eq 5, 3) := by decide +kernel
theorem dL_law_411 : decode cL_law 411 = .ok (.iconst 0, 1) := by decide +kernel
theorem dL_law_412 : decode cL_law 412 = .ok (.ireturn, 1) := by decide +kernel
theorem dL_law_413 : decode cL_law 413 = .ok (.goto 655, 3) := by decide +kernel
theorem dL_law_416 : decode cL_law 416 = .ok (.aload_n 1, 1) := by decide +kernel
theorem dL_law_417 : decode cL_law 417 = .ok (.aload_n 0, 1) := by decide +kernel
theorem dL_law_418 : decode cL_law 418 = .ok (.iload 4, 2) := by decide +kernel
theorem dL_law_420 : decode cL_law 420 = .ok (.iconst 1, 1) := by decide +kernel
theorem dL_law_421 : decode cL_law 421 = .ok (.iadd, 1) := by decide +kernel
theorem dL_law_422 : decode cL_law 422 = .ok (.iaload, 1) := by decide +kernel
theorem dL_law_423 : decode cL_law 423 = .ok (.aload_n 3, 1) := by decide +kernel
theorem dL_law_424 : decode cL_law 424 = .ok (.invokestatic 86, 3) := by decide +kernel
theorem dL_law_427 : decode cL_law 427 = .ok (.istore 5, 2) := by decide +kernel
theorem dL_law_429 : decode cL_law 429 = .ok (.aload_n 2, 1) := by decide +kernel
theorem dL_law_430 : decode cL_law 430 = .ok (.aload_n 0, 1) := by decide +kernel
theorem dL_law_431 : decode cL_law 431 = .ok (.iload 4, 2) := by decide +kernel
theorem dL_law_433 : decode cL_law 433 = .ok (.iconst 1, 1) := by decide +kernel
theorem dL_law_434 : decode cL_law 434 = .ok (.iadd, 1) := by decide +kernel
theorem dL_law_435 : decode cL_law 435 = .ok (.iaload, 1) := by decide +kernel
theorem dL_law_436 : decode cL_law 436 = .ok (.invokevirtual 88, 3) := by decide +kernel
theorem dL_law_439 : decode cL_law 439 = .ok (.lstore 6, 2) := by decide +kernel
theorem dL_law_441 : decode cL_law 441 = .ok (.aload_n 2, 1) := by decide +kernel
theorem dL_law_442 : decode cL_law 442 = .ok (.invokevirtual 71, 3) := by decide +kernel
theorem dL_law_445 : decode cL_law 445 = .ok (.iload 5, 2) := by decide +kernel
theorem dL_law_447 : decode cL_law 447 = .ok (.if_icmp .eq 5, 3) := by decide +kernel
theorem dL_law_450 : decode cL_law 450 = .ok (.iconst 0, 1) := by decide +kernel
theorem dL_law_451 : decode cL_law 451 = .ok (.ireturn, 1) := by decide +kernel
theorem dL_law_452 : decode cL_law 452 = .ok (.iload 5, 2) := by decide +kernel
theorem dL_law_454 : decode cL_law 454 = .ok (.ifCond .ne 14, 3) := by decide +kernel
theorem dL_law_457 : decode cL_law 457 = .ok (.aload_n 3, 1) := by decide +kernel
theorem dL_law_458 : decode cL_law 458 = .ok (.iconst 0, 1) := by decide +kernel
theorem dL_law_459 : decode cL_law 459 = .ok (.laload, 1) := by decide +kernel
theorem dL_law_460 : decode cL_law 460 = .ok (.lload 6, 2) := by decide +kernel
theorem dL_law_462 : decode cL_law 462 = .ok (.lcmp, 1) := by decide +kernel
theorem dL_law_463 : decode cL_law 463 = .ok (.ifCond .eq 5, 3) := by decide +kernel
theorem dL_law_466 : decode cL_law 466 = .ok (.iconst 0, 1) := by decide +kernel
theorem dL_law_467 : decode cL_law 467 = .ok (.ireturn, 1) := by decide +kernel
theorem dL_law_468 : decode cL_law 468 = .ok (.goto 600, 3) := by decide +kernel
theorem dL_law_471 : decode cL_law 471 = .ok (.aload_n 1, 1) := by decide +kernel
theorem dL_law_472 : decode cL_law 472 = .ok (.aload_n 0, 1) := by decide +kernel
theorem dL_law_473 : decode cL_law 473 = .ok (.iload 4, 2) := by decide +kernel
theorem dL_law_475 : decode cL_law 475 = .ok (.iconst 1, 1) := by decide +kernel
theorem dL_law_476 : decode cL_law 476 = .ok (.iadd, 1) := by decide +kernel
theorem dL_law_477 : decode cL_law 477 = .ok (.iaload, 1) := by decide +kernel
theorem dL_law_478 : decode cL_law 478 = .ok (.aload_n 3, 1) := by decide +kernel
theorem dL_law_479 : decode cL_law 479 = .ok (.invokestatic 89, 3) := by decide +kernel
theorem dL_law_482 : decode cL_law 482 = .ok (.istore 5, 2) := by decide +kernel
theorem dL_law_484 : decode cL_law 484 = .ok (.aload_n 2, 1) := by decide +kernel
theorem dL_law_485 : decode cL_law 485 = .ok (.aload_n 0, 1) := by decide +kernel
theorem dL_law_486 : decode cL_law 486 = .ok (.iload 4, 2) := by decide +kernel
theorem dL_law_488 : decode cL_law 488 = .ok (.iconst 1, 1) := by decide +kernel
theorem dL_law_489 : decode cL_law 489 = .ok (.iadd, 1) := by decide +kernel
theorem dL_law_490 : decode cL_law 490 = .ok (.iaload, 1) := by decide +kernel
theorem dL_law_491 : decode cL_law 491 = .ok (.invokevirtual 91, 3) := by decide +kernel
theorem dL_law_494 : decode cL_law 494 = .ok (.istore 6, 2) := by decide +kernel
theorem dL_law_496 : decode cL_law 496 = .ok (.aload_n 2, 1) := by decide +kernel
theorem dL_law_497 : decode cL_law 497 = .ok (.invokevirtual 71, 3) := by decide +kernel
theorem dL_law_500 : decode cL_law 500 = .ok (.iload 5, 2) := by decide +kernel
theorem dL_law_502 : decode cL_law 502 = .ok (.if_icmp .eq 5, 3) := by decide +kernel
theorem dL_law_505 : decode cL_law 505 = .ok (.iconst 0, 1) := by decide +kernel
theorem dL_law_506 : decode cL_law 506 = .ok (.ireturn, 1) := by decide +kernel
theorem dL_law_507 : decode cL_law 507 = .ok (.iload 5, 2) := by decide +kernel
theorem dL_law_509 : decode cL_law 509 = .ok (.ifCond .ne 15, 3) := by decide +kernel
theorem dL_law_512 : decode cL_law 512 = .ok (.aload_n 3, 1) := by decide +kernel
theorem dL_law_513 : decode cL_law 513 = .ok (.iconst 0, 1) := by decide +kernel
theorem dL_law_514 : decode cL_law 514 = .ok (.laload, 1) := by decide +kernel
theorem dL_law_515 : decode cL_law 515 = .ok (.iload 6, 2) := by decide +kernel
theorem dL_law_517 : decode cL_law 517 = .ok (.i2l, 1) := by decide +kernel
theorem dL_law_518 : decode cL_law 518 = .ok (.lcmp, 1) := by decide +kernel
theorem dL_law_519 : decode cL_law 519 = .ok (.ifCond .eq 5, 3) := by decide +kernel
theorem dL_law_522 : decode cL_law 522 = .ok (.iconst 0, 1) := by decide +kernel
theorem dL_law_523 : decode cL_law 523 = .ok (.ireturn, 1) := by decide +kernel
theorem dL_law_524 : decode cL_law 524 = .ok (.goto 544, 3) := by decide +kernel
theorem dL_law_527 : decode cL_law 527 = .ok (.aload_n 1, 1) := by decide +kernel
theorem dL_law_528 : decode cL_law 528 = .ok (.invokevirtual 92, 3) := by decide +kernel
theorem dL_law_531 : decode cL_law 531 = .ok (.aload_n 2, 1) := by decide +kernel
theorem dL_law_532 : decode cL_law 532 = .ok (.invokevirtual 95, 3) := by decide +kernel
theorem dL_law_535 : decode cL_law 535 = .ok (.if_icmp .eq 533, 3) := by decide +kernel
theorem dL_law_538 : decode cL_law 538 = .ok (.iconst 0, 1) := by decide +kernel
theorem dL_law_539 : decode cL_law 539 = .ok (.ireturn, 1) := by decide +kernel
theorem dL_law_540 : decode cL_law 540 = .ok (.aload_n 1, 1) := by decide +kernel
theorem dL_law_541 : decode cL_law 541 = .ok (.invokevirtual 96, 3) := by decide +kernel
theorem dL_law_544 : decode cL_law 544 = .ok (.aload_n 2, 1) := by decide +kernel
theorem dL_law_545 : decode cL_law 545 = .ok (.invokevirtual 99, 3) := by decide +kernel
theorem dL_law_548 : decode cL_law 548 = .ok (.if_icmp .eq 520, 3) := by decide +kernel
theorem dL_law_551 : decode cL_law 551 = .ok (.iconst 0, 1) := by decide +kernel
theorem dL_law_552 : decode cL_law 552 = .ok (.ireturn, 1) := by decide +kernel
theorem dL_law_553 : decode cL_law 553 = .ok (.aload_n 1, 1) := by decide +kernel
theorem dL_law_554 : decode cL_law 554 = .ok (.aload_n 0, 1) := by decide +kernel
theorem dL_law_555 : decode cL_law 555 = .ok (.iload 4, 2) := by decide +kernel
theorem dL_law_557 : decode cL_law 557 = .ok (.iconst 1, 1) := by decide +kernel
theorem dL_law_558 : decode cL_law 558 = .ok (.iadd, 1) := by decide +kernel
theorem dL_law_559 : decode cL_law 559 = .ok (.iaload, 1) := by decide +kernel
theorem dL_law_560 : decode cL_law 560 = .ok (.aload_n 3, 1) := by decide +kernel
theorem dL_law_561 : decode cL_law 561 = .ok (.invokestatic 100, 3) := by decide +kernel
theorem dL_law_564 : decode cL_law 564 = .ok (.istore 5, 2) := by decide +kernel
theorem dL_law_566 : decode cL_law 566 = .ok (.aload_n 2, 1) := by decide +kernel
theorem dL_law_567 : decode cL_law 567 = .ok (.aload_n 0, 1) := by decide +kernel
theorem dL_law_568 : decode cL_law 568 = .ok (.iload 4, 2) := by decide +kernel
theorem dL_law_570 : decode cL_law 570 = .ok (.iconst 1, 1) := by decide +kernel
theorem dL_law_571 : decode cL_law 571 = .ok (.iadd, 1) := by decide +kernel
theorem dL_law_572 : decode cL_law 572 = .ok (.iaload, 1) := by decide +kernel
theorem dL_law_573 : decode cL_law 573 = .ok (.invokevirtual 102, 3) := by decide +kernel
theorem dL_law_576 : decode cL_law 576 = .ok (.istore 6, 2) := by decide +kernel
theorem dL_law_578 : decode cL_law 578 = .ok (.aload_n 2, 1) := by decide +kernel
theorem dL_law_579 : decode cL_law 579 = .ok (.invokevirtual 71, 3) := by decide +kernel
theorem dL_law_582 : decode cL_law 582 = .ok (.iload 5, 2) := by decide +kernel
theorem dL_law_584 : decode cL_law 584 = .ok (.if_icmp .eq 5, 3) := by decide +kernel
theorem dL_law_587 : decode cL_law 587 = .ok (.iconst 0, 1) := by decide +kernel
theorem dL_law_588 : decode cL_law 588 = .ok (.ireturn, 1) := by decide +kernel
theorem dL_law_589 : decode cL_law 589 = .ok (.iload 5, 2) := by decide +kernel
theorem dL_law_591 : decode cL_law 591 = .ok (.ifCond .ne 15, 3) := by decide +kernel
theorem dL_law_594 : decode cL_law 594 = .ok (.aload_n 3, 1) := by decide +kernel
theorem dL_law_595 : decode cL_law 595 = .ok (.iconst 0, 1) := by decide +kernel
theorem dL_law_596 : decode cL_law 596 = .ok (.laload, 1) := by decide +kernel
theorem dL_law_597 : decode cL_law 597 = .ok (.iload 6, 2) := by decide +kernel
theorem dL_law_599 : decode cL_law 599 = .ok (.i2l, 1) := by decide +kernel
theorem dL_law_600 : decode cL_law 600 = .ok (.lcmp, 1) := by decide +kernel
theorem dL_law_601 : decode cL_law 601 = .ok (.ifCond .eq 5, 3) := by decide +kernel
theorem dL_law_604 : decode cL_law 604 = .ok (.iconst 0, 1) := by decide +kernel
theorem dL_law_605 : decode cL_law 605 = .ok (.ireturn, 1) := by decide +kernel
theorem dL_law_606 : decode cL_law 606 = .ok (.goto 462, 3) := by decide +kernel
theorem dL_law_609 : decode cL_law 609 = .ok (.aload_n 1, 1) := by decide +kernel
theorem dL_law_610 : decode cL_law 610 = .ok (.aload_n 0, 1) := by decide +kernel
theorem dL_law_611 : decode cL_law 611 = .ok (.iload 4, 2) := by decide +kernel
theorem dL_law_613 : decode cL_law 613 = .ok (.iconst 1, 1) := by decide +kernel
theorem dL_law_614 : decode cL_law 614 = .ok (.iadd, 1) := by decide +kernel
theorem dL_law_615 : decode cL_law 615 = .ok (.iaload, 1) := by decide +kernel
theorem dL_law_616 : decode cL_law 616 = .ok (.aload_n 3, 1) := by decide +kernel
theorem dL_law_617 : decode cL_law 617 = .ok (.invokestatic 103, 3) := by decide +kernel
theorem dL_law_620 : decode cL_law 620 = .ok (.istore 5, 2) := by decide +kernel
theorem dL_law_622 : decode cL_law 622 = .ok (.aload_n 2, 1) := by decide +kernel
theorem dL_law_623 : decode cL_law 623 = .ok (.aload_n 0, 1) := by decide +kernel
theorem dL_law_624 : decode cL_law 624 = .ok (.iload 4, 2) := by decide +kernel
theorem dL_law_626 : decode cL_law 626 = .ok (.iconst 1, 1) := by decide +kernel
theorem dL_law_627 : decode cL_law 627 = .ok (.iadd, 1) := by decide +kernel
theorem dL_law_628 : decode cL_law 628 = .ok (.iaload, 1) := by decide +kernel
theorem dL_law_629 : decode cL_law 629 = .ok (.invokevirtual 105, 3) := by decide +kernel
theorem dL_law_632 : decode cL_law 632 = .ok (.istore 6, 2) := by decide +kernel
theorem dL_law_634 : decode cL_law 634 = .ok (.aload_n 2, 1) := by decide +kernel
theorem dL_law_635 : decode cL_law 635 = .ok (.invokevirtual 71, 3) := by decide +kernel
theorem dL_law_638 : decode cL_law 638 = .ok (.iload 5, 2) := by decide +kernel
theorem dL_law_640 : decode cL_law 640 = .ok (.if_icmp .eq 5, 3) := by decide +kernel
theorem dL_law_643 : decode cL_law 643 = .ok (.iconst 0, 1) := by decide +kernel
theorem dL_law_644 : decode cL_law 644 = .ok (.ireturn, 1) := by decide +kernel
theorem dL_law_645 : decode cL_law 645 = .ok (.iload 5, 2) := by decide +kernel
theorem dL_law_647 : decode cL_law 647 = .ok (.ifCond .ne 15, 3) := by decide +kernel
theorem dL_law_650 : decode cL_law 650 = .ok (.aload_n 3, 1) := by decide +kernel
theorem dL_law_651 : decode cL_law 651 = .ok (.iconst 0, 1) := by decide +kernel
theorem dL_law_652 : decode cL_law 652 = .ok (.laload, 1) := by decide +kernel
theorem dL_law_653 : decode cL_law 653 = .ok (.iload 6, 2) := by decide +kernel
theorem dL_law_655 : decode cL_law 655 = .ok (.i2l, 1) := by decide +kernel
theorem dL_law_656 : decode cL_law 656 = .ok (.lcmp, 1) := by decide +kernel
theorem dL_law_657 : decode cL_law 657 = .ok (.ifCond .eq 5, 3) := by decide +kernel
theorem dL_law_660 : decode cL_law 660 = .ok (.iconst 0, 1) := by decide +kernel
theorem dL_law_661 : decode cL_law 661 = .ok (.ireturn, 1) := by decide +kernel
theorem dL_law_662 : decode cL_law 662 = .ok (.goto 406, 3) := by decide +kernel
theorem dL_law_665 : decode cL_law 665 = .ok (.aload_n 1, 1) := by decide +kernel
theorem dL_law_666 : decode cL_law 666 = .ok (.aload_n 0, 1) := by decide +kernel
theorem dL_law_667 : decode cL_law 667 = .ok (.iload 4, 2) := by decide +kernel
theorem dL_law_669 : decode cL_law 669 = .ok (.iconst 1, 1) := by decide +kernel
theorem dL_law_670 : decode cL_law 670 = .ok (.iadd, 1) := by decide +kernel
theorem dL_law_671 : decode cL_law 671 = .ok (.iaload, 1) := by decide +kernel
theorem dL_law_672 : decode cL_law 672 = .ok (.aload_n 3, 1) := by decide +kernel
theorem dL_law_673 : decode cL_law 673 = .ok (.invokestatic 106, 3) := by decide +kernel
theorem dL_law_676 : decode cL_law 676 = .ok (.istore 5, 2) := by decide +kernel
theorem dL_law_678 : decode cL_law 678 = .ok (.aload_n 2, 1) := by decide +kernel
theorem dL_law_679 : decode cL_law 679 = .ok (.aload_n 0, 1) := by decide +kernel
theorem dL_law_680 : decode cL_law 680 = .ok (.iload 4, 2) := by decide +kernel
theorem dL_law_682 : decode cL_law 682 = .ok (.iconst 1, 1) := by decide +kernel
theorem dL_law_683 : decode cL_law 683 = .ok (.iadd, 1) := by decide +kernel
theorem dL_law_684 : decode cL_law 684 = .ok (.iaload, 1) := by decide +kernel
theorem dL_law_685 : decode cL_law 685 = .ok (.invokevirtual 108, 3) := by decide +kernel
theorem dL_law_688 : decode cL_law 688 = .ok (.istore 6, 2) := by decide +kernel
theorem dL_law_690 : decode cL_law 690 = .ok (.aload_n 2, 1) := by decide +kernel
theorem dL_law_691 : decode cL_law 691 = .ok (.invokevirtual 71, 3) := by decide +kernel
theorem dL_law_694 : decode cL_law 694 = .ok (.iload 5, 2) := by decide +kernel
theorem dL_law_696 : decode cL_law 696 = .ok (.if_icmp .eq 5, 3) := by decide +kernel
theorem dL_law_699 : decode cL_law 699 = .ok (.iconst 0, 1) := by decide +kernel
theorem dL_law_700 : decode cL_law 700 = .ok (.ireturn, 1) := by decide +kernel
theorem dL_law_701 : decode cL_law 701 = .ok (.iload 5, 2) := by decide +kernel
theorem dL_law_703 : decode cL_law 703 = .ok (.ifCond .ne 15, 3) := by decide +kernel
theorem dL_law_706 : decode cL_law 706 = .ok (.aload_n 3, 1) := by decide +kernel
theorem dL_law_707 : decode cL_law 707 = .ok (.iconst 0, 1) := by decide +kernel
theorem dL_law_708 : decode cL_law 708 = .ok (.laload, 1) := by decide +kernel
theorem dL_law_709 : decode cL_law 709 = .ok (.iload 6, 2) := by decide +kernel
theorem dL_law_711 : decode cL_law 711 = .ok (.i2l, 1) := by decide +kernel
theorem dL_law_712 : decode cL_law 712 = .ok (.lcmp, 1) := by decide +kernel
theorem dL_law_713 : decode cL_law 713 = .ok (.ifCond .eq 5, 3) := by decide +kernel
theorem dL_law_716 : decode cL_law 716 = .ok (.iconst 0, 1) := by decide +kernel
theorem dL_law_717 : decode cL_law 717 = .ok (.ireturn, 1) := by decide +kernel
theorem dL_law_718 : decode cL_law 718 = .ok (.goto 350, 3) := by decide +kernel
theorem dL_law_721 : decode cL_law 721 = .ok (.aload_n 1, 1) := by decide +kernel
theorem dL_law_722 : decode cL_law 722 = .ok (.aload_n 0, 1) := by decide +kernel
theorem dL_law_723 : decode cL_law 723 = .ok (.iload 4, 2) := by decide +kernel
theorem dL_law_725 : decode cL_law 725 = .ok (.iconst 1, 1) := by decide +kernel
theorem dL_law_726 : decode cL_law 726 = .ok (.iadd, 1) := by decide +kernel
theorem dL_law_727 : decode cL_law 727 = .ok (.iaload, 1) := by decide +kernel
theorem dL_law_728 : decode cL_law 728 = .ok (.aload_n 3, 1) := by decide +kernel
theorem dL_law_729 : decode cL_law 729 = .ok (.invokestatic 109, 3) := by decide +kernel
theorem dL_law_732 : decode cL_law 732 = .ok (.istore 5, 2) := by decide +kernel
theorem dL_law_734 : decode cL_law 734 = .ok (.aload_n 2, 1) := by decide +kernel
theorem dL_law_735 : decode cL_law 735 = .ok (.aload_n 0, 1) := by decide +kernel
theorem dL_law_736 : decode cL_law 736 = .ok (.iload 4, 2) := by decide +kernel
theorem dL_law_738 : decode cL_law 738 = .ok (.iconst 1, 1) := by decide +kernel
theorem dL_law_739 : decode cL_law 739 = .ok (.iadd, 1) := by decide +kernel
theorem dL_law_740 : decode cL_law 740 = .ok (.iaload, 1) := by decide +kernel
theorem dL_law_741 : decode cL_law 741 = .ok (.invokevirtual 111, 3) := by decide +kernel
theorem dL_law_744 : decode cL_law 744 = .ok (.istore 6, 2) := by decide +kernel
theorem dL_law_746 : decode cL_law 746 = .ok (.aload_n 2, 1) := by decide +kernel
theorem dL_law_747 : decode cL_law 747 = .ok (.invokevirtual 71, 3) := by decide +kernel
theorem dL_law_750 : decode cL_law 750 = .ok (.iload 5, 2) := by decide +kernel
theorem dL_law_752 : decode cL_law 752 = .ok (.if_icmp .eq 5, 3) := by decide +kernel
theorem dL_law_755 : decode cL_law 755 = .ok (.iconst 0, 1) := by decide +kernel
theorem dL_law_756 : decode cL_law 756 = .ok (.ireturn, 1) := by decide +kernel
theorem dL_law_757 : decode cL_law 757 = .ok (.iload 5, 2) := by decide +kernel
theorem dL_law_759 : decode cL_law 759 = .ok (.ifCond .ne 15, 3) := by decide +kernel
theorem dL_law_762 : decode cL_law 762 = .ok (.aload_n 3, 1) := by decide +kernel
theorem dL_law_763 : decode cL_law 763 = .ok (.iconst 0, 1) := by decide +kernel
theorem dL_law_764 : decode cL_law 764 = .ok (.laload, 1) := by decide +kernel
theorem dL_law_765 : decode cL_law 765 = .ok (.iload 6, 2) := by decide +kernel
theorem dL_law_767 : decode cL_law 767 = .ok (.i2l, 1) := by decide +kernel
theorem dL_law_768 : decode cL_law 768 = .ok (.lcmp, 1) := by decide +kernel
theorem dL_law_769 : decode cL_law 769 = .ok (.ifCond .eq 5, 3) := by decide +kernel
theorem dL_law_772 : decode cL_law 772 = .ok (.iconst 0, 1) := by decide +kernel
theorem dL_law_773 : decode cL_law 773 = .ok (.ireturn, 1) := by decide +kernel
theorem dL_law_774 : decode cL_law 774 = .ok (.goto 294, 3) := by decide +kernel
theorem dL_law_777 : decode cL_law 777 = .ok (.aload_n 1, 1) := by decide +kernel
theorem dL_law_778 : decode cL_law 778 = .ok (.aload_n 0, 1) := by decide +kernel
theorem dL_law_779 : decode cL_law 779 = .ok (.iload 4, 2) := by decide +kernel
theorem dL_law_781 : decode cL_law 781 = .ok (.iconst 1, 1) := by decide +kernel
theorem dL_law_782 : decode cL_law 782 = .ok (.iadd, 1) := by decide +kernel
theorem dL_law_783 : decode cL_law 783 = .ok (.iaload, 1) := by decide +kernel
theorem dL_law_784 : decode cL_law 784 = .ok (.aload_n 0, 1) := by decide +kernel
theorem dL_law_785 : decode cL_law 785 = .ok (.iload 4, 2) := by decide +kernel
theorem dL_law_787 : decode cL_law 787 = .ok (.iconst 2, 1) := by decide +kernel
theorem dL_law_788 : decode cL_law 788 = .ok (.iadd, 1) := by decide +kernel
theorem dL_law_789 : decode cL_law 789 = .ok (.iaload, 1) := by decide +kernel
theorem dL_law_790 : decode cL_law 790 = .ok (.aload_n 3, 1) := by decide +kernel
theorem dL_law_791 : decode cL_law 791 = .ok (.invokestatic 112, 3) := by decide +kernel
theorem dL_law_794 : decode cL_law 794 = .ok (.istore 5, 2) := by decide +kernel
theorem dL_law_796 : decode cL_law 796 = .ok (.aload_n 2, 1) := by decide +kernel
theorem dL_law_797 : decode cL_law 797 = .ok (.aload_n 0, 1) := by decide +kernel
theorem dL_law_798 : decode cL_law 798 = .ok (.iload 4, 2) := by decide +kernel
theorem dL_law_800 : decode cL_law 800 = .ok (.iconst 1, 1) := by decide +kernel
theorem dL_law_801 : decode cL_law 801 = .ok (.iadd, 1) := by decide +kernel
theorem dL_law_802 : decode cL_law 802 = .ok (.iaload, 1) := by decide +kernel
theorem dL_law_803 : decode cL_law 803 = .ok (.aload_n 0, 1) := by decide +kernel
theorem dL_law_804 : decode cL_law 804 = .ok (.iload 4, 2) := by decide +kernel
theorem dL_law_806 : decode cL_law 806 = .ok (.iconst 2, 1) := by decide +kernel
theorem dL_law_807 : decode cL_law 807 = .ok (.iadd, 1) := by decide +kernel
theorem dL_law_808 : decode cL_law 808 = .ok (.iaload, 1) := by decide +kernel
theorem dL_law_809 : decode cL_law 809 = .ok (.invokevirtual 114, 3) := by decide +kernel
theorem dL_law_812 : decode cL_law 812 = .ok (.istore 6, 2) := by decide +kernel
theorem dL_law_814 : decode cL_law 814 = .ok (.aload_n 2, 1) := by decide +kernel
theorem dL_law_815 : decode cL_law 815 = .ok (.invokevirtual 71, 3) := by decide +kernel
theorem dL_law_818 : decode cL_law 818 = .ok (.iload 5, 2) := by decide +kernel
theorem dL_law_820 : decode cL_law 820 = .ok (.if_icmp .eq 5, 3) := by decide +kernel
theorem dL_law_823 : decode cL_law 823 = .ok (.iconst 0, 1) := by decide +kernel
theorem dL_law_824 : decode cL_law 824 = .ok (.ireturn, 1) := by decide +kernel
theorem dL_law_825 : decode cL_law 825 = .ok (.iload 5, 2) := by decide +kernel
theorem dL_law_827 : decode cL_law 827 = .ok (.ifCond .ne 15, 3) := by decide +kernel
theorem dL_law_830 : decode cL_law 830 = .ok (.aload_n 3, 1) := by decide +kernel
theorem dL_law_831 : decode cL_law 831 = .ok (.iconst 0, 1) := by decide +kernel
theorem dL_law_832 : decode cL_law 832 = .ok (.laload, 1) := by decide +kernel
theorem dL_law_833 : decode cL_law 833 = .ok (.iload 6, 2) := by decide +kernel
theorem dL_law_835 : decode cL_law 835 = .ok (.i2l, 1) := by decide +kernel
theorem dL_law_836 : decode cL_law 836 = .ok (.lcmp, 1) := by decide +kernel
theorem dL_law_837 : decode cL_law 837 = .ok (.ifCond .eq 5, 3) := by decide +kernel
theorem dL_law_840 : decode cL_law 840 = .ok (.iconst 0, 1) := by decide +kernel
theorem dL_law_841 : decode cL_law 841 = .ok (.ireturn, 1) := by decide +kernel
theorem dL_law_842 : decode cL_law 842 = .ok (.goto 226, 3) := by decide +kernel
theorem dL_law_845 : decode cL_law 845 = .ok (.aload_n 1, 1) := by decide +kernel
theorem dL_law_846 : decode cL_law 846 = .ok (.aload_n 0, 1) := by decide +kernel
theorem dL_law_847 : decode cL_law 847 = .ok (.iload 4, 2) := by decide +kernel
theorem dL_law_849 : decode cL_law 849 = .ok (.iconst 1, 1) := by decide +kernel
theorem dL_law_850 : decode cL_law 850 = .ok (.iadd, 1) := by decide +kernel
theorem dL_law_851 : decode cL_law 851 = .ok (.iaload, 1) := by decide +kernel
theorem dL_law_852 : decode cL_law 852 = .ok (.aload_n 3, 1) := by decide +kernel
theorem dL_law_853 : decode cL_law 853 = .ok (.invokestatic 115, 3) := by decide +kernel
theorem dL_law_856 : decode cL_law 856 = .ok (.istore 5, 2) := by decide +kernel
theorem dL_law_858 : decode cL_law 858 = .ok (.aload_n 2, 1) := by decide +kernel
theorem dL_law_859 : decode cL_law 859 = .ok (.aload_n 0, 1) := by decide +kernel
theorem dL_law_860 : decode cL_law 860 = .ok (.iload 4, 2) := by decide +kernel
theorem dL_law_862 : decode cL_law 862 = .ok (.iconst 1, 1) := by decide +kernel
theorem dL_law_863 : decode cL_law 863 = .ok (.iadd, 1) := by decide +kernel
theorem dL_law_864 : decode cL_law 864 = .ok (.iaload, 1) := by decide +kernel
theorem dL_law_865 : decode cL_law 865 = .ok (.invokevirtual 117, 3) := by decide +kernel
theorem dL_law_868 : decode cL_law 868 = .ok (.istore 6, 2) := by decide +kernel
theorem dL_law_870 : decode cL_law 870 = .ok (.aload_n 2, 1) := by decide +kernel
theorem dL_law_871 : decode cL_law 871 = .ok (.invokevirtual 71, 3) := by decide +kernel
theorem dL_law_874 : decode cL_law 874 = .ok (.iload 5, 2) := by decide +kernel
theorem dL_law_876 : decode cL_law 876 = .ok (.if_icmp .eq 5, 3) := by decide +kernel
theorem dL_law_879 : decode cL_law 879 = .ok (.iconst 0, 1) := by decide +kernel
theorem dL_law_880 : decode cL_law 880 = .ok (.ireturn, 1) := by decide +kernel
theorem dL_law_881 : decode cL_law 881 = .ok (.iload 5, 2) := by decide +kernel
theorem dL_law_883 : decode cL_law 883 = .ok (.ifCond .ne 15, 3) := by decide +kernel
theorem dL_law_886 : decode cL_law 886 = .ok (.aload_n 3, 1) := by decide +kernel
theorem dL_law_887 : decode cL_law 887 = .ok (.iconst 0, 1) := by decide +kernel
theorem dL_law_888 : decode cL_law 888 = .ok (.laload, 1) := by decide +kernel
theorem dL_law_889 : decode cL_law 889 = .ok (.iload 6, 2) := by decide +kernel
theorem dL_law_891 : decode cL_law 891 = .ok (.i2l, 1) := by decide +kernel
theorem dL_law_892 : decode cL_law 892 = .ok (.lcmp, 1) := by decide +kernel
theorem dL_law_893 : decode cL_law 893 = .ok (.ifCond .eq 5, 3) := by decide +kernel
theorem dL_law_896 : decode cL_law 896 = .ok (.iconst 0, 1) := by decide +kernel
theorem dL_law_897 : decode cL_law 897 = .ok (.ireturn, 1) := by decide +kernel
theorem dL_law_898 : decode cL_law 898 = .ok (.goto 170, 3) := by decide +kernel
theorem dL_law_901 : decode cL_law 901 = .ok (.aload_n 1, 1) := by decide +kernel
theorem dL_law_902 : decode cL_law 902 = .ok (.aload_n 0, 1) := by decide +kernel
theorem dL_law_903 : decode cL_law 903 = .ok (.iload 4, 2) := by decide +kernel
theorem dL_law_905 : decode cL_law 905 = .ok (.iconst 1, 1) := by decide +kernel
theorem dL_law_906 : decode cL_law 906 = .ok (.iadd, 1) := by decide +kernel
theorem dL_law_907 : decode cL_law 907 = .ok (.iaload, 1) := by decide +kernel
theorem dL_law_908 : decode cL_law 908 = .ok (.aload_n 3, 1) := by decide +kernel
theorem dL_law_909 : decode cL_law 909 = .ok (.invokestatic 118, 3) := by decide +kernel
theorem dL_law_912 : decode cL_law 912 = .ok (.istore 5, 2) := by decide +kernel
theorem dL_law_914 : decode cL_law 914 = .ok (.aload_n 2, 1) := by decide +kernel
theorem dL_law_915 : decode cL_law 915 = .ok (.aload_n 0, 1) := by decide +kernel
theorem dL_law_916 : decode cL_law 916 = .ok (.iload 4, 2) := by decide +kernel
theorem dL_law_918 : decode cL_law 918 = .ok (.iconst 1, 1) := by decide +kernel
theorem dL_law_919 : decode cL_law 919 = .ok (.iadd, 1) := by decide +kernel
theorem dL_law_920 : decode cL_law 920 = .ok (.iaload, 1) := by decide +kernel
theorem dL_law_921 : decode cL_law 921 = .ok (.invokevirtual 120, 3) := by decide +kernel
theorem dL_law_924 : decode cL_law 924 = .ok (.istore 6, 2) := by decide +kernel
theorem dL_law_926 : decode cL_law 926 = .ok (.aload_n 2, 1) := by decide +kernel
theorem dL_law_927 : decode cL_law 927 = .ok (.invokevirtual 71, 3) := by decide +kernel
theorem dL_law_930 : decode cL_law 930 = .ok (.iload 5, 2) := by decide +kernel
theorem dL_law_932 : decode cL_law 932 = .ok (.if_icmp .eq 5, 3) := by decide +kernel
theorem dL_law_935 : decode cL_law 935 = .ok (.iconst 0, 1) := by decide +kernel
theorem dL_law_936 : decode cL_law 936 = .ok (.ireturn, 1) := by decide +kernel
theorem dL_law_937 : decode cL_law 937 = .ok (.iload 5, 2) := by decide +kernel
theorem dL_law_939 : decode cL_law 939 = .ok (.ifCond .ne 15, 3) := by decide +kernel
theorem dL_law_942 : decode cL_law 942 = .ok (.aload_n 3, 1) := by decide +kernel
theorem dL_law_943 : decode cL_law 943 = .ok (.iconst 0, 1) := by decide +kernel
theorem dL_law_944 : decode cL_law 944 = .ok (.laload, 1) := by decide +kernel
theorem dL_law_945 : decode cL_law 945 = .ok (.iload 6, 2) := by decide +kernel
theorem dL_law_947 : decode cL_law 947 = .ok (.i2l, 1) := by decide +kernel
theorem dL_law_948 : decode cL_law 948 = .ok (.lcmp, 1) := by decide +kernel
theorem dL_law_949 : decode cL_law 949 = .ok (.ifCond .eq 5, 3) := by decide +kernel
theorem dL_law_952 : decode cL_law 952 = .ok (.iconst 0, 1) := by decide +kernel
theorem dL_law_953 : decode cL_law 953 = .ok (.ireturn, 1) := by decide +kernel
theorem dL_law_954 : decode cL_law 954 = .ok (.goto 114, 3) := by decide +kernel
theorem dL_law_957 : decode cL_law 957 = .ok (.aload_n 1, 1) := by decide +kernel
theorem dL_law_958 : decode cL_law 958 = .ok (.aload_n 0, 1) := by decide +kernel
theorem dL_law_959 : decode cL_law 959 = .ok (.iload 4, 2) := by decide +kernel
theorem dL_law_961 : decode cL_law 961 = .ok (.iconst 1, 1) := by decide +kernel
theorem dL_law_962 : decode cL_law 962 = .ok (.iadd, 1) := by decide +kernel
theorem dL_law_963 : decode cL_law 963 = .ok (.iaload, 1) := by decide +kernel
theorem dL_law_964 : decode cL_law 964 = .ok (.aload_n 3, 1) := by decide +kernel
theorem dL_law_965 : decode cL_law 965 = .ok (.invokestatic 121, 3) := by decide +kernel
theorem dL_law_968 : decode cL_law 968 = .ok (.istore 5, 2) := by decide +kernel
theorem dL_law_970 : decode cL_law 970 = .ok (.aload_n 2, 1) := by decide +kernel
theorem dL_law_971 : decode cL_law 971 = .ok (.aload_n 0, 1) := by decide +kernel
theorem dL_law_972 : decode cL_law 972 = .ok (.iload 4, 2) := by decide +kernel
theorem dL_law_974 : decode cL_law 974 = .ok (.iconst 1, 1) := by decide +kernel
theorem dL_law_975 : decode cL_law 975 = .ok (.iadd, 1) := by decide +kernel
theorem dL_law_976 : decode cL_law 976 = .ok (.iaload, 1) := by decide +kernel
theorem dL_law_977 : decode cL_law 977 = .ok (.invokevirtual 123, 3) := by decide +kernel
theorem dL_law_980 : decode cL_law 980 = .ok (.istore 6, 2) := by decide +kernel
theorem dL_law_982 : decode cL_law 982 = .ok (.aload_n 2, 1) := by decide +kernel
theorem dL_law_983 : decode cL_law 983 = .ok (.invokevirtual 71, 3) := by decide +kernel
theorem dL_law_986 : decode cL_law 986 = .ok (.iload 5, 2) := by decide +kernel
theorem dL_law_988 : decode cL_law 988 = .ok (.if_icmp .eq 5, 3) := by decide +kernel
theorem dL_law_991 : decode cL_law 991 = .ok (.iconst 0, 1) := by decide +kernel
theorem dL_law_992 : decode cL_law 992 = .ok (.ireturn, 1) := by decide +kernel
theorem dL_law_993 : decode cL_law 993 = .ok (.iload 5, 2) := by decide +kernel
theorem dL_law_995 : decode cL_law 995 = .ok (.ifCond .ne 15, 3) := by decide +kernel
theorem dL_law_998 : decode cL_law 998 = .ok (.aload_n 3, 1) := by decide +kernel
theorem dL_law_999 : decode cL_law 999 = .ok (.iconst 0, 1) := by decide +kernel
theorem dL_law_1000 : decode cL_law 1000 = .ok (.laload, 1) := by decide +kernel
theorem dL_law_1001 : decode cL_law 1001 = .ok (.iload 6, 2) := by decide +kernel
theorem dL_law_1003 : decode cL_law 1003 = .ok (.i2l, 1) := by decide +kernel
theorem dL_law_1004 : decode cL_law 1004 = .ok (.lcmp, 1) := by decide +kernel
theorem dL_law_1005 : decode cL_law 1005 = .ok (.ifCond .eq 5, 3) := by decide +kernel
theorem dL_law_1008 : decode cL_law 1008 = .ok (.iconst 0, 1) := by decide +kernel
theorem dL_law_1009 : decode cL_law 1009 = .ok (.ireturn, 1) := by decide +kernel
theorem dL_law_1010 : decode cL_law 1010 = .ok (.goto 58, 3) := by decide +kernel
theorem dL_law_1013 : decode cL_law 1013 = .ok (.aload_n 1, 1) := by decide +kernel
theorem dL_law_1014 : decode cL_law 1014 = .ok (.invokevirtual 124, 3) := by decide +kernel
theorem dL_law_1017 : decode cL_law 1017 = .ok (.aload_n 2, 1) := by decide +kernel
theorem dL_law_1018 : decode cL_law 1018 = .ok (.invokevirtual 128, 3) := by decide +kernel
theorem dL_law_1021 : decode cL_law 1021 = .ok (.lcmp, 1) := by decide +kernel
theorem dL_law_1022 : decode cL_law 1022 = .ok (.ifCond .eq 46, 3) := by decide +kernel
theorem dL_law_1025 : decode cL_law 1025 = .ok (.iconst 0, 1) := by decide +kernel
theorem dL_law_1026 : decode cL_law 1026 = .ok (.ireturn, 1) := by decide +kernel
theorem dL_law_1027 : decode cL_law 1027 = .ok (.aload_n 1, 1) := by decide +kernel
theorem dL_law_1028 : decode cL_law 1028 = .ok (.invokevirtual 129, 3) := by decide +kernel
theorem dL_law_1031 : decode cL_law 1031 = .ok (.aload_n 2, 1) := by decide +kernel
theorem dL_law_1032 : decode cL_law 1032 = .ok (.invokevirtual 132, 3) := by decide +kernel
theorem dL_law_1035 : decode cL_law 1035 = .ok (.lcmp, 1) := by decide +kernel
theorem dL_law_1036 : decode cL_law 1036 = .ok (.ifCond .eq 32, 3) := by decide +kernel
theorem dL_law_1039 : decode cL_law 1039 = .ok (.iconst 0, 1) := by decide +kernel
theorem dL_law_1040 : decode cL_law 1040 = .ok (.ireturn, 1) := by decide +kernel
theorem dL_law_1041 : decode cL_law 1041 = .ok (.aload_n 1, 1) := by decide +kernel
theorem dL_law_1042 : decode cL_law 1042 = .ok (.invokevirtual 133, 3) := by decide +kernel
theorem dL_law_1045 : decode cL_law 1045 = .ok (.aload_n 2, 1) := by decide +kernel
theorem dL_law_1046 : decode cL_law 1046 = .ok (.invokevirtual 136, 3) := by decide +kernel
theorem dL_law_1049 : decode cL_law 1049 = .ok (.lcmp, 1) := by decide +kernel
theorem dL_law_1050 : decode cL_law 1050 = .ok (.ifCond .eq 18, 3) := by decide +kernel
theorem dL_law_1053 : decode cL_law 1053 = .ok (.iconst 0, 1) := by decide +kernel
theorem dL_law_1054 : decode cL_law 1054 = .ok (.ireturn, 1) := by decide +kernel
theorem dL_law_1055 : decode cL_law 1055 = .ok (.aload_n 1, 1) := by decide +kernel
theorem dL_law_1056 : decode cL_law 1056 = .ok (.invokevirtual 137, 3) := by decide +kernel
theorem dL_law_1059 : decode cL_law 1059 = .ok (.aload_n 2, 1) := by decide +kernel
theorem dL_law_1060 : decode cL_law 1060 = .ok (.invokevirtual 140, 3) := by decide +kernel
theorem dL_law_1063 : decode cL_law 1063 = .ok (.if_icmp .eq 5, 3) := by decide +kernel
theorem dL_law_1066 : decode cL_law 1066 = .ok (.iconst 0, 1) := by decide +kernel
theorem dL_law_1067 : decode cL_law 1067 = .ok (.ireturn, 1) := by decide +kernel
theorem dL_law_1068 : decode cL_law 1068 = .ok (.iinc 4 4, 3) := by decide +kernel
theorem dL_law_1071 : decode cL_law 1071 = .ok (.goto (-1048), 3) := by decide +kernel
theorem dL_law_1074 : decode cL_law 1074 = .ok (.iconst 1, 1) := by decide +kernel
theorem dL_law_1075 : decode cL_law 1075 = .ok (.ireturn, 1) := by decide +kernel
end
section
def WS : List Cond := lw_tbl.filter goodWord
theorem ws_in {w : Cond} (h : w ∈ lw_tbl) (g : goodWord w = true) : w ∈ WS := List.mem_filter.mpr ⟨h, g⟩
theorem ws_good {w : Cond} (h : w ∈ WS) : (w.onTables && w.keeps) = true ∨ ∃ ty, w = .arrayClass ty := good_of_word (List.mem_filter.mp h).2
theorem ws_tbl {w : Cond} (h : w ∈ WS) : w ∈ lw_tbl := (List.mem_filter.mp h).1
theorem in_L : Cond.initialized RL ∈ WS := ws_in (List.mem_append_right _ (List.mem_of_getElem? (i := 0) (by decide +kernel))) (by decide +kernel)
theorem in_X3 : Cond.initialized RX3 ∈ WS := ws_in (List.mem_append_right _ (List.mem_of_getElem? (i := 1) (by decide +kernel))) (by decide +kernel)
theorem in_X4 : Cond.initialized RX4 ∈ WS := ws_in (List.mem_append_right _ (List.mem_of_getElem? (i := 2) (by decide +kernel))) (by decide +kernel)
theorem in_Throwable : Cond.initialized "java/lang/Throwable" ∈ WS := ws_in (List.mem_append_right _ (List.mem_of_getElem? (i := 3) (by decide +kernel))) (by decide +kernel)
theorem in_Exception : Cond.initialized "java/lang/Exception" ∈ WS := ws_in (List.mem_append_right _ (List.mem_of_getElem? (i := 4) (by decide +kernel))) (by decide +kernel)
theorem in_RuntimeException : Cond.initialized "java/lang/RuntimeException" ∈ WS := ws_in (List.mem_append_right _ (List.mem_of_getElem? (i := 5) (by decide +kernel))) (by decide +kernel)
theorem in_IllegalArgumentException : Cond.initialized "java/lang/IllegalArgumentException" ∈ WS := ws_in (List.mem_append_right _ (List.mem_of_getElem? (i := 6) (by decide +kernel))) (by decide +kernel)
theorem in_IllegalStateException : Cond.initialized "java/lang/IllegalStateException" ∈ WS := ws_in (List.mem_append_right _ (List.mem_of_getElem? (i := 7) (by decide +kernel))) (by decide +kernel)
theorem in_X2 : Cond.initialized RX2 ∈ WS := ws_in (List.mem_append_right _ (List.mem_of_getElem? (i := 8) (by decide +kernel))) (by decide +kernel)
theorem in_X1 : Cond.initialized RX1 ∈ WS := ws_in (List.mem_append_right _ (List.mem_of_getElem? (i := 9) (by decide +kernel))) (by decide +kernel)
theorem in_X0 : Cond.initialized RX0 ∈ WS := ws_in (List.mem_append_right _ (List.mem_of_getElem? (i := 10) (by decide +kernel))) (by decide +kernel)
theorem in_IndexOutOfBoundsException : Cond.initialized "java/lang/IndexOutOfBoundsException" ∈ WS := ws_in (List.mem_append_right _ (List.mem_of_getElem? (i := 11) (by decide +kernel))) (by decide +kernel)
theorem in_J9 : Cond.initialized RJ9 ∈ WS := ws_in (List.mem_append_right _ (List.mem_of_getElem? (i := 12) (by decide +kernel))) (by decide +kernel)
theorem cl_L_8 : Cond.classLink RL 8 RX3 ∈ WS := ws_in (List.mem_append_right _ (List.mem_of_getElem? (i := 13) (by decide +kernel))) (by decide +kernel)
theorem mk_X3 : Cond.instantiable RX3 14 ∈ WS := ws_in (List.mem_append_right _ (List.mem_of_getElem? (i := 14) (by decide +kernel))) (by decide +kernel)
theorem ml_L_61 : Cond.methodLink RL 61 yX3_init ∈ WS := ws_in (List.mem_append_right _ (List.mem_of_getElem? (i := 15) (by decide +kernel))) (by decide +kernel)
theorem im_yX3_init : Cond.instanceMethod yX3_init ∈ WS := ws_in (List.mem_append_right _ (List.mem_of_getElem? (i := 16) (by decide +kernel))) (by decide +kernel)
theorem co_yX3_init : Cond.code yX3_init cX3_init 2 (none : Option FieldType) ∈ WS := ws_in (List.mem_append_right _ (List.mem_of_getElem? (i := 17) (by decide +kernel))) (by decide +kernel)
theorem ml_X3_1 : Cond.methodLink RX3 1 objectInit ∈ WS := ws_in (List.mem_append_right _ (List.mem_of_getElem? (i := 18) (by decide +kernel))) (by decide +kernel)
theorem im_objectInit : Cond.instanceMethod objectInit ∈ WS := ws_in (List.mem_append_right _ (List.mem_of_getElem? (i := 19) (by decide +kernel))) (by decide +kernel)
theorem co_objectInit : Cond.code objectInit ⟨#[0xb1]⟩ 1 (none : Option FieldType) ∈ WS := ws_in (List.mem_append_right _ (List.mem_of_getElem? (i := 20) (by decide +kernel))) (by decide +kernel)
theorem cl_X3_9 : Cond.classLink RX3 9 RX2 ∈ WS := ws_in (List.mem_append_right _ (List.mem_of_getElem? (i := 21) (by decide +kernel))) (by decide +kernel)
theorem cl_X3_15 : Cond.classLink RX3 15 RX1 ∈ WS := ws_in (List.mem_append_right _ (List.mem_of_getElem? (i := 23) (by decide +kernel))) (by decide +kernel)
theorem kl_X3_28 : Cond.constantLong RX3 28 (-1) ∈ WS := ws_in (List.mem_append_right _ (List.mem_of_getElem? (i := 25) (by decide +kernel))) (by decide +kernel)
theorem fl_X3_11 : Cond.fieldLink RX3 11 "ProfitsOffice" "policies" "[LProfitsOffice$Policy;" ∈ WS := ws_in (List.mem_append_right _ (List.mem_of_getElem? (i := 26) (by decide +kernel))) (by decide +kernel)
theorem fl_X3_17 : Cond.fieldLink RX3 17 "ProfitsOffice" "generations" "[LProfitsOffice$Generation;" ∈ WS := ws_in (List.mem_append_right _ (List.mem_of_getElem? (i := 27) (by decide +kernel))) (by decide +kernel)
theorem fl_X3_21 : Cond.fieldLink RX3 21 "ProfitsOffice" "lastRatios" "[J" ∈ WS := ws_in (List.mem_append_right _ (List.mem_of_getElem? (i := 28) (by decide +kernel))) (by decide +kernel)
theorem fl_X3_25 : Cond.fieldLink RX3 25 "ProfitsOffice" "ratiosBefore" "[J" ∈ WS := ws_in (List.mem_append_right _ (List.mem_of_getElem? (i := 29) (by decide +kernel))) (by decide +kernel)
theorem fl_X3_62 : Cond.fieldLink RX3 62 "ProfitsOffice" "policyCount" "I" ∈ WS := ws_in (List.mem_append_right _ (List.mem_of_getElem? (i := 30) (by decide +kernel))) (by decide +kernel)
theorem fl_X3_205 : Cond.fieldLink RX3 205 "ProfitsOffice" "generationCount" "I" ∈ WS := ws_in (List.mem_append_right _ (List.mem_of_getElem? (i := 31) (by decide +kernel))) (by decide +kernel)
theorem fl_X3_110 : Cond.fieldLink RX3 110 "ProfitsOffice" "year" "I" ∈ WS := ws_in (List.mem_append_right _ (List.mem_of_getElem? (i := 32) (by decide +kernel))) (by decide +kernel)
theorem fl_X3_30 : Cond.fieldLink RX3 30 "ProfitsOffice" "bonusRate" "I" ∈ WS := ws_in (List.mem_append_right _ (List.mem_of_getElem? (i := 33) (by decide +kernel))) (by decide +kernel)
theorem fl_X3_34 : Cond.fieldLink RX3 34 "ProfitsOffice" "charge" "I" ∈ WS := ws_in (List.mem_append_right _ (List.mem_of_getElem? (i := 34) (by decide +kernel))) (by decide +kernel)
theorem fl_X3_37 : Cond.fieldLink RX3 37 "ProfitsOffice" "scale" "I" ∈ WS := ws_in (List.mem_append_right _ (List.mem_of_getElem? (i := 35) (by decide +kernel))) (by decide +kernel)
theorem fl_X3_40 : Cond.fieldLink RX3 40 "ProfitsOffice" "step" "I" ∈ WS := ws_in (List.mem_append_right _ (List.mem_of_getElem? (i := 36) (by decide +kernel))) (by decide +kernel)
theorem fl_X3_43 : Cond.fieldLink RX3 43 "ProfitsOffice" "floor" "I" ∈ WS := ws_in (List.mem_append_right _ (List.mem_of_getElem? (i := 37) (by decide +kernel))) (by decide +kernel)
theorem fl_X3_101 : Cond.fieldLink RX3 101 "ProfitsOffice" "estate" "J" ∈ WS := ws_in (List.mem_append_right _ (List.mem_of_getElem? (i := 38) (by decide +kernel))) (by decide +kernel)
theorem fl_X3_105 : Cond.fieldLink RX3 105 "ProfitsOffice" "assets" "J" ∈ WS := ws_in (List.mem_append_right _ (List.mem_of_getElem? (i := 39) (by decide +kernel))) (by decide +kernel)
theorem ac_long : Cond.arrayClass (.long) ∈ WS := ws_in (List.mem_append_right _ (List.mem_of_getElem? (i := 69) (by decide +kernel))) (by decide +kernel)
theorem ml_L_92 : Cond.methodLink RL 92 yX3_year ∈ WS := ws_in (List.mem_append_right _ (List.mem_of_getElem? (i := 70) (by decide +kernel))) (by decide +kernel)
theorem im_yX3_year : Cond.instanceMethod yX3_year ∈ WS := ws_in (List.mem_append_right _ (List.mem_of_getElem? (i := 71) (by decide +kernel))) (by decide +kernel)
theorem se_yX3_year : Cond.selects RX3 yX3_year yX3_year ∈ WS := ws_in (List.mem_append_right _ (List.mem_of_getElem? (i := 72) (by decide +kernel))) (by decide +kernel)
theorem co_yX3_year : Cond.code yX3_year cX3_year 1 (some .int) ∈ WS := ws_in (List.mem_append_right _ (List.mem_of_getElem? (i := 73) (by decide +kernel))) (by decide +kernel)
theorem ml_L_96 : Cond.methodLink RL 96 yX3_policies ∈ WS := ws_in (List.mem_append_right _ (List.mem_of_getElem? (i := 74) (by decide +kernel))) (by decide +kernel)
theorem im_yX3_policies : Cond.instanceMethod yX3_policies ∈ WS := ws_in (List.mem_append_right _ (List.mem_of_getElem? (i := 75) (by decide +kernel))) (by decide +kernel)
theorem se_yX3_policies : Cond.selects RX3 yX3_policies yX3_policies ∈ WS := ws_in (List.mem_append_right _ (List.mem_of_getElem? (i := 76) (by decide +kernel))) (by decide +kernel)
theorem co_yX3_policies : Cond.code yX3_policies cX3_policies 1 (some .int) ∈ WS := ws_in (List.mem_append_right _ (List.mem_of_getElem? (i := 77) (by decide +kernel))) (by decide +kernel)
theorem ml_L_124 : Cond.methodLink RL 124 yX3_estate ∈ WS := ws_in (List.mem_append_right _ (List.mem_of_getElem? (i := 78) (by decide +kernel))) (by decide +kernel)
theorem im_yX3_estate : Cond.instanceMethod yX3_estate ∈ WS := ws_in (List.mem_append_right _ (List.mem_of_getElem? (i := 79) (by decide +kernel))) (by decide +kernel)
theorem se_yX3_estate : Cond.selects RX3 yX3_estate yX3_estate ∈ WS := ws_in (List.mem_append_right _ (List.mem_of_getElem? (i := 80) (by decide +kernel))) (by decide +kernel)
theorem co_yX3_estate : Cond.code yX3_estate cX3_estate 1 (some .long) ∈ WS := ws_in (List.mem_append_right _ (List.mem_of_getElem? (i := 81) (by decide +kernel))) (by decide +kernel)
theorem ml_L_129 : Cond.methodLink RL 129 yX3_sharesAndEstate ∈ WS := ws_in (List.mem_append_right _ (List.mem_of_getElem? (i := 82) (by decide +kernel))) (by decide +kernel)
theorem im_yX3_sharesAndEstate : Cond.instanceMethod yX3_sharesAndEstate ∈ WS := ws_in (List.mem_append_right _ (List.mem_of_getElem? (i := 83) (by decide +kernel))) (by decide +kernel)
theorem se_yX3_sharesAndEstate : Cond.selects RX3 yX3_sharesAndEstate yX3_sharesAndEstate ∈ WS := ws_in (List.mem_append_right _ (List.mem_of_getElem? (i := 84) (by decide +kernel))) (by decide +kernel)
theorem co_yX3_sharesAndEstate : Cond.code yX3_sharesAndEstate cX3_sharesAndEstate 5 (some .long) ∈ WS := ws_in (List.mem_append_right _ (List.mem_of_getElem? (i := 85) (by decide +kernel))) (by decide +kernel)
theorem ml_L_133 : Cond.methodLink RL 133 yX3_assets ∈ WS := ws_in (List.mem_append_right _ (List.mem_of_getElem? (i := 86) (by decide +kernel))) (by decide +kernel)
theorem im_yX3_assets : Cond.instanceMethod yX3_assets ∈ WS := ws_in (List.mem_append_right _ (List.mem_of_getElem? (i := 87) (by decide +kernel))) (by decide +kernel)
theorem se_yX3_assets : Cond.selects RX3 yX3_assets yX3_assets ∈ WS := ws_in (List.mem_append_right _ (List.mem_of_getElem? (i := 88) (by decide +kernel))) (by decide +kernel)
theorem co_yX3_assets : Cond.code yX3_assets cX3_assets 1 (some .long) ∈ WS := ws_in (List.mem_append_right _ (List.mem_of_getElem? (i := 89) (by decide +kernel))) (by decide +kernel)
theorem ml_L_137 : Cond.methodLink RL 137 yX3_shortfall ∈ WS := ws_in (List.mem_append_right _ (List.mem_of_getElem? (i := 90) (by decide +kernel))) (by decide +kernel)
theorem im_yX3_shortfall : Cond.instanceMethod yX3_shortfall ∈ WS := ws_in (List.mem_append_right _ (List.mem_of_getElem? (i := 91) (by decide +kernel))) (by decide +kernel)
theorem se_yX3_shortfall : Cond.selects RX3 yX3_shortfall yX3_shortfall ∈ WS := ws_in (List.mem_append_right _ (List.mem_of_getElem? (i := 92) (by decide +kernel))) (by decide +kernel)
theorem co_yX3_shortfall : Cond.code yX3_shortfall cX3_shortfall 5 (some .int) ∈ WS := ws_in (List.mem_append_right _ (List.mem_of_getElem? (i := 93) (by decide +kernel))) (by decide +kernel)
theorem im_yX2_isInForce : Cond.instanceMethod yX2_isInForce ∈ WS := ws_in (List.mem_append_right _ (List.mem_of_getElem? (i := 96) (by decide +kernel))) (by decide +kernel)
theorem mk_X2 : Cond.instantiable RX2 7 ∈ WS := ws_in (List.mem_append_right _ (List.mem_of_getElem? (i := 97) (by decide +kernel))) (by decide +kernel)
theorem co_yX2_isInForce : Cond.code yX2_isInForce cX2_isInForce 1 (some .boolean) ∈ WS := ws_in (List.mem_append_right _ (List.mem_of_getElem? (i := 98) (by decide +kernel))) (by decide +kernel)
theorem im_yX2_guaranteed : Cond.instanceMethod yX2_guaranteed ∈ WS := ws_in (List.mem_append_right _ (List.mem_of_getElem? (i := 101) (by decide +kernel))) (by decide +kernel)
theorem co_yX2_guaranteed : Cond.code yX2_guaranteed cX2_guaranteed 1 (some .long) ∈ WS := ws_in (List.mem_append_right _ (List.mem_of_getElem? (i := 102) (by decide +kernel))) (by decide +kernel)
theorem im_yX2_assetShare : Cond.instanceMethod yX2_assetShare ∈ WS := ws_in (List.mem_append_right _ (List.mem_of_getElem? (i := 105) (by decide +kernel))) (by decide +kernel)
theorem co_yX2_assetShare : Cond.code yX2_assetShare cX2_assetShare 1 (some .long) ∈ WS := ws_in (List.mem_append_right _ (List.mem_of_getElem? (i := 106) (by decide +kernel))) (by decide +kernel)
theorem ml_X2_41 : Cond.methodLink RX2 41 yX2_isInForce ∈ WS := ws_in (List.mem_append_right _ (List.mem_of_getElem? (i := 107) (by decide +kernel))) (by decide +kernel)
theorem im_yX1_shareFor : Cond.instanceMethod yX1_shareFor ∈ WS := ws_in (List.mem_append_right _ (List.mem_of_getElem? (i := 110) (by decide +kernel))) (by decide +kernel)
theorem mk_X1 : Cond.instantiable RX1 4 ∈ WS := ws_in (List.mem_append_right _ (List.mem_of_getElem? (i := 111) (by decide +kernel))) (by decide +kernel)
theorem co_yX1_shareFor : Cond.code yX1_shareFor cX1_shareFor 2 (some .long) ∈ WS := ws_in (List.mem_append_right _ (List.mem_of_getElem? (i := 112) (by decide +kernel))) (by decide +kernel)
theorem sm_yX3_parted : Cond.static yX3_parted ∈ WS := ws_in (List.mem_append_right _ (List.mem_of_getElem? (i := 114) (by decide +kernel))) (by decide +kernel)
theorem co_yX3_parted : Cond.code yX3_parted cX3_parted 4 (some .long) ∈ WS := ws_in (List.mem_append_right _ (List.mem_of_getElem? (i := 115) (by decide +kernel))) (by decide +kernel)
theorem ml_X3_176 : Cond.methodLink RX3 176 yJ9_max_f86c9 ∈ WS := ws_in (List.mem_append_right _ (List.mem_of_getElem? (i := 116) (by decide +kernel))) (by decide +kernel)
theorem sm_yJ9_max_f86c9 : Cond.static yJ9_max_f86c9 ∈ WS := ws_in (List.mem_append_right _ (List.mem_of_getElem? (i := 117) (by decide +kernel))) (by decide +kernel)
theorem co_yJ9_max_f86c9 : Cond.code yJ9_max_f86c9 cJ9_max_f86c9 4 (some .long) ∈ WS := ws_in (List.mem_append_right _ (List.mem_of_getElem? (i := 118) (by decide +kernel))) (by decide +kernel)
theorem ml_L_65 : Cond.methodLink RL 65 yL_begin ∈ WS := ws_in (List.mem_append_right _ (List.mem_of_getElem? (i := 119) (by decide +kernel))) (by decide +kernel)
theorem sm_yL_begin : Cond.static yL_begin ∈ WS := ws_in (List.mem_append_right _ (List.mem_of_getElem? (i := 120) (by decide +kernel))) (by decide +kernel)
theorem cw_yL_begin : Cond.codeWith yL_begin cL_begin 6 (some .int) [(0, 12, 15, 13), (0, 12, 19, 15)] ∈ WS := ws_in (List.mem_append_right _ (List.mem_of_getElem? (i := 121) (by decide +kernel))) (by decide +kernel)
theorem cl_L_13 : Cond.classLink RL 13 "java/lang/IllegalArgumentException" ∈ WS := ws_in (List.mem_append_right _ (List.mem_of_getElem? (i := 122) (by decide +kernel))) (by decide +kernel)
theorem cl_L_15 : Cond.classLink RL 15 "java/lang/IllegalStateException" ∈ WS := ws_in (List.mem_append_right _ (List.mem_of_getElem? (i := 123) (by decide +kernel))) (by decide +kernel)
theorem ml_L_7 : Cond.methodLink RL 7 yX3_begin ∈ WS := ws_in (List.mem_append_right _ (List.mem_of_getElem? (i := 124) (by decide +kernel))) (by decide +kernel)
theorem im_yX3_begin : Cond.instanceMethod yX3_begin ∈ WS := ws_in (List.mem_append_right _ (List.mem_of_getElem? (i := 125) (by decide +kernel))) (by decide +kernel)
theorem se_yX3_begin : Cond.selects RX3 yX3_begin yX3_begin ∈ WS := ws_in (List.mem_append_right _ (List.mem_of_getElem? (i := 126) (by decide +kernel))) (by decide +kernel)
theorem co_yX3_begin : Cond.code yX3_begin cX3_begin 5 (some .int) ∈ WS := ws_in (List.mem_append_right _ (List.mem_of_getElem? (i := 127) (by decide +kernel))) (by decide +kernel)
theorem ml_X3_46 : Cond.methodLink RX3 46 yX3_isTerm ∈ WS := ws_in (List.mem_append_right _ (List.mem_of_getElem? (i := 128) (by decide +kernel))) (by decide +kernel)
theorem sm_yX3_isTerm : Cond.static yX3_isTerm ∈ WS := ws_in (List.mem_append_right _ (List.mem_of_getElem? (i := 129) (by decide +kernel))) (by decide +kernel)
theorem co_yX3_isTerm : Cond.code yX3_isTerm cX3_isTerm 1 (some .boolean) ∈ WS := ws_in (List.mem_append_right _ (List.mem_of_getElem? (i := 130) (by decide +kernel))) (by decide +kernel)
theorem ml_X3_50 : Cond.methodLink RX3 50 yX3_isWithin ∈ WS := ws_in (List.mem_append_right _ (List.mem_of_getElem? (i := 131) (by decide +kernel))) (by decide +kernel)
theorem sm_yX3_isWithin : Cond.static yX3_isWithin ∈ WS := ws_in (List.mem_append_right _ (List.mem_of_getElem? (i := 132) (by decide +kernel))) (by decide +kernel)
theorem co_yX3_isWithin : Cond.code yX3_isWithin cX3_isWithin 3 (some .boolean) ∈ WS := ws_in (List.mem_append_right _ (List.mem_of_getElem? (i := 133) (by decide +kernel))) (by decide +kernel)
theorem ki_X3_54 : Cond.constant RX3 54 (100000) ∈ WS := ws_in (List.mem_append_right _ (List.mem_of_getElem? (i := 134) (by decide +kernel))) (by decide +kernel)
theorem cl_X3_55 : Cond.classLink RX3 55 "java/lang/IllegalArgumentException" ∈ WS := ws_in (List.mem_append_right _ (List.mem_of_getElem? (i := 135) (by decide +kernel))) (by decide +kernel)
theorem ac_byte : Cond.arrayClass (.byte) ∈ WS := ws_in (List.mem_append_right _ (List.mem_of_getElem? (i := 202) (by decide +kernel))) (by decide +kernel)
theorem cl_X3_65 : Cond.classLink RX3 65 "java/lang/IllegalStateException" ∈ WS := ws_in (List.mem_append_right _ (List.mem_of_getElem? (i := 203) (by decide +kernel))) (by decide +kernel)
theorem ml_X3_70 : Cond.methodLink RX3 70 yX3_joinGeneration ∈ WS := ws_in (List.mem_append_right _ (List.mem_of_getElem? (i := 219) (by decide +kernel))) (by decide +kernel)
theorem im_yX3_joinGeneration : Cond.instanceMethod yX3_joinGeneration ∈ WS := ws_in (List.mem_append_right _ (List.mem_of_getElem? (i := 221) (by decide +kernel))) (by decide +kernel)
theorem co_yX3_joinGeneration : Cond.code yX3_joinGeneration cX3_joinGeneration 4 (some (.object "ProfitsOffice$Generation")) ∈ WS := ws_in (List.mem_append_right _ (List.mem_of_getElem? (i := 222) (by decide +kernel))) (by decide +kernel)
theorem ml_X3_158 : Cond.methodLink RX3 158 yX3_findGeneration ∈ WS := ws_in (List.mem_append_right _ (List.mem_of_getElem? (i := 223) (by decide +kernel))) (by decide +kernel)
theorem im_yX3_findGeneration : Cond.instanceMethod yX3_findGeneration ∈ WS := ws_in (List.mem_append_right _ (List.mem_of_getElem? (i := 225) (by decide +kernel))) (by decide +kernel)
theorem co_yX3_findGeneration : Cond.code yX3_findGeneration cX3_findGeneration 5 (some (.object "ProfitsOffice$Generation")) ∈ WS := ws_in (List.mem_append_right _ (List.mem_of_getElem? (i := 226) (by decide +kernel))) (by decide +kernel)
theorem im_yX1_init : Cond.instanceMethod yX1_init ∈ WS := ws_in (List.mem_append_right _ (List.mem_of_getElem? (i := 228) (by decide +kernel))) (by decide +kernel)
theorem co_yX1_init : Cond.code yX1_init cX1_init 3 (none : Option FieldType) ∈ WS := ws_in (List.mem_append_right _ (List.mem_of_getElem? (i := 229) (by decide +kernel))) (by decide +kernel)
theorem ml_X1_1 : Cond.methodLink RX1 1 objectInit ∈ WS := ws_in (List.mem_append_right _ (List.mem_of_getElem? (i := 230) (by decide +kernel))) (by decide +kernel)
theorem cl_X1_16 : Cond.classLink RX1 16 RX0 ∈ WS := ws_in (List.mem_append_right _ (List.mem_of_getElem? (i := 231) (by decide +kernel))) (by decide +kernel)
theorem mk_X0 : Cond.instantiable RX0 1 ∈ WS := ws_in (List.mem_append_right _ (List.mem_of_getElem? (i := 232) (by decide +kernel))) (by decide +kernel)
theorem im_yX0_init : Cond.instanceMethod yX0_init ∈ WS := ws_in (List.mem_append_right _ (List.mem_of_getElem? (i := 234) (by decide +kernel))) (by decide +kernel)
theorem co_yX0_init : Cond.code yX0_init cX0_init 1 (none : Option FieldType) ∈ WS := ws_in (List.mem_append_right _ (List.mem_of_getElem? (i := 235) (by decide +kernel))) (by decide +kernel)
theorem ml_X0_1 : Cond.methodLink RX0 1 objectInit ∈ WS := ws_in (List.mem_append_right _ (List.mem_of_getElem? (i := 236) (by decide +kernel))) (by decide +kernel)
theorem fl_X0_7 : Cond.fieldLink RX0 7 "ProfitsOffice$Fund" "amount" "J" ∈ WS := ws_in (List.mem_append_right _ (List.mem_of_getElem? (i := 237) (by decide +kernel))) (by decide +kernel)
theorem fl_X1_7 : Cond.fieldLink RX1 7 "ProfitsOffice$Generation" "begun" "I" ∈ WS := ws_in (List.mem_append_right _ (List.mem_of_getElem? (i := 243) (by decide +kernel))) (by decide +kernel)
theorem fl_X1_13 : Cond.fieldLink RX1 13 "ProfitsOffice$Generation" "term" "I" ∈ WS := ws_in (List.mem_append_right _ (List.mem_of_getElem? (i := 245) (by decide +kernel))) (by decide +kernel)
theorem fl_X1_19 : Cond.fieldLink RX1 19 "ProfitsOffice$Generation" "fund" "LProfitsOffice$Fund;" ∈ WS := ws_in (List.mem_append_right _ (List.mem_of_getElem? (i := 247) (by decide +kernel))) (by decide +kernel)
theorem fl_X1_27 : Cond.fieldLink RX1 27 "ProfitsOffice$Generation" "premiums" "J" ∈ WS := ws_in (List.mem_append_right _ (List.mem_of_getElem? (i := 249) (by decide +kernel))) (by decide +kernel)
theorem im_yX2_init : Cond.instanceMethod yX2_init ∈ WS := ws_in (List.mem_append_right _ (List.mem_of_getElem? (i := 261) (by decide +kernel))) (by decide +kernel)
theorem co_yX2_init : Cond.code yX2_init cX2_init 4 (none : Option FieldType) ∈ WS := ws_in (List.mem_append_right _ (List.mem_of_getElem? (i := 262) (by decide +kernel))) (by decide +kernel)
theorem ml_X2_3 : Cond.methodLink RX2 3 objectInit ∈ WS := ws_in (List.mem_append_right _ (List.mem_of_getElem? (i := 263) (by decide +kernel))) (by decide +kernel)
theorem cl_X2_22 : Cond.classLink RX2 22 RX0 ∈ WS := ws_in (List.mem_append_right _ (List.mem_of_getElem? (i := 264) (by decide +kernel))) (by decide +kernel)
theorem kl_X2_32 : Cond.constantLong RX2 32 (-1) ∈ WS := ws_in (List.mem_append_right _ (List.mem_of_getElem? (i := 266) (by decide +kernel))) (by decide +kernel)
theorem fl_X2_9 : Cond.fieldLink RX2 9 "ProfitsOffice$Policy" "generation" "LProfitsOffice$Generation;" ∈ WS := ws_in (List.mem_append_right _ (List.mem_of_getElem? (i := 267) (by decide +kernel))) (by decide +kernel)
theorem fl_X2_15 : Cond.fieldLink RX2 15 "ProfitsOffice$Policy" "premium" "I" ∈ WS := ws_in (List.mem_append_right _ (List.mem_of_getElem? (i := 269) (by decide +kernel))) (by decide +kernel)
theorem fl_X2_19 : Cond.fieldLink RX2 19 "ProfitsOffice$Policy" "sum" "I" ∈ WS := ws_in (List.mem_append_right _ (List.mem_of_getElem? (i := 271) (by decide +kernel))) (by decide +kernel)
theorem fl_X2_25 : Cond.fieldLink RX2 25 "ProfitsOffice$Policy" "alone" "LProfitsOffice$Fund;" ∈ WS := ws_in (List.mem_append_right _ (List.mem_of_getElem? (i := 272) (by decide +kernel))) (by decide +kernel)
theorem fl_X2_38 : Cond.fieldLink RX2 38 "ProfitsOffice$Policy" "bonuses" "J" ∈ WS := ws_in (List.mem_append_right _ (List.mem_of_getElem? (i := 274) (by decide +kernel))) (by decide +kernel)
theorem fl_X2_29 : Cond.fieldLink RX2 29 "ProfitsOffice$Policy" "state" "I" ∈ WS := ws_in (List.mem_append_right _ (List.mem_of_getElem? (i := 276) (by decide +kernel))) (by decide +kernel)
theorem fl_X2_34 : Cond.fieldLink RX2 34 "ProfitsOffice$Policy" "paid" "J" ∈ WS := ws_in (List.mem_append_right _ (List.mem_of_getElem? (i := 278) (by decide +kernel))) (by decide +kernel)
theorem ml_L_75 : Cond.methodLink RL 75 yL_surrender ∈ WS := ws_in (List.mem_append_right _ (List.mem_of_getElem? (i := 295) (by decide +kernel))) (by decide +kernel)
theorem sm_yL_surrender : Cond.static yL_surrender ∈ WS := ws_in (List.mem_append_right _ (List.mem_of_getElem? (i := 296) (by decide +kernel))) (by decide +kernel)
theorem cw_yL_surrender : Cond.codeWith yL_surrender cL_surrender 4 (some .int) [(0, 9, 12, 21), (0, 9, 15, 15)] ∈ WS := ws_in (List.mem_append_right _ (List.mem_of_getElem? (i := 297) (by decide +kernel))) (by decide +kernel)
theorem cl_L_21 : Cond.classLink RL 21 "java/lang/IndexOutOfBoundsException" ∈ WS := ws_in (List.mem_append_right _ (List.mem_of_getElem? (i := 298) (by decide +kernel))) (by decide +kernel)
theorem ml_L_17 : Cond.methodLink RL 17 yX3_surrender ∈ WS := ws_in (List.mem_append_right _ (List.mem_of_getElem? (i := 299) (by decide +kernel))) (by decide +kernel)
theorem im_yX3_surrender : Cond.instanceMethod yX3_surrender ∈ WS := ws_in (List.mem_append_right _ (List.mem_of_getElem? (i := 300) (by decide +kernel))) (by decide +kernel)
theorem se_yX3_surrender : Cond.selects RX3 yX3_surrender yX3_surrender ∈ WS := ws_in (List.mem_append_right _ (List.mem_of_getElem? (i := 301) (by decide +kernel))) (by decide +kernel)
theorem co_yX3_surrender : Cond.code yX3_surrender cX3_surrender 5 (some .int) ∈ WS := ws_in (List.mem_append_right _ (List.mem_of_getElem? (i := 302) (by decide +kernel))) (by decide +kernel)
theorem ml_X3_77 : Cond.methodLink RX3 77 yX3_knownPolicy ∈ WS := ws_in (List.mem_append_right _ (List.mem_of_getElem? (i := 303) (by decide +kernel))) (by decide +kernel)
theorem im_yX3_knownPolicy : Cond.instanceMethod yX3_knownPolicy ∈ WS := ws_in (List.mem_append_right _ (List.mem_of_getElem? (i := 305) (by decide +kernel))) (by decide +kernel)
theorem co_yX3_knownPolicy : Cond.code yX3_knownPolicy cX3_knownPolicy 3 (some (.object "ProfitsOffice$Policy")) ∈ WS := ws_in (List.mem_append_right _ (List.mem_of_getElem? (i := 306) (by decide +kernel))) (by decide +kernel)
theorem cl_X3_181 : Cond.classLink RX3 181 "java/lang/IndexOutOfBoundsException" ∈ WS := ws_in (List.mem_append_right _ (List.mem_of_getElem? (i := 307) (by decide +kernel))) (by decide +kernel)
theorem ml_X3_81 : Cond.methodLink RX3 81 yX3_checkSurrenderable ∈ WS := ws_in (List.mem_append_right _ (List.mem_of_getElem? (i := 323) (by decide +kernel))) (by decide +kernel)
theorem im_yX3_checkSurrenderable : Cond.instanceMethod yX3_checkSurrenderable ∈ WS := ws_in (List.mem_append_right _ (List.mem_of_getElem? (i := 325) (by decide +kernel))) (by decide +kernel)
theorem co_yX3_checkSurrenderable : Cond.code yX3_checkSurrenderable cX3_checkSurrenderable 2 (none : Option FieldType) ∈ WS := ws_in (List.mem_append_right _ (List.mem_of_getElem? (i := 326) (by decide +kernel))) (by decide +kernel)
theorem ml_X3_186 : Cond.methodLink RX3 186 yX3_yearsRun ∈ WS := ws_in (List.mem_append_right _ (List.mem_of_getElem? (i := 327) (by decide +kernel))) (by decide +kernel)
theorem im_yX3_yearsRun : Cond.instanceMethod yX3_yearsRun ∈ WS := ws_in (List.mem_append_right _ (List.mem_of_getElem? (i := 329) (by decide +kernel))) (by decide +kernel)
theorem co_yX3_yearsRun : Cond.code yX3_yearsRun cX3_yearsRun 2 (some .int) ∈ WS := ws_in (List.mem_append_right _ (List.mem_of_getElem? (i := 330) (by decide +kernel))) (by decide +kernel)
theorem ml_X3_85 : Cond.methodLink RX3 85 yX3_surrenderWorth ∈ WS := ws_in (List.mem_append_right _ (List.mem_of_getElem? (i := 332) (by decide +kernel))) (by decide +kernel)
theorem im_yX3_surrenderWorth : Cond.instanceMethod yX3_surrenderWorth ∈ WS := ws_in (List.mem_append_right _ (List.mem_of_getElem? (i := 334) (by decide +kernel))) (by decide +kernel)
theorem co_yX3_surrenderWorth : Cond.code yX3_surrenderWorth cX3_surrenderWorth 9 (some .long) ∈ WS := ws_in (List.mem_append_right _ (List.mem_of_getElem? (i := 335) (by decide +kernel))) (by decide +kernel)
theorem kl_X3_235 : Cond.constantLong RX3 235 (600) ∈ WS := ws_in (List.mem_append_right _ (List.mem_of_getElem? (i := 336) (by decide +kernel))) (by decide +kernel)
theorem kl_X3_237 : Cond.constantLong RX3 237 (400) ∈ WS := ws_in (List.mem_append_right _ (List.mem_of_getElem? (i := 337) (by decide +kernel))) (by decide +kernel)
theorem ml_X3_226 : Cond.methodLink RX3 226 yX3_parted ∈ WS := ws_in (List.mem_append_right _ (List.mem_of_getElem? (i := 338) (by decide +kernel))) (by decide +kernel)
theorem ml_X3_115 : Cond.methodLink RX3 115 yX3_thousandths ∈ WS := ws_in (List.mem_append_right _ (List.mem_of_getElem? (i := 339) (by decide +kernel))) (by decide +kernel)
theorem sm_yX3_thousandths : Cond.static yX3_thousandths ∈ WS := ws_in (List.mem_append_right _ (List.mem_of_getElem? (i := 340) (by decide +kernel))) (by decide +kernel)
theorem co_yX3_thousandths : Cond.code yX3_thousandths cX3_thousandths 4 (some .long) ∈ WS := ws_in (List.mem_append_right _ (List.mem_of_getElem? (i := 341) (by decide +kernel))) (by decide +kernel)
theorem kl_X3_224 : Cond.constantLong RX3 224 (1000) ∈ WS := ws_in (List.mem_append_right _ (List.mem_of_getElem? (i := 342) (by decide +kernel))) (by decide +kernel)
theorem ml_X3_242 : Cond.methodLink RX3 242 yJ9_floorDiv_f86c9 ∈ WS := ws_in (List.mem_append_right _ (List.mem_of_getElem? (i := 343) (by decide +kernel))) (by decide +kernel)
theorem sm_yJ9_floorDiv_f86c9 : Cond.static yJ9_floorDiv_f86c9 ∈ WS := ws_in (List.mem_append_right _ (List.mem_of_getElem? (i := 344) (by decide +kernel))) (by decide +kernel)
theorem co_yJ9_floorDiv_f86c9 : Cond.code yJ9_floorDiv_f86c9 cJ9_floorDiv_f86c9 6 (some .long) ∈ WS := ws_in (List.mem_append_right _ (List.mem_of_getElem? (i := 345) (by decide +kernel))) (by decide +kernel)
theorem ml_X3_89 : Cond.methodLink RX3 89 yX3_close ∈ WS := ws_in (List.mem_append_right _ (List.mem_of_getElem? (i := 346) (by decide +kernel))) (by decide +kernel)
theorem im_yX3_close : Cond.instanceMethod yX3_close ∈ WS := ws_in (List.mem_append_right _ (List.mem_of_getElem? (i := 348) (by decide +kernel))) (by decide +kernel)
theorem co_yX3_close : Cond.code yX3_close cX3_close 5 (none : Option FieldType) ∈ WS := ws_in (List.mem_append_right _ (List.mem_of_getElem? (i := 349) (by decide +kernel))) (by decide +kernel)
theorem im_yX1_release : Cond.instanceMethod yX1_release ∈ WS := ws_in (List.mem_append_right _ (List.mem_of_getElem? (i := 352) (by decide +kernel))) (by decide +kernel)
theorem co_yX1_release : Cond.code yX1_release cX1_release 4 (some .long) ∈ WS := ws_in (List.mem_append_right _ (List.mem_of_getElem? (i := 353) (by decide +kernel))) (by decide +kernel)
theorem ml_X1_36 : Cond.methodLink RX1 36 yX1_shareFor ∈ WS := ws_in (List.mem_append_right _ (List.mem_of_getElem? (i := 354) (by decide +kernel))) (by decide +kernel)
theorem ml_L_79 : Cond.methodLink RL 79 yL_setRates ∈ WS := ws_in (List.mem_append_right _ (List.mem_of_getElem? (i := 355) (by decide +kernel))) (by decide +kernel)
theorem sm_yL_setRates : Cond.static yL_setRates ∈ WS := ws_in (List.mem_append_right _ (List.mem_of_getElem? (i := 356) (by decide +kernel))) (by decide +kernel)
theorem cw_yL_setRates : Cond.codeWith yL_setRates cL_setRates 5 (some .int) [(0, 10, 13, 13)] ∈ WS := ws_in (List.mem_append_right _ (List.mem_of_getElem? (i := 357) (by decide +kernel))) (by decide +kernel)
theorem ml_L_23 : Cond.methodLink RL 23 yX3_setRates ∈ WS := ws_in (List.mem_append_right _ (List.mem_of_getElem? (i := 358) (by decide +kernel))) (by decide +kernel)
theorem im_yX3_setRates : Cond.instanceMethod yX3_setRates ∈ WS := ws_in (List.mem_append_right _ (List.mem_of_getElem? (i := 359) (by decide +kernel))) (by decide +kernel)
theorem se_yX3_setRates : Cond.selects RX3 yX3_setRates yX3_setRates ∈ WS := ws_in (List.mem_append_right _ (List.mem_of_getElem? (i := 360) (by decide +kernel))) (by decide +kernel)
theorem co_yX3_setRates : Cond.code yX3_setRates cX3_setRates 4 (some .int) ∈ WS := ws_in (List.mem_append_right _ (List.mem_of_getElem? (i := 361) (by decide +kernel))) (by decide +kernel)
theorem ml_L_83 : Cond.methodLink RL 83 yL_setScale ∈ WS := ws_in (List.mem_append_right _ (List.mem_of_getElem? (i := 363) (by decide +kernel))) (by decide +kernel)
theorem sm_yL_setScale : Cond.static yL_setScale ∈ WS := ws_in (List.mem_append_right _ (List.mem_of_getElem? (i := 364) (by decide +kernel))) (by decide +kernel)
theorem cw_yL_setScale : Cond.codeWith yL_setScale cL_setScale 6 (some .int) [(0, 12, 15, 13)] ∈ WS := ws_in (List.mem_append_right _ (List.mem_of_getElem? (i := 365) (by decide +kernel))) (by decide +kernel)
theorem ml_L_27 : Cond.methodLink RL 27 yX3_setScale ∈ WS := ws_in (List.mem_append_right _ (List.mem_of_getElem? (i := 366) (by decide +kernel))) (by decide +kernel)
theorem im_yX3_setScale : Cond.instanceMethod yX3_setScale ∈ WS := ws_in (List.mem_append_right _ (List.mem_of_getElem? (i := 367) (by decide +kernel))) (by decide +kernel)
theorem se_yX3_setScale : Cond.selects RX3 yX3_setScale yX3_setScale ∈ WS := ws_in (List.mem_append_right _ (List.mem_of_getElem? (i := 368) (by decide +kernel))) (by decide +kernel)
theorem co_yX3_setScale : Cond.code yX3_setScale cX3_setScale 5 (some .int) ∈ WS := ws_in (List.mem_append_right _ (List.mem_of_getElem? (i := 369) (by decide +kernel))) (by decide +kernel)
theorem ml_L_86 : Cond.methodLink RL 86 yL_endow ∈ WS := ws_in (List.mem_append_right _ (List.mem_of_getElem? (i := 371) (by decide +kernel))) (by decide +kernel)
theorem sm_yL_endow : Cond.static yL_endow ∈ WS := ws_in (List.mem_append_right _ (List.mem_of_getElem? (i := 372) (by decide +kernel))) (by decide +kernel)
theorem cw_yL_endow : Cond.codeWith yL_endow cL_endow 4 (some .int) [(0, 8, 11, 13)] ∈ WS := ws_in (List.mem_append_right _ (List.mem_of_getElem? (i := 373) (by decide +kernel))) (by decide +kernel)
theorem ml_L_30 : Cond.methodLink RL 30 yX3_endow ∈ WS := ws_in (List.mem_append_right _ (List.mem_of_getElem? (i := 374) (by decide +kernel))) (by decide +kernel)
theorem im_yX3_endow : Cond.instanceMethod yX3_endow ∈ WS := ws_in (List.mem_append_right _ (List.mem_of_getElem? (i := 375) (by decide +kernel))) (by decide +kernel)
theorem se_yX3_endow : Cond.selects RX3 yX3_endow yX3_endow ∈ WS := ws_in (List.mem_append_right _ (List.mem_of_getElem? (i := 376) (by decide +kernel))) (by decide +kernel)
theorem co_yX3_endow : Cond.code yX3_endow cX3_endow 2 (some .long) ∈ WS := ws_in (List.mem_append_right _ (List.mem_of_getElem? (i := 377) (by decide +kernel))) (by decide +kernel)
theorem ki_X3_97 : Cond.constant RX3 97 (-1000000) ∈ WS := ws_in (List.mem_append_right _ (List.mem_of_getElem? (i := 378) (by decide +kernel))) (by decide +kernel)
theorem ki_X3_98 : Cond.constant RX3 98 (1000000) ∈ WS := ws_in (List.mem_append_right _ (List.mem_of_getElem? (i := 379) (by decide +kernel))) (by decide +kernel)
theorem ml_L_89 : Cond.methodLink RL 89 yL_run ∈ WS := ws_in (List.mem_append_right _ (List.mem_of_getElem? (i := 381) (by decide +kernel))) (by decide +kernel)
theorem sm_yL_run : Cond.static yL_run ∈ WS := ws_in (List.mem_append_right _ (List.mem_of_getElem? (i := 382) (by decide +kernel))) (by decide +kernel)
theorem cw_yL_run : Cond.codeWith yL_run cL_run 4 (some .int) [(0, 9, 12, 13), (0, 9, 15, 15)] ∈ WS := ws_in (List.mem_append_right _ (List.mem_of_getElem? (i := 383) (by decide +kernel))) (by decide +kernel)
theorem ml_L_34 : Cond.methodLink RL 34 yX3_run ∈ WS := ws_in (List.mem_append_right _ (List.mem_of_getElem? (i := 384) (by decide +kernel))) (by decide +kernel)
theorem im_yX3_run : Cond.instanceMethod yX3_run ∈ WS := ws_in (List.mem_append_right _ (List.mem_of_getElem? (i := 385) (by decide +kernel))) (by decide +kernel)
theorem se_yX3_run : Cond.selects RX3 yX3_run yX3_run ∈ WS := ws_in (List.mem_append_right _ (List.mem_of_getElem? (i := 386) (by decide +kernel))) (by decide +kernel)
theorem co_yX3_run : Cond.code yX3_run cX3_run 5 (some .int) ∈ WS := ws_in (List.mem_append_right _ (List.mem_of_getElem? (i := 387) (by decide +kernel))) (by decide +kernel)
theorem ml_X3_119 : Cond.methodLink RX3 119 yX3_growGenerations ∈ WS := ws_in (List.mem_append_right _ (List.mem_of_getElem? (i := 390) (by decide +kernel))) (by decide +kernel)
theorem im_yX3_growGenerations : Cond.instanceMethod yX3_growGenerations ∈ WS := ws_in (List.mem_append_right _ (List.mem_of_getElem? (i := 392) (by decide +kernel))) (by decide +kernel)
theorem co_yX3_growGenerations : Cond.code yX3_growGenerations cX3_growGenerations 4 (none : Option FieldType) ∈ WS := ws_in (List.mem_append_right _ (List.mem_of_getElem? (i := 393) (by decide +kernel))) (by decide +kernel)
theorem im_yX0_earn : Cond.instanceMethod yX0_earn ∈ WS := ws_in (List.mem_append_right _ (List.mem_of_getElem? (i := 396) (by decide +kernel))) (by decide +kernel)
theorem co_yX0_earn : Cond.code yX0_earn cX0_earn 4 (some .long) ∈ WS := ws_in (List.mem_append_right _ (List.mem_of_getElem? (i := 397) (by decide +kernel))) (by decide +kernel)
theorem im_yX0_takeCharge : Cond.instanceMethod yX0_takeCharge ∈ WS := ws_in (List.mem_append_right _ (List.mem_of_getElem? (i := 401) (by decide +kernel))) (by decide +kernel)
theorem co_yX0_takeCharge : Cond.code yX0_takeCharge cX0_takeCharge 4 (some .long) ∈ WS := ws_in (List.mem_append_right _ (List.mem_of_getElem? (i := 402) (by decide +kernel))) (by decide +kernel)
theorem ml_X3_123 : Cond.methodLink RX3 123 yX3_growPoliciesAlone ∈ WS := ws_in (List.mem_append_right _ (List.mem_of_getElem? (i := 403) (by decide +kernel))) (by decide +kernel)
theorem im_yX3_growPoliciesAlone : Cond.instanceMethod yX3_growPoliciesAlone ∈ WS := ws_in (List.mem_append_right _ (List.mem_of_getElem? (i := 405) (by decide +kernel))) (by decide +kernel)
theorem co_yX3_growPoliciesAlone : Cond.code yX3_growPoliciesAlone cX3_growPoliciesAlone 4 (none : Option FieldType) ∈ WS := ws_in (List.mem_append_right _ (List.mem_of_getElem? (i := 406) (by decide +kernel))) (by decide +kernel)
theorem ml_X3_126 : Cond.methodLink RX3 126 yX3_giveBonuses ∈ WS := ws_in (List.mem_append_right _ (List.mem_of_getElem? (i := 407) (by decide +kernel))) (by decide +kernel)
theorem im_yX3_giveBonuses : Cond.instanceMethod yX3_giveBonuses ∈ WS := ws_in (List.mem_append_right _ (List.mem_of_getElem? (i := 409) (by decide +kernel))) (by decide +kernel)
theorem co_yX3_giveBonuses : Cond.code yX3_giveBonuses cX3_giveBonuses 3 (none : Option FieldType) ∈ WS := ws_in (List.mem_append_right _ (List.mem_of_getElem? (i := 410) (by decide +kernel))) (by decide +kernel)
theorem ml_X3_129 : Cond.methodLink RX3 129 yX3_maturePolicies ∈ WS := ws_in (List.mem_append_right _ (List.mem_of_getElem? (i := 411) (by decide +kernel))) (by decide +kernel)
theorem im_yX3_maturePolicies : Cond.instanceMethod yX3_maturePolicies ∈ WS := ws_in (List.mem_append_right _ (List.mem_of_getElem? (i := 413) (by decide +kernel))) (by decide +kernel)
theorem co_yX3_maturePolicies : Cond.code yX3_maturePolicies cX3_maturePolicies 4 (some .int) ∈ WS := ws_in (List.mem_append_right _ (List.mem_of_getElem? (i := 414) (by decide +kernel))) (by decide +kernel)
theorem ml_X3_169 : Cond.methodLink RX3 169 yX3_ratioIn ∈ WS := ws_in (List.mem_append_right _ (List.mem_of_getElem? (i := 415) (by decide +kernel))) (by decide +kernel)
theorem sm_yX3_ratioIn : Cond.static yX3_ratioIn ∈ WS := ws_in (List.mem_append_right _ (List.mem_of_getElem? (i := 416) (by decide +kernel))) (by decide +kernel)
theorem co_yX3_ratioIn : Cond.code yX3_ratioIn cX3_ratioIn 2 (some .long) ∈ WS := ws_in (List.mem_append_right _ (List.mem_of_getElem? (i := 417) (by decide +kernel))) (by decide +kernel)
theorem ml_X3_221 : Cond.methodLink RX3 221 yX3_mature ∈ WS := ws_in (List.mem_append_right _ (List.mem_of_getElem? (i := 418) (by decide +kernel))) (by decide +kernel)
theorem im_yX3_mature : Cond.instanceMethod yX3_mature ∈ WS := ws_in (List.mem_append_right _ (List.mem_of_getElem? (i := 420) (by decide +kernel))) (by decide +kernel)
theorem co_yX3_mature : Cond.code yX3_mature cX3_mature 11 (none : Option FieldType) ∈ WS := ws_in (List.mem_append_right _ (List.mem_of_getElem? (i := 421) (by decide +kernel))) (by decide +kernel)
theorem ml_X3_229 : Cond.methodLink RX3 229 yX3_smooth ∈ WS := ws_in (List.mem_append_right _ (List.mem_of_getElem? (i := 422) (by decide +kernel))) (by decide +kernel)
theorem im_yX3_smooth : Cond.instanceMethod yX3_smooth ∈ WS := ws_in (List.mem_append_right _ (List.mem_of_getElem? (i := 424) (by decide +kernel))) (by decide +kernel)
theorem co_yX3_smooth : Cond.code yX3_smooth cX3_smooth 7 (some .long) ∈ WS := ws_in (List.mem_append_right _ (List.mem_of_getElem? (i := 425) (by decide +kernel))) (by decide +kernel)
theorem ml_X3_232 : Cond.methodLink RX3 232 yJ9_min_f86c9 ∈ WS := ws_in (List.mem_append_right _ (List.mem_of_getElem? (i := 426) (by decide +kernel))) (by decide +kernel)
theorem sm_yJ9_min_f86c9 : Cond.static yJ9_min_f86c9 ∈ WS := ws_in (List.mem_append_right _ (List.mem_of_getElem? (i := 427) (by decide +kernel))) (by decide +kernel)
theorem co_yJ9_min_f86c9 : Cond.code yJ9_min_f86c9 cJ9_min_f86c9 4 (some .long) ∈ WS := ws_in (List.mem_append_right _ (List.mem_of_getElem? (i := 428) (by decide +kernel))) (by decide +kernel)
theorem ml_L_100 : Cond.methodLink RL 100 yL_stateOf ∈ WS := ws_in (List.mem_append_right _ (List.mem_of_getElem? (i := 429) (by decide +kernel))) (by decide +kernel)
theorem sm_yL_stateOf : Cond.static yL_stateOf ∈ WS := ws_in (List.mem_append_right _ (List.mem_of_getElem? (i := 430) (by decide +kernel))) (by decide +kernel)
theorem cw_yL_stateOf : Cond.codeWith yL_stateOf cL_stateOf 4 (some .int) [(0, 9, 12, 21)] ∈ WS := ws_in (List.mem_append_right _ (List.mem_of_getElem? (i := 431) (by decide +kernel))) (by decide +kernel)
theorem ml_L_37 : Cond.methodLink RL 37 yX3_stateOf ∈ WS := ws_in (List.mem_append_right _ (List.mem_of_getElem? (i := 432) (by decide +kernel))) (by decide +kernel)
theorem im_yX3_stateOf : Cond.instanceMethod yX3_stateOf ∈ WS := ws_in (List.mem_append_right _ (List.mem_of_getElem? (i := 433) (by decide +kernel))) (by decide +kernel)
theorem se_yX3_stateOf : Cond.selects RX3 yX3_stateOf yX3_stateOf ∈ WS := ws_in (List.mem_append_right _ (List.mem_of_getElem? (i := 434) (by decide +kernel))) (by decide +kernel)
theorem co_yX3_stateOf : Cond.code yX3_stateOf cX3_stateOf 2 (some .int) ∈ WS := ws_in (List.mem_append_right _ (List.mem_of_getElem? (i := 435) (by decide +kernel))) (by decide +kernel)
theorem ml_L_103 : Cond.methodLink RL 103 yL_bonuses ∈ WS := ws_in (List.mem_append_right _ (List.mem_of_getElem? (i := 436) (by decide +kernel))) (by decide +kernel)
theorem sm_yL_bonuses : Cond.static yL_bonuses ∈ WS := ws_in (List.mem_append_right _ (List.mem_of_getElem? (i := 437) (by decide +kernel))) (by decide +kernel)
theorem cw_yL_bonuses : Cond.codeWith yL_bonuses cL_bonuses 4 (some .int) [(0, 9, 12, 21)] ∈ WS := ws_in (List.mem_append_right _ (List.mem_of_getElem? (i := 438) (by decide +kernel))) (by decide +kernel)
theorem ml_L_40 : Cond.methodLink RL 40 yX3_bonuses ∈ WS := ws_in (List.mem_append_right _ (List.mem_of_getElem? (i := 439) (by decide +kernel))) (by decide +kernel)
theorem im_yX3_bonuses : Cond.instanceMethod yX3_bonuses ∈ WS := ws_in (List.mem_append_right _ (List.mem_of_getElem? (i := 440) (by decide +kernel))) (by decide +kernel)
theorem se_yX3_bonuses : Cond.selects RX3 yX3_bonuses yX3_bonuses ∈ WS := ws_in (List.mem_append_right _ (List.mem_of_getElem? (i := 441) (by decide +kernel))) (by decide +kernel)
theorem co_yX3_bonuses : Cond.code yX3_bonuses cX3_bonuses 2 (some .int) ∈ WS := ws_in (List.mem_append_right _ (List.mem_of_getElem? (i := 442) (by decide +kernel))) (by decide +kernel)
theorem ml_L_106 : Cond.methodLink RL 106 yL_shareOf ∈ WS := ws_in (List.mem_append_right _ (List.mem_of_getElem? (i := 443) (by decide +kernel))) (by decide +kernel)
theorem sm_yL_shareOf : Cond.static yL_shareOf ∈ WS := ws_in (List.mem_append_right _ (List.mem_of_getElem? (i := 444) (by decide +kernel))) (by decide +kernel)
theorem cw_yL_shareOf : Cond.codeWith yL_shareOf cL_shareOf 4 (some .int) [(0, 9, 12, 21)] ∈ WS := ws_in (List.mem_append_right _ (List.mem_of_getElem? (i := 445) (by decide +kernel))) (by decide +kernel)
theorem ml_L_43 : Cond.methodLink RL 43 yX3_shareOf ∈ WS := ws_in (List.mem_append_right _ (List.mem_of_getElem? (i := 446) (by decide +kernel))) (by decide +kernel)
theorem im_yX3_shareOf : Cond.instanceMethod yX3_shareOf ∈ WS := ws_in (List.mem_append_right _ (List.mem_of_getElem? (i := 447) (by decide +kernel))) (by decide +kernel)
theorem se_yX3_shareOf : Cond.selects RX3 yX3_shareOf yX3_shareOf ∈ WS := ws_in (List.mem_append_right _ (List.mem_of_getElem? (i := 448) (by decide +kernel))) (by decide +kernel)
theorem co_yX3_shareOf : Cond.code yX3_shareOf cX3_shareOf 2 (some .int) ∈ WS := ws_in (List.mem_append_right _ (List.mem_of_getElem? (i := 449) (by decide +kernel))) (by decide +kernel)
theorem ml_L_109 : Cond.methodLink RL 109 yL_shareAlone ∈ WS := ws_in (List.mem_append_right _ (List.mem_of_getElem? (i := 450) (by decide +kernel))) (by decide +kernel)
theorem sm_yL_shareAlone : Cond.static yL_shareAlone ∈ WS := ws_in (List.mem_append_right _ (List.mem_of_getElem? (i := 451) (by decide +kernel))) (by decide +kernel)
theorem cw_yL_shareAlone : Cond.codeWith yL_shareAlone cL_shareAlone 4 (some .int) [(0, 9, 12, 21)] ∈ WS := ws_in (List.mem_append_right _ (List.mem_of_getElem? (i := 452) (by decide +kernel))) (by decide +kernel)
theorem ml_L_46 : Cond.methodLink RL 46 yX3_shareAlone ∈ WS := ws_in (List.mem_append_right _ (List.mem_of_getElem? (i := 453) (by decide +kernel))) (by decide +kernel)
theorem im_yX3_shareAlone : Cond.instanceMethod yX3_shareAlone ∈ WS := ws_in (List.mem_append_right _ (List.mem_of_getElem? (i := 454) (by decide +kernel))) (by decide +kernel)
theorem se_yX3_shareAlone : Cond.selects RX3 yX3_shareAlone yX3_shareAlone ∈ WS := ws_in (List.mem_append_right _ (List.mem_of_getElem? (i := 455) (by decide +kernel))) (by decide +kernel)
theorem co_yX3_shareAlone : Cond.code yX3_shareAlone cX3_shareAlone 3 (some .int) ∈ WS := ws_in (List.mem_append_right _ (List.mem_of_getElem? (i := 456) (by decide +kernel))) (by decide +kernel)
theorem ml_L_112 : Cond.methodLink RL 112 yL_generation ∈ WS := ws_in (List.mem_append_right _ (List.mem_of_getElem? (i := 457) (by decide +kernel))) (by decide +kernel)
theorem sm_yL_generation : Cond.static yL_generation ∈ WS := ws_in (List.mem_append_right _ (List.mem_of_getElem? (i := 458) (by decide +kernel))) (by decide +kernel)
theorem cw_yL_generation : Cond.codeWith yL_generation cL_generation 5 (some .int) [(0, 10, 13, 13)] ∈ WS := ws_in (List.mem_append_right _ (List.mem_of_getElem? (i := 459) (by decide +kernel))) (by decide +kernel)
theorem ml_L_49 : Cond.methodLink RL 49 yX3_generation ∈ WS := ws_in (List.mem_append_right _ (List.mem_of_getElem? (i := 460) (by decide +kernel))) (by decide +kernel)
theorem im_yX3_generation : Cond.instanceMethod yX3_generation ∈ WS := ws_in (List.mem_append_right _ (List.mem_of_getElem? (i := 461) (by decide +kernel))) (by decide +kernel)
theorem se_yX3_generation : Cond.selects RX3 yX3_generation yX3_generation ∈ WS := ws_in (List.mem_append_right _ (List.mem_of_getElem? (i := 462) (by decide +kernel))) (by decide +kernel)
theorem co_yX3_generation : Cond.code yX3_generation cX3_generation 4 (some .int) ∈ WS := ws_in (List.mem_append_right _ (List.mem_of_getElem? (i := 463) (by decide +kernel))) (by decide +kernel)
theorem ml_L_115 : Cond.methodLink RL 115 yL_paid ∈ WS := ws_in (List.mem_append_right _ (List.mem_of_getElem? (i := 465) (by decide +kernel))) (by decide +kernel)
theorem sm_yL_paid : Cond.static yL_paid ∈ WS := ws_in (List.mem_append_right _ (List.mem_of_getElem? (i := 466) (by decide +kernel))) (by decide +kernel)
theorem cw_yL_paid : Cond.codeWith yL_paid cL_paid 4 (some .int) [(0, 9, 12, 21)] ∈ WS := ws_in (List.mem_append_right _ (List.mem_of_getElem? (i := 467) (by decide +kernel))) (by decide +kernel)
theorem ml_L_52 : Cond.methodLink RL 52 yX3_paid ∈ WS := ws_in (List.mem_append_right _ (List.mem_of_getElem? (i := 468) (by decide +kernel))) (by decide +kernel)
theorem im_yX3_paid : Cond.instanceMethod yX3_paid ∈ WS := ws_in (List.mem_append_right _ (List.mem_of_getElem? (i := 469) (by decide +kernel))) (by decide +kernel)
theorem se_yX3_paid : Cond.selects RX3 yX3_paid yX3_paid ∈ WS := ws_in (List.mem_append_right _ (List.mem_of_getElem? (i := 470) (by decide +kernel))) (by decide +kernel)
theorem co_yX3_paid : Cond.code yX3_paid cX3_paid 2 (some .int) ∈ WS := ws_in (List.mem_append_right _ (List.mem_of_getElem? (i := 471) (by decide +kernel))) (by decide +kernel)
theorem ml_L_118 : Cond.methodLink RL 118 yL_worth ∈ WS := ws_in (List.mem_append_right _ (List.mem_of_getElem? (i := 472) (by decide +kernel))) (by decide +kernel)
theorem sm_yL_worth : Cond.static yL_worth ∈ WS := ws_in (List.mem_append_right _ (List.mem_of_getElem? (i := 473) (by decide +kernel))) (by decide +kernel)
theorem cw_yL_worth : Cond.codeWith yL_worth cL_worth 4 (some .int) [(0, 9, 12, 21), (0, 9, 15, 15)] ∈ WS := ws_in (List.mem_append_right _ (List.mem_of_getElem? (i := 474) (by decide +kernel))) (by decide +kernel)
theorem ml_L_55 : Cond.methodLink RL 55 yX3_worth ∈ WS := ws_in (List.mem_append_right _ (List.mem_of_getElem? (i := 475) (by decide +kernel))) (by decide +kernel)
theorem im_yX3_worth : Cond.instanceMethod yX3_worth ∈ WS := ws_in (List.mem_append_right _ (List.mem_of_getElem? (i := 476) (by decide +kernel))) (by decide +kernel)
theorem se_yX3_worth : Cond.selects RX3 yX3_worth yX3_worth ∈ WS := ws_in (List.mem_append_right _ (List.mem_of_getElem? (i := 477) (by decide +kernel))) (by decide +kernel)
theorem co_yX3_worth : Cond.code yX3_worth cX3_worth 3 (some .int) ∈ WS := ws_in (List.mem_append_right _ (List.mem_of_getElem? (i := 478) (by decide +kernel))) (by decide +kernel)
theorem ml_L_121 : Cond.methodLink RL 121 yL_lastRatio ∈ WS := ws_in (List.mem_append_right _ (List.mem_of_getElem? (i := 479) (by decide +kernel))) (by decide +kernel)
theorem sm_yL_lastRatio : Cond.static yL_lastRatio ∈ WS := ws_in (List.mem_append_right _ (List.mem_of_getElem? (i := 480) (by decide +kernel))) (by decide +kernel)
theorem cw_yL_lastRatio : Cond.codeWith yL_lastRatio cL_lastRatio 4 (some .int) [(0, 9, 12, 13)] ∈ WS := ws_in (List.mem_append_right _ (List.mem_of_getElem? (i := 481) (by decide +kernel))) (by decide +kernel)
theorem ml_L_58 : Cond.methodLink RL 58 yX3_lastRatio ∈ WS := ws_in (List.mem_append_right _ (List.mem_of_getElem? (i := 482) (by decide +kernel))) (by decide +kernel)
theorem im_yX3_lastRatio : Cond.instanceMethod yX3_lastRatio ∈ WS := ws_in (List.mem_append_right _ (List.mem_of_getElem? (i := 483) (by decide +kernel))) (by decide +kernel)
theorem se_yX3_lastRatio : Cond.selects RX3 yX3_lastRatio yX3_lastRatio ∈ WS := ws_in (List.mem_append_right _ (List.mem_of_getElem? (i := 484) (by decide +kernel))) (by decide +kernel)
theorem co_yX3_lastRatio : Cond.code yX3_lastRatio cX3_lastRatio 2 (some .int) ∈ WS := ws_in (List.mem_append_right _ (List.mem_of_getElem? (i := 485) (by decide +kernel))) (by decide +kernel)
theorem cl_L_62 : Cond.classLink RL 62 RX4 ∈ WS := ws_in (List.mem_append_right _ (List.mem_of_getElem? (i := 487) (by decide +kernel))) (by decide +kernel)
theorem mk_X4 : Cond.instantiable RX4 21 ∈ WS := ws_in (List.mem_append_right _ (List.mem_of_getElem? (i := 488) (by decide +kernel))) (by decide +kernel)
theorem ml_L_64 : Cond.methodLink RL 64 yX4_init ∈ WS := ws_in (List.mem_append_right _ (List.mem_of_getElem? (i := 489) (by decide +kernel))) (by decide +kernel)
theorem im_yX4_init : Cond.instanceMethod yX4_init ∈ WS := ws_in (List.mem_append_right _ (List.mem_of_getElem? (i := 490) (by decide +kernel))) (by decide +kernel)
theorem co_yX4_init : Cond.code yX4_init cX4_init 1 (none : Option FieldType) ∈ WS := ws_in (List.mem_append_right _ (List.mem_of_getElem? (i := 491) (by decide +kernel))) (by decide +kernel)
theorem ml_X4_1 : Cond.methodLink RX4 1 objectInit ∈ WS := ws_in (List.mem_append_right _ (List.mem_of_getElem? (i := 492) (by decide +kernel))) (by decide +kernel)
theorem fl_X4_92 : Cond.fieldLink RX4 92 "ProfitsOfficeModel" "year" "I" ∈ WS := ws_in (List.mem_append_right _ (List.mem_of_getElem? (i := 493) (by decide +kernel))) (by decide +kernel)
theorem fl_X4_7 : Cond.fieldLink RX4 7 "ProfitsOfficeModel" "bonusRate" "I" ∈ WS := ws_in (List.mem_append_right _ (List.mem_of_getElem? (i := 494) (by decide +kernel))) (by decide +kernel)
theorem fl_X4_13 : Cond.fieldLink RX4 13 "ProfitsOfficeModel" "charge" "I" ∈ WS := ws_in (List.mem_append_right _ (List.mem_of_getElem? (i := 495) (by decide +kernel))) (by decide +kernel)
theorem fl_X4_16 : Cond.fieldLink RX4 16 "ProfitsOfficeModel" "scale" "I" ∈ WS := ws_in (List.mem_append_right _ (List.mem_of_getElem? (i := 496) (by decide +kernel))) (by decide +kernel)
theorem fl_X4_19 : Cond.fieldLink RX4 19 "ProfitsOfficeModel" "step" "I" ∈ WS := ws_in (List.mem_append_right _ (List.mem_of_getElem? (i := 497) (by decide +kernel))) (by decide +kernel)
theorem fl_X4_22 : Cond.fieldLink RX4 22 "ProfitsOfficeModel" "floor" "I" ∈ WS := ws_in (List.mem_append_right _ (List.mem_of_getElem? (i := 498) (by decide +kernel))) (by decide +kernel)
theorem fl_X4_63 : Cond.fieldLink RX4 63 "ProfitsOfficeModel" "policies" "I" ∈ WS := ws_in (List.mem_append_right _ (List.mem_of_getElem? (i := 499) (by decide +kernel))) (by decide +kernel)
theorem fl_X4_25 : Cond.fieldLink RX4 25 "ProfitsOfficeModel" "begins" "[I" ∈ WS := ws_in (List.mem_append_right _ (List.mem_of_getElem? (i := 500) (by decide +kernel))) (by decide +kernel)
theorem fl_X4_29 : Cond.fieldLink RX4 29 "ProfitsOfficeModel" "terms" "[I" ∈ WS := ws_in (List.mem_append_right _ (List.mem_of_getElem? (i := 501) (by decide +kernel))) (by decide +kernel)
theorem fl_X4_32 : Cond.fieldLink RX4 32 "ProfitsOfficeModel" "premiums" "[I" ∈ WS := ws_in (List.mem_append_right _ (List.mem_of_getElem? (i := 502) (by decide +kernel))) (by decide +kernel)
theorem fl_X4_35 : Cond.fieldLink RX4 35 "ProfitsOfficeModel" "sums" "[I" ∈ WS := ws_in (List.mem_append_right _ (List.mem_of_getElem? (i := 503) (by decide +kernel))) (by decide +kernel)
theorem fl_X4_38 : Cond.fieldLink RX4 38 "ProfitsOfficeModel" "states" "[I" ∈ WS := ws_in (List.mem_append_right _ (List.mem_of_getElem? (i := 504) (by decide +kernel))) (by decide +kernel)
theorem fl_X4_41 : Cond.fieldLink RX4 41 "ProfitsOfficeModel" "given" "[I" ∈ WS := ws_in (List.mem_append_right _ (List.mem_of_getElem? (i := 505) (by decide +kernel))) (by decide +kernel)
theorem fl_X4_44 : Cond.fieldLink RX4 44 "ProfitsOfficeModel" "paids" "[I" ∈ WS := ws_in (List.mem_append_right _ (List.mem_of_getElem? (i := 506) (by decide +kernel))) (by decide +kernel)
theorem fl_X4_47 : Cond.fieldLink RX4 47 "ProfitsOfficeModel" "alones" "[J" ∈ WS := ws_in (List.mem_append_right _ (List.mem_of_getElem? (i := 507) (by decide +kernel))) (by decide +kernel)
theorem fl_X4_51 : Cond.fieldLink RX4 51 "ProfitsOfficeModel" "shares" "[J" ∈ WS := ws_in (List.mem_append_right _ (List.mem_of_getElem? (i := 508) (by decide +kernel))) (by decide +kernel)
theorem fl_X4_54 : Cond.fieldLink RX4 54 "ProfitsOfficeModel" "ratios" "[I" ∈ WS := ws_in (List.mem_append_right _ (List.mem_of_getElem? (i := 509) (by decide +kernel))) (by decide +kernel)
theorem fl_X4_57 : Cond.fieldLink RX4 57 "ProfitsOfficeModel" "nexts" "[I" ∈ WS := ws_in (List.mem_append_right _ (List.mem_of_getElem? (i := 510) (by decide +kernel))) (by decide +kernel)
theorem fl_X4_84 : Cond.fieldLink RX4 84 "ProfitsOfficeModel" "estate" "J" ∈ WS := ws_in (List.mem_append_right _ (List.mem_of_getElem? (i := 511) (by decide +kernel))) (by decide +kernel)
theorem fl_X4_88 : Cond.fieldLink RX4 88 "ProfitsOfficeModel" "assets" "J" ∈ WS := ws_in (List.mem_append_right _ (List.mem_of_getElem? (i := 512) (by decide +kernel))) (by decide +kernel)
theorem fl_X4_60 : Cond.fieldLink RX4 60 "ProfitsOfficeModel" "thrown" "I" ∈ WS := ws_in (List.mem_append_right _ (List.mem_of_getElem? (i := 513) (by decide +kernel))) (by decide +kernel)
theorem ac_int : Cond.arrayClass (.int) ∈ WS := ws_in (List.mem_append_right _ (List.mem_of_getElem? (i := 557) (by decide +kernel))) (by decide +kernel)
theorem ml_L_71 : Cond.methodLink RL 71 yX4_thrown ∈ WS := ws_in (List.mem_append_right _ (List.mem_of_getElem? (i := 558) (by decide +kernel))) (by decide +kernel)
theorem im_yX4_thrown : Cond.instanceMethod yX4_thrown ∈ WS := ws_in (List.mem_append_right _ (List.mem_of_getElem? (i := 559) (by decide +kernel))) (by decide +kernel)
theorem se_yX4_thrown : Cond.selects RX4 yX4_thrown yX4_thrown ∈ WS := ws_in (List.mem_append_right _ (List.mem_of_getElem? (i := 560) (by decide +kernel))) (by decide +kernel)
theorem co_yX4_thrown : Cond.code yX4_thrown cX4_thrown 1 (some .int) ∈ WS := ws_in (List.mem_append_right _ (List.mem_of_getElem? (i := 561) (by decide +kernel))) (by decide +kernel)
theorem ml_L_70 : Cond.methodLink RL 70 yX4_begin ∈ WS := ws_in (List.mem_append_right _ (List.mem_of_getElem? (i := 562) (by decide +kernel))) (by decide +kernel)
theorem im_yX4_begin : Cond.instanceMethod yX4_begin ∈ WS := ws_in (List.mem_append_right _ (List.mem_of_getElem? (i := 563) (by decide +kernel))) (by decide +kernel)
theorem se_yX4_begin : Cond.selects RX4 yX4_begin yX4_begin ∈ WS := ws_in (List.mem_append_right _ (List.mem_of_getElem? (i := 564) (by decide +kernel))) (by decide +kernel)
theorem co_yX4_begin : Cond.code yX4_begin cX4_begin 4 (some .int) ∈ WS := ws_in (List.mem_append_right _ (List.mem_of_getElem? (i := 565) (by decide +kernel))) (by decide +kernel)
theorem ml_X4_66 : Cond.methodLink RX4 66 yX4_in ∈ WS := ws_in (List.mem_append_right _ (List.mem_of_getElem? (i := 566) (by decide +kernel))) (by decide +kernel)
theorem sm_yX4_in : Cond.static yX4_in ∈ WS := ws_in (List.mem_append_right _ (List.mem_of_getElem? (i := 567) (by decide +kernel))) (by decide +kernel)
theorem co_yX4_in : Cond.code yX4_in cX4_in 3 (some .boolean) ∈ WS := ws_in (List.mem_append_right _ (List.mem_of_getElem? (i := 568) (by decide +kernel))) (by decide +kernel)
theorem ki_X4_91 : Cond.constant RX4 91 (100000) ∈ WS := ws_in (List.mem_append_right _ (List.mem_of_getElem? (i := 569) (by decide +kernel))) (by decide +kernel)
theorem ml_L_78 : Cond.methodLink RL 78 yX4_surrender ∈ WS := ws_in (List.mem_append_right _ (List.mem_of_getElem? (i := 570) (by decide +kernel))) (by decide +kernel)
theorem im_yX4_surrender : Cond.instanceMethod yX4_surrender ∈ WS := ws_in (List.mem_append_right _ (List.mem_of_getElem? (i := 571) (by decide +kernel))) (by decide +kernel)
theorem se_yX4_surrender : Cond.selects RX4 yX4_surrender yX4_surrender ∈ WS := ws_in (List.mem_append_right _ (List.mem_of_getElem? (i := 572) (by decide +kernel))) (by decide +kernel)
theorem co_yX4_surrender : Cond.code yX4_surrender cX4_surrender 3 (some .int) ∈ WS := ws_in (List.mem_append_right _ (List.mem_of_getElem? (i := 573) (by decide +kernel))) (by decide +kernel)
theorem ml_X4_111 : Cond.methodLink RX4 111 yX4_canLeave ∈ WS := ws_in (List.mem_append_right _ (List.mem_of_getElem? (i := 574) (by decide +kernel))) (by decide +kernel)
theorem im_yX4_canLeave : Cond.instanceMethod yX4_canLeave ∈ WS := ws_in (List.mem_append_right _ (List.mem_of_getElem? (i := 576) (by decide +kernel))) (by decide +kernel)
theorem co_yX4_canLeave : Cond.code yX4_canLeave cX4_canLeave 2 (some .boolean) ∈ WS := ws_in (List.mem_append_right _ (List.mem_of_getElem? (i := 577) (by decide +kernel))) (by decide +kernel)
theorem ml_X4_107 : Cond.methodLink RX4 107 yX4_isPolicy ∈ WS := ws_in (List.mem_append_right _ (List.mem_of_getElem? (i := 578) (by decide +kernel))) (by decide +kernel)
theorem im_yX4_isPolicy : Cond.instanceMethod yX4_isPolicy ∈ WS := ws_in (List.mem_append_right _ (List.mem_of_getElem? (i := 580) (by decide +kernel))) (by decide +kernel)
theorem co_yX4_isPolicy : Cond.code yX4_isPolicy cX4_isPolicy 2 (some .boolean) ∈ WS := ws_in (List.mem_append_right _ (List.mem_of_getElem? (i := 581) (by decide +kernel))) (by decide +kernel)
theorem ml_X4_114 : Cond.methodLink RX4 114 yX4_worthOf ∈ WS := ws_in (List.mem_append_right _ (List.mem_of_getElem? (i := 582) (by decide +kernel))) (by decide +kernel)
theorem im_yX4_worthOf : Cond.instanceMethod yX4_worthOf ∈ WS := ws_in (List.mem_append_right _ (List.mem_of_getElem? (i := 584) (by decide +kernel))) (by decide +kernel)
theorem co_yX4_worthOf : Cond.code yX4_worthOf cX4_worthOf 7 (some .long) ∈ WS := ws_in (List.mem_append_right _ (List.mem_of_getElem? (i := 585) (by decide +kernel))) (by decide +kernel)
theorem ml_X4_95 : Cond.methodLink RX4 95 yX4_share ∈ WS := ws_in (List.mem_append_right _ (List.mem_of_getElem? (i := 586) (by decide +kernel))) (by decide +kernel)
theorem im_yX4_share : Cond.instanceMethod yX4_share ∈ WS := ws_in (List.mem_append_right _ (List.mem_of_getElem? (i := 588) (by decide +kernel))) (by decide +kernel)
theorem co_yX4_share : Cond.code yX4_share cX4_share 2 (some .long) ∈ WS := ws_in (List.mem_append_right _ (List.mem_of_getElem? (i := 589) (by decide +kernel))) (by decide +kernel)
theorem ml_X4_76 : Cond.methodLink RX4 76 yX4_home ∈ WS := ws_in (List.mem_append_right _ (List.mem_of_getElem? (i := 590) (by decide +kernel))) (by decide +kernel)
theorem im_yX4_home : Cond.instanceMethod yX4_home ∈ WS := ws_in (List.mem_append_right _ (List.mem_of_getElem? (i := 592) (by decide +kernel))) (by decide +kernel)
theorem co_yX4_home : Cond.code yX4_home cX4_home 2 (some .int) ∈ WS := ws_in (List.mem_append_right _ (List.mem_of_getElem? (i := 593) (by decide +kernel))) (by decide +kernel)
theorem ml_X4_72 : Cond.methodLink RX4 72 yX4_firstOf ∈ WS := ws_in (List.mem_append_right _ (List.mem_of_getElem? (i := 594) (by decide +kernel))) (by decide +kernel)
theorem im_yX4_firstOf : Cond.instanceMethod yX4_firstOf ∈ WS := ws_in (List.mem_append_right _ (List.mem_of_getElem? (i := 596) (by decide +kernel))) (by decide +kernel)
theorem co_yX4_firstOf : Cond.code yX4_firstOf cX4_firstOf 5 (some .int) ∈ WS := ws_in (List.mem_append_right _ (List.mem_of_getElem? (i := 597) (by decide +kernel))) (by decide +kernel)
theorem ml_X4_80 : Cond.methodLink RX4 80 yX4_premiumsOf ∈ WS := ws_in (List.mem_append_right _ (List.mem_of_getElem? (i := 598) (by decide +kernel))) (by decide +kernel)
theorem im_yX4_premiumsOf : Cond.instanceMethod yX4_premiumsOf ∈ WS := ws_in (List.mem_append_right _ (List.mem_of_getElem? (i := 600) (by decide +kernel))) (by decide +kernel)
theorem co_yX4_premiumsOf : Cond.code yX4_premiumsOf cX4_premiumsOf 6 (some .long) ∈ WS := ws_in (List.mem_append_right _ (List.mem_of_getElem? (i := 601) (by decide +kernel))) (by decide +kernel)
theorem kl_X4_99 : Cond.constantLong RX4 99 (600) ∈ WS := ws_in (List.mem_append_right _ (List.mem_of_getElem? (i := 602) (by decide +kernel))) (by decide +kernel)
theorem kl_X4_101 : Cond.constantLong RX4 101 (400) ∈ WS := ws_in (List.mem_append_right _ (List.mem_of_getElem? (i := 603) (by decide +kernel))) (by decide +kernel)
theorem ml_X4_103 : Cond.methodLink RX4 103 yX4_part ∈ WS := ws_in (List.mem_append_right _ (List.mem_of_getElem? (i := 604) (by decide +kernel))) (by decide +kernel)
theorem sm_yX4_part : Cond.static yX4_part ∈ WS := ws_in (List.mem_append_right _ (List.mem_of_getElem? (i := 605) (by decide +kernel))) (by decide +kernel)
theorem co_yX4_part : Cond.code yX4_part cX4_part 8 (some .long) ∈ WS := ws_in (List.mem_append_right _ (List.mem_of_getElem? (i := 606) (by decide +kernel))) (by decide +kernel)
theorem kl_X4_70 : Cond.constantLong RX4 70 (1000) ∈ WS := ws_in (List.mem_append_right _ (List.mem_of_getElem? (i := 607) (by decide +kernel))) (by decide +kernel)
theorem ml_X4_117 : Cond.methodLink RX4 117 yX4_leaves ∈ WS := ws_in (List.mem_append_right _ (List.mem_of_getElem? (i := 608) (by decide +kernel))) (by decide +kernel)
theorem im_yX4_leaves : Cond.instanceMethod yX4_leaves ∈ WS := ws_in (List.mem_append_right _ (List.mem_of_getElem? (i := 610) (by decide +kernel))) (by decide +kernel)
theorem co_yX4_leaves : Cond.code yX4_leaves cX4_leaves 7 (none : Option FieldType) ∈ WS := ws_in (List.mem_append_right _ (List.mem_of_getElem? (i := 611) (by decide +kernel))) (by decide +kernel)
theorem ml_L_82 : Cond.methodLink RL 82 yX4_setRates ∈ WS := ws_in (List.mem_append_right _ (List.mem_of_getElem? (i := 612) (by decide +kernel))) (by decide +kernel)
theorem im_yX4_setRates : Cond.instanceMethod yX4_setRates ∈ WS := ws_in (List.mem_append_right _ (List.mem_of_getElem? (i := 613) (by decide +kernel))) (by decide +kernel)
theorem se_yX4_setRates : Cond.selects RX4 yX4_setRates yX4_setRates ∈ WS := ws_in (List.mem_append_right _ (List.mem_of_getElem? (i := 614) (by decide +kernel))) (by decide +kernel)
theorem co_yX4_setRates : Cond.code yX4_setRates cX4_setRates 4 (some .int) ∈ WS := ws_in (List.mem_append_right _ (List.mem_of_getElem? (i := 615) (by decide +kernel))) (by decide +kernel)
theorem ml_L_85 : Cond.methodLink RL 85 yX4_setScale ∈ WS := ws_in (List.mem_append_right _ (List.mem_of_getElem? (i := 616) (by decide +kernel))) (by decide +kernel)
theorem im_yX4_setScale : Cond.instanceMethod yX4_setScale ∈ WS := ws_in (List.mem_append_right _ (List.mem_of_getElem? (i := 617) (by decide +kernel))) (by decide +kernel)
theorem se_yX4_setScale : Cond.selects RX4 yX4_setScale yX4_setScale ∈ WS := ws_in (List.mem_append_right _ (List.mem_of_getElem? (i := 618) (by decide +kernel))) (by decide +kernel)
theorem co_yX4_setScale : Cond.code yX4_setScale cX4_setScale 5 (some .int) ∈ WS := ws_in (List.mem_append_right _ (List.mem_of_getElem? (i := 619) (by decide +kernel))) (by decide +kernel)
theorem ml_L_88 : Cond.methodLink RL 88 yX4_endow ∈ WS := ws_in (List.mem_append_right _ (List.mem_of_getElem? (i := 620) (by decide +kernel))) (by decide +kernel)
theorem im_yX4_endow : Cond.instanceMethod yX4_endow ∈ WS := ws_in (List.mem_append_right _ (List.mem_of_getElem? (i := 621) (by decide +kernel))) (by decide +kernel)
theorem se_yX4_endow : Cond.selects RX4 yX4_endow yX4_endow ∈ WS := ws_in (List.mem_append_right _ (List.mem_of_getElem? (i := 622) (by decide +kernel))) (by decide +kernel)
theorem co_yX4_endow : Cond.code yX4_endow cX4_endow 2 (some .long) ∈ WS := ws_in (List.mem_append_right _ (List.mem_of_getElem? (i := 623) (by decide +kernel))) (by decide +kernel)
theorem ki_X4_121 : Cond.constant RX4 121 (-1000000) ∈ WS := ws_in (List.mem_append_right _ (List.mem_of_getElem? (i := 624) (by decide +kernel))) (by decide +kernel)
theorem ki_X4_122 : Cond.constant RX4 122 (1000000) ∈ WS := ws_in (List.mem_append_right _ (List.mem_of_getElem? (i := 625) (by decide +kernel))) (by decide +kernel)
theorem ml_L_91 : Cond.methodLink RL 91 yX4_run ∈ WS := ws_in (List.mem_append_right _ (List.mem_of_getElem? (i := 626) (by decide +kernel))) (by decide +kernel)
theorem im_yX4_run : Cond.instanceMethod yX4_run ∈ WS := ws_in (List.mem_append_right _ (List.mem_of_getElem? (i := 627) (by decide +kernel))) (by decide +kernel)
theorem se_yX4_run : Cond.selects RX4 yX4_run yX4_run ∈ WS := ws_in (List.mem_append_right _ (List.mem_of_getElem? (i := 628) (by decide +kernel))) (by decide +kernel)
theorem co_yX4_run : Cond.code yX4_run cX4_run 4 (some .int) ∈ WS := ws_in (List.mem_append_right _ (List.mem_of_getElem? (i := 629) (by decide +kernel))) (by decide +kernel)
theorem ml_X4_123 : Cond.methodLink RX4 123 yX4_grows ∈ WS := ws_in (List.mem_append_right _ (List.mem_of_getElem? (i := 630) (by decide +kernel))) (by decide +kernel)
theorem im_yX4_grows : Cond.instanceMethod yX4_grows ∈ WS := ws_in (List.mem_append_right _ (List.mem_of_getElem? (i := 632) (by decide +kernel))) (by decide +kernel)
theorem co_yX4_grows : Cond.code yX4_grows cX4_grows 11 (none : Option FieldType) ∈ WS := ws_in (List.mem_append_right _ (List.mem_of_getElem? (i := 633) (by decide +kernel))) (by decide +kernel)
theorem ml_X4_127 : Cond.methodLink RX4 127 yX4_grants ∈ WS := ws_in (List.mem_append_right _ (List.mem_of_getElem? (i := 634) (by decide +kernel))) (by decide +kernel)
theorem im_yX4_grants : Cond.instanceMethod yX4_grants ∈ WS := ws_in (List.mem_append_right _ (List.mem_of_getElem? (i := 636) (by decide +kernel))) (by decide +kernel)
theorem co_yX4_grants : Cond.code yX4_grants cX4_grants 5 (none : Option FieldType) ∈ WS := ws_in (List.mem_append_right _ (List.mem_of_getElem? (i := 637) (by decide +kernel))) (by decide +kernel)
theorem ml_X4_130 : Cond.methodLink RX4 130 yX4_matures ∈ WS := ws_in (List.mem_append_right _ (List.mem_of_getElem? (i := 638) (by decide +kernel))) (by decide +kernel)
theorem im_yX4_matures : Cond.instanceMethod yX4_matures ∈ WS := ws_in (List.mem_append_right _ (List.mem_of_getElem? (i := 640) (by decide +kernel))) (by decide +kernel)
theorem co_yX4_matures : Cond.code yX4_matures cX4_matures 13 (none : Option FieldType) ∈ WS := ws_in (List.mem_append_right _ (List.mem_of_getElem? (i := 641) (by decide +kernel))) (by decide +kernel)
theorem ml_L_95 : Cond.methodLink RL 95 yX4_year ∈ WS := ws_in (List.mem_append_right _ (List.mem_of_getElem? (i := 642) (by decide +kernel))) (by decide +kernel)
theorem im_yX4_year : Cond.instanceMethod yX4_year ∈ WS := ws_in (List.mem_append_right _ (List.mem_of_getElem? (i := 643) (by decide +kernel))) (by decide +kernel)
theorem se_yX4_year : Cond.selects RX4 yX4_year yX4_year ∈ WS := ws_in (List.mem_append_right _ (List.mem_of_getElem? (i := 644) (by decide +kernel))) (by decide +kernel)
theorem co_yX4_year : Cond.code yX4_year cX4_year 1 (some .int) ∈ WS := ws_in (List.mem_append_right _ (List.mem_of_getElem? (i := 645) (by decide +kernel))) (by decide +kernel)
theorem ml_L_99 : Cond.methodLink RL 99 yX4_policies ∈ WS := ws_in (List.mem_append_right _ (List.mem_of_getElem? (i := 646) (by decide +kernel))) (by decide +kernel)
theorem im_yX4_policies : Cond.instanceMethod yX4_policies ∈ WS := ws_in (List.mem_append_right _ (List.mem_of_getElem? (i := 647) (by decide +kernel))) (by decide +kernel)
theorem se_yX4_policies : Cond.selects RX4 yX4_policies yX4_policies ∈ WS := ws_in (List.mem_append_right _ (List.mem_of_getElem? (i := 648) (by decide +kernel))) (by decide +kernel)
theorem co_yX4_policies : Cond.code yX4_policies cX4_policies 1 (some .int) ∈ WS := ws_in (List.mem_append_right _ (List.mem_of_getElem? (i := 649) (by decide +kernel))) (by decide +kernel)
theorem ml_L_102 : Cond.methodLink RL 102 yX4_stateOf ∈ WS := ws_in (List.mem_append_right _ (List.mem_of_getElem? (i := 650) (by decide +kernel))) (by decide +kernel)
theorem im_yX4_stateOf : Cond.instanceMethod yX4_stateOf ∈ WS := ws_in (List.mem_append_right _ (List.mem_of_getElem? (i := 651) (by decide +kernel))) (by decide +kernel)
theorem se_yX4_stateOf : Cond.selects RX4 yX4_stateOf yX4_stateOf ∈ WS := ws_in (List.mem_append_right _ (List.mem_of_getElem? (i := 652) (by decide +kernel))) (by decide +kernel)
theorem co_yX4_stateOf : Cond.code yX4_stateOf cX4_stateOf 2 (some .int) ∈ WS := ws_in (List.mem_append_right _ (List.mem_of_getElem? (i := 653) (by decide +kernel))) (by decide +kernel)
theorem ml_L_105 : Cond.methodLink RL 105 yX4_bonuses ∈ WS := ws_in (List.mem_append_right _ (List.mem_of_getElem? (i := 654) (by decide +kernel))) (by decide +kernel)
theorem im_yX4_bonuses : Cond.instanceMethod yX4_bonuses ∈ WS := ws_in (List.mem_append_right _ (List.mem_of_getElem? (i := 655) (by decide +kernel))) (by decide +kernel)
theorem se_yX4_bonuses : Cond.selects RX4 yX4_bonuses yX4_bonuses ∈ WS := ws_in (List.mem_append_right _ (List.mem_of_getElem? (i := 656) (by decide +kernel))) (by decide +kernel)
theorem co_yX4_bonuses : Cond.code yX4_bonuses cX4_bonuses 2 (some .int) ∈ WS := ws_in (List.mem_append_right _ (List.mem_of_getElem? (i := 657) (by decide +kernel))) (by decide +kernel)
theorem ml_L_108 : Cond.methodLink RL 108 yX4_shareOf ∈ WS := ws_in (List.mem_append_right _ (List.mem_of_getElem? (i := 658) (by decide +kernel))) (by decide +kernel)
theorem im_yX4_shareOf : Cond.instanceMethod yX4_shareOf ∈ WS := ws_in (List.mem_append_right _ (List.mem_of_getElem? (i := 659) (by decide +kernel))) (by decide +kernel)
theorem se_yX4_shareOf : Cond.selects RX4 yX4_shareOf yX4_shareOf ∈ WS := ws_in (List.mem_append_right _ (List.mem_of_getElem? (i := 660) (by decide +kernel))) (by decide +kernel)
theorem co_yX4_shareOf : Cond.code yX4_shareOf cX4_shareOf 2 (some .int) ∈ WS := ws_in (List.mem_append_right _ (List.mem_of_getElem? (i := 661) (by decide +kernel))) (by decide +kernel)
theorem ml_L_111 : Cond.methodLink RL 111 yX4_shareAlone ∈ WS := ws_in (List.mem_append_right _ (List.mem_of_getElem? (i := 662) (by decide +kernel))) (by decide +kernel)
theorem im_yX4_shareAlone : Cond.instanceMethod yX4_shareAlone ∈ WS := ws_in (List.mem_append_right _ (List.mem_of_getElem? (i := 663) (by decide +kernel))) (by decide +kernel)
theorem se_yX4_shareAlone : Cond.selects RX4 yX4_shareAlone yX4_shareAlone ∈ WS := ws_in (List.mem_append_right _ (List.mem_of_getElem? (i := 664) (by decide +kernel))) (by decide +kernel)
theorem co_yX4_shareAlone : Cond.code yX4_shareAlone cX4_shareAlone 2 (some .int) ∈ WS := ws_in (List.mem_append_right _ (List.mem_of_getElem? (i := 665) (by decide +kernel))) (by decide +kernel)
theorem ml_L_114 : Cond.methodLink RL 114 yX4_generation ∈ WS := ws_in (List.mem_append_right _ (List.mem_of_getElem? (i := 666) (by decide +kernel))) (by decide +kernel)
theorem im_yX4_generation : Cond.instanceMethod yX4_generation ∈ WS := ws_in (List.mem_append_right _ (List.mem_of_getElem? (i := 667) (by decide +kernel))) (by decide +kernel)
theorem se_yX4_generation : Cond.selects RX4 yX4_generation yX4_generation ∈ WS := ws_in (List.mem_append_right _ (List.mem_of_getElem? (i := 668) (by decide +kernel))) (by decide +kernel)
theorem co_yX4_generation : Cond.code yX4_generation cX4_generation 4 (some .int) ∈ WS := ws_in (List.mem_append_right _ (List.mem_of_getElem? (i := 669) (by decide +kernel))) (by decide +kernel)
theorem ml_L_117 : Cond.methodLink RL 117 yX4_paid ∈ WS := ws_in (List.mem_append_right _ (List.mem_of_getElem? (i := 670) (by decide +kernel))) (by decide +kernel)
theorem im_yX4_paid : Cond.instanceMethod yX4_paid ∈ WS := ws_in (List.mem_append_right _ (List.mem_of_getElem? (i := 671) (by decide +kernel))) (by decide +kernel)
theorem se_yX4_paid : Cond.selects RX4 yX4_paid yX4_paid ∈ WS := ws_in (List.mem_append_right _ (List.mem_of_getElem? (i := 672) (by decide +kernel))) (by decide +kernel)
theorem co_yX4_paid : Cond.code yX4_paid cX4_paid 2 (some .int) ∈ WS := ws_in (List.mem_append_right _ (List.mem_of_getElem? (i := 673) (by decide +kernel))) (by decide +kernel)
theorem ml_L_120 : Cond.methodLink RL 120 yX4_worth ∈ WS := ws_in (List.mem_append_right _ (List.mem_of_getElem? (i := 674) (by decide +kernel))) (by decide +kernel)
theorem im_yX4_worth : Cond.instanceMethod yX4_worth ∈ WS := ws_in (List.mem_append_right _ (List.mem_of_getElem? (i := 675) (by decide +kernel))) (by decide +kernel)
theorem se_yX4_worth : Cond.selects RX4 yX4_worth yX4_worth ∈ WS := ws_in (List.mem_append_right _ (List.mem_of_getElem? (i := 676) (by decide +kernel))) (by decide +kernel)
theorem co_yX4_worth : Cond.code yX4_worth cX4_worth 2 (some .int) ∈ WS := ws_in (List.mem_append_right _ (List.mem_of_getElem? (i := 677) (by decide +kernel))) (by decide +kernel)
theorem ml_L_123 : Cond.methodLink RL 123 yX4_lastRatio ∈ WS := ws_in (List.mem_append_right _ (List.mem_of_getElem? (i := 678) (by decide +kernel))) (by decide +kernel)
theorem im_yX4_lastRatio : Cond.instanceMethod yX4_lastRatio ∈ WS := ws_in (List.mem_append_right _ (List.mem_of_getElem? (i := 679) (by decide +kernel))) (by decide +kernel)
theorem se_yX4_lastRatio : Cond.selects RX4 yX4_lastRatio yX4_lastRatio ∈ WS := ws_in (List.mem_append_right _ (List.mem_of_getElem? (i := 680) (by decide +kernel))) (by decide +kernel)
theorem co_yX4_lastRatio : Cond.code yX4_lastRatio cX4_lastRatio 2 (some .int) ∈ WS := ws_in (List.mem_append_right _ (List.mem_of_getElem? (i := 681) (by decide +kernel))) (by decide +kernel)
theorem ml_L_128 : Cond.methodLink RL 128 yX4_estate ∈ WS := ws_in (List.mem_append_right _ (List.mem_of_getElem? (i := 682) (by decide +kernel))) (by decide +kernel)
theorem im_yX4_estate : Cond.instanceMethod yX4_estate ∈ WS := ws_in (List.mem_append_right _ (List.mem_of_getElem? (i := 683) (by decide +kernel))) (by decide +kernel)
theorem se_yX4_estate : Cond.selects RX4 yX4_estate yX4_estate ∈ WS := ws_in (List.mem_append_right _ (List.mem_of_getElem? (i := 684) (by decide +kernel))) (by decide +kernel)
theorem co_yX4_estate : Cond.code yX4_estate cX4_estate 1 (some .long) ∈ WS := ws_in (List.mem_append_right _ (List.mem_of_getElem? (i := 685) (by decide +kernel))) (by decide +kernel)
theorem ml_L_132 : Cond.methodLink RL 132 yX4_sharesAndEstate ∈ WS := ws_in (List.mem_append_right _ (List.mem_of_getElem? (i := 686) (by decide +kernel))) (by decide +kernel)
theorem im_yX4_sharesAndEstate : Cond.instanceMethod yX4_sharesAndEstate ∈ WS := ws_in (List.mem_append_right _ (List.mem_of_getElem? (i := 687) (by decide +kernel))) (by decide +kernel)
theorem se_yX4_sharesAndEstate : Cond.selects RX4 yX4_sharesAndEstate yX4_sharesAndEstate ∈ WS := ws_in (List.mem_append_right _ (List.mem_of_getElem? (i := 688) (by decide +kernel))) (by decide +kernel)
theorem co_yX4_sharesAndEstate : Cond.code yX4_sharesAndEstate cX4_sharesAndEstate 4 (some .long) ∈ WS := ws_in (List.mem_append_right _ (List.mem_of_getElem? (i := 689) (by decide +kernel))) (by decide +kernel)
theorem ml_L_136 : Cond.methodLink RL 136 yX4_assets ∈ WS := ws_in (List.mem_append_right _ (List.mem_of_getElem? (i := 690) (by decide +kernel))) (by decide +kernel)
theorem im_yX4_assets : Cond.instanceMethod yX4_assets ∈ WS := ws_in (List.mem_append_right _ (List.mem_of_getElem? (i := 691) (by decide +kernel))) (by decide +kernel)
theorem se_yX4_assets : Cond.selects RX4 yX4_assets yX4_assets ∈ WS := ws_in (List.mem_append_right _ (List.mem_of_getElem? (i := 692) (by decide +kernel))) (by decide +kernel)
theorem co_yX4_assets : Cond.code yX4_assets cX4_assets 1 (some .long) ∈ WS := ws_in (List.mem_append_right _ (List.mem_of_getElem? (i := 693) (by decide +kernel))) (by decide +kernel)
theorem ml_L_140 : Cond.methodLink RL 140 yX4_shortfall ∈ WS := ws_in (List.mem_append_right _ (List.mem_of_getElem? (i := 694) (by decide +kernel))) (by decide +kernel)
theorem im_yX4_shortfall : Cond.instanceMethod yX4_shortfall ∈ WS := ws_in (List.mem_append_right _ (List.mem_of_getElem? (i := 695) (by decide +kernel))) (by decide +kernel)
theorem se_yX4_shortfall : Cond.selects RX4 yX4_shortfall yX4_shortfall ∈ WS := ws_in (List.mem_append_right _ (List.mem_of_getElem? (i := 696) (by decide +kernel))) (by decide +kernel)
theorem co_yX4_shortfall : Cond.code yX4_shortfall cX4_shortfall 6 (some .int) ∈ WS := ws_in (List.mem_append_right _ (List.mem_of_getElem? (i := 697) (by decide +kernel))) (by decide +kernel)
theorem se_yX2_isInForce : Cond.selects RX2 yX2_isInForce yX2_isInForce ∈ WS := ws_in (List.mem_append_left _ (List.mem_of_getElem? (i := 0) (by decide +kernel))) (by decide +kernel)
theorem se_yX2_guaranteed : Cond.selects RX2 yX2_guaranteed yX2_guaranteed ∈ WS := ws_in (List.mem_append_left _ (List.mem_of_getElem? (i := 1) (by decide +kernel))) (by decide +kernel)
theorem se_yX2_assetShare : Cond.selects RX2 yX2_assetShare yX2_assetShare ∈ WS := ws_in (List.mem_append_left _ (List.mem_of_getElem? (i := 2) (by decide +kernel))) (by decide +kernel)
theorem se_yX1_shareFor : Cond.selects RX1 yX1_shareFor yX1_shareFor ∈ WS := ws_in (List.mem_append_left _ (List.mem_of_getElem? (i := 3) (by decide +kernel))) (by decide +kernel)
theorem se_yX3_joinGeneration : Cond.selects RX3 yX3_joinGeneration yX3_joinGeneration ∈ WS := ws_in (List.mem_append_left _ (List.mem_of_getElem? (i := 5) (by decide +kernel))) (by decide +kernel)
theorem se_yX3_findGeneration : Cond.selects RX3 yX3_findGeneration yX3_findGeneration ∈ WS := ws_in (List.mem_append_left _ (List.mem_of_getElem? (i := 6) (by decide +kernel))) (by decide +kernel)
theorem se_yX3_knownPolicy : Cond.selects RX3 yX3_knownPolicy yX3_knownPolicy ∈ WS := ws_in (List.mem_append_left _ (List.mem_of_getElem? (i := 7) (by decide +kernel))) (by decide +kernel)
theorem se_yX3_checkSurrenderable : Cond.selects RX3 yX3_checkSurrenderable yX3_checkSurrenderable ∈ WS := ws_in (List.mem_append_left _ (List.mem_of_getElem? (i := 8) (by decide +kernel))) (by decide +kernel)
theorem se_yX3_yearsRun : Cond.selects RX3 yX3_yearsRun yX3_yearsRun ∈ WS := ws_in (List.mem_append_left _ (List.mem_of_getElem? (i := 9) (by decide +kernel))) (by decide +kernel)
theorem se_yX3_surrenderWorth : Cond.selects RX3 yX3_surrenderWorth yX3_surrenderWorth ∈ WS := ws_in (List.mem_append_left _ (List.mem_of_getElem? (i := 10) (by decide +kernel))) (by decide +kernel)
theorem se_yX3_close : Cond.selects RX3 yX3_close yX3_close ∈ WS := ws_in (List.mem_append_left _ (List.mem_of_getElem? (i := 11) (by decide +kernel))) (by decide +kernel)
theorem se_yX1_release : Cond.selects RX1 yX1_release yX1_release ∈ WS := ws_in (List.mem_append_left _ (List.mem_of_getElem? (i := 12) (by decide +kernel))) (by decide +kernel)
theorem se_yX3_growGenerations : Cond.selects RX3 yX3_growGenerations yX3_growGenerations ∈ WS := ws_in (List.mem_append_left _ (List.mem_of_getElem? (i := 13) (by decide +kernel))) (by decide +kernel)
theorem se_yX0_earn : Cond.selects RX0 yX0_earn yX0_earn ∈ WS := ws_in (List.mem_append_left _ (List.mem_of_getElem? (i := 14) (by decide +kernel))) (by decide +kernel)
theorem se_yX0_takeCharge : Cond.selects RX0 yX0_takeCharge yX0_takeCharge ∈ WS := ws_in (List.mem_append_left _ (List.mem_of_getElem? (i := 15) (by decide +kernel))) (by decide +kernel)
theorem se_yX3_growPoliciesAlone : Cond.selects RX3 yX3_growPoliciesAlone yX3_growPoliciesAlone ∈ WS := ws_in (List.mem_append_left _ (List.mem_of_getElem? (i := 16) (by decide +kernel))) (by decide +kernel)
theorem se_yX3_giveBonuses : Cond.selects RX3 yX3_giveBonuses yX3_giveBonuses ∈ WS := ws_in (List.mem_append_left _ (List.mem_of_getElem? (i := 17) (by decide +kernel))) (by decide +kernel)
theorem se_yX3_maturePolicies : Cond.selects RX3 yX3_maturePolicies yX3_maturePolicies ∈ WS := ws_in (List.mem_append_left _ (List.mem_of_getElem? (i := 18) (by decide +kernel))) (by decide +kernel)
theorem se_yX3_mature : Cond.selects RX3 yX3_mature yX3_mature ∈ WS := ws_in (List.mem_append_left _ (List.mem_of_getElem? (i := 19) (by decide +kernel))) (by decide +kernel)
theorem se_yX3_smooth : Cond.selects RX3 yX3_smooth yX3_smooth ∈ WS := ws_in (List.mem_append_left _ (List.mem_of_getElem? (i := 20) (by decide +kernel))) (by decide +kernel)
theorem se_yX4_canLeave : Cond.selects RX4 yX4_canLeave yX4_canLeave ∈ WS := ws_in (List.mem_append_left _ (List.mem_of_getElem? (i := 21) (by decide +kernel))) (by decide +kernel)
theorem se_yX4_isPolicy : Cond.selects RX4 yX4_isPolicy yX4_isPolicy ∈ WS := ws_in (List.mem_append_left _ (List.mem_of_getElem? (i := 22) (by decide +kernel))) (by decide +kernel)
theorem se_yX4_worthOf : Cond.selects RX4 yX4_worthOf yX4_worthOf ∈ WS := ws_in (List.mem_append_left _ (List.mem_of_getElem? (i := 23) (by decide +kernel))) (by decide +kernel)
theorem se_yX4_share : Cond.selects RX4 yX4_share yX4_share ∈ WS := ws_in (List.mem_append_left _ (List.mem_of_getElem? (i := 24) (by decide +kernel))) (by decide +kernel)
theorem se_yX4_home : Cond.selects RX4 yX4_home yX4_home ∈ WS := ws_in (List.mem_append_left _ (List.mem_of_getElem? (i := 25) (by decide +kernel))) (by decide +kernel)
theorem se_yX4_firstOf : Cond.selects RX4 yX4_firstOf yX4_firstOf ∈ WS := ws_in (List.mem_append_left _ (List.mem_of_getElem? (i := 26) (by decide +kernel))) (by decide +kernel)
theorem se_yX4_premiumsOf : Cond.selects RX4 yX4_premiumsOf yX4_premiumsOf ∈ WS := ws_in (List.mem_append_left _ (List.mem_of_getElem? (i := 27) (by decide +kernel))) (by decide +kernel)
theorem se_yX4_leaves : Cond.selects RX4 yX4_leaves yX4_leaves ∈ WS := ws_in (List.mem_append_left _ (List.mem_of_getElem? (i := 28) (by decide +kernel))) (by decide +kernel)
theorem se_yX4_grows : Cond.selects RX4 yX4_grows yX4_grows ∈ WS := ws_in (List.mem_append_left _ (List.mem_of_getElem? (i := 29) (by decide +kernel))) (by decide +kernel)
theorem se_yX4_grants : Cond.selects RX4 yX4_grants yX4_grants ∈ WS := ws_in (List.mem_append_left _ (List.mem_of_getElem? (i := 30) (by decide +kernel))) (by decide +kernel)
theorem se_yX4_matures : Cond.selects RX4 yX4_matures yX4_matures ∈ WS := ws_in (List.mem_append_left _ (List.mem_of_getElem? (i := 31) (by decide +kernel))) (by decide +kernel)
end
section
theorem ly_X0_0 : Cond.lays RX0 "ProfitsOffice$Fund" "amount" "J" ∈ WS := ws_in (List.mem_append_right _ (List.mem_of_getElem? (i := 240) (by decide +kernel))) (by decide +kernel)
theorem ly_X0 : ∀ w ∈ u_ws RX0 TX0 1, w ∈ WS := List.forall_mem_cons.mpr ⟨ly_X0_0, fun _ h => nomatch h⟩
theorem ly_X1_0 : Cond.laysFinal RX1 "ProfitsOffice$Generation" "begun" "I" ∈ WS := ws_in (List.mem_append_right _ (List.mem_of_getElem? (i := 251) (by decide +kernel))) (by decide +kernel)
theorem ly_X1_1 : Cond.laysFinal RX1 "ProfitsOffice$Generation" "term" "I" ∈ WS := ws_in (List.mem_append_right _ (List.mem_of_getElem? (i := 253) (by decide +kernel))) (by decide +kernel)
theorem ly_X1_2 : Cond.laysFinal RX1 "ProfitsOffice$Generation" "fund" "LProfitsOffice$Fund;" ∈ WS := ws_in (List.mem_append_right _ (List.mem_of_getElem? (i := 255) (by decide +kernel))) (by decide +kernel)
theorem ly_X1_3 : Cond.lays RX1 "ProfitsOffice$Generation" "premiums" "J" ∈ WS := ws_in (List.mem_append_right _ (List.mem_of_getElem? (i := 257) (by decide +kernel))) (by decide +kernel)
theorem ly_X1 : ∀ w ∈ u_ws RX1 TX1 4, w ∈ WS := List.forall_mem_cons.mpr ⟨ly_X1_0, List.forall_mem_cons.mpr ⟨ly_X1_1, List.forall_mem_cons.mpr ⟨ly_X1_2, List.forall_mem_cons.mpr ⟨ly_X1_3, fun _ h => nomatch h⟩⟩⟩⟩
theorem ly_X2_0 : Cond.laysFinal RX2 "ProfitsOffice$Policy" "generation" "LProfitsOffice$Generation;" ∈ WS := ws_in (List.mem_append_right _ (List.mem_of_getElem? (i := 280) (by decide +kernel))) (by decide +kernel)
theorem ly_X2_1 : Cond.laysFinal RX2 "ProfitsOffice$Policy" "premium" "I" ∈ WS := ws_in (List.mem_append_right _ (List.mem_of_getElem? (i := 282) (by decide +kernel))) (by decide +kernel)
theorem ly_X2_2 : Cond.laysFinal RX2 "ProfitsOffice$Policy" "sum" "I" ∈ WS := ws_in (List.mem_append_right _ (List.mem_of_getElem? (i := 284) (by decide +kernel))) (by decide +kernel)
theorem ly_X2_3 : Cond.laysFinal RX2 "ProfitsOffice$Policy" "alone" "LProfitsOffice$Fund;" ∈ WS := ws_in (List.mem_append_right _ (List.mem_of_getElem? (i := 286) (by decide +kernel))) (by decide +kernel)
theorem ly_X2_4 : Cond.lays RX2 "ProfitsOffice$Policy" "bonuses" "J" ∈ WS := ws_in (List.mem_append_right _ (List.mem_of_getElem? (i := 288) (by decide +kernel))) (by decide +kernel)
theorem ly_X2_5 : Cond.lays RX2 "ProfitsOffice$Policy" "state" "I" ∈ WS := ws_in (List.mem_append_right _ (List.mem_of_getElem? (i := 290) (by decide +kernel))) (by decide +kernel)
theorem ly_X2_6 : Cond.lays RX2 "ProfitsOffice$Policy" "paid" "J" ∈ WS := ws_in (List.mem_append_right _ (List.mem_of_getElem? (i := 292) (by decide +kernel))) (by decide +kernel)
theorem ly_X2 : ∀ w ∈ u_ws RX2 TX2 7, w ∈ WS := List.forall_mem_cons.mpr ⟨ly_X2_0, List.forall_mem_cons.mpr ⟨ly_X2_1, List.forall_mem_cons.mpr ⟨ly_X2_2, List.forall_mem_cons.mpr ⟨ly_X2_3, List.forall_mem_cons.mpr ⟨ly_X2_4, List.forall_mem_cons.mpr ⟨ly_X2_5, List.forall_mem_cons.mpr ⟨ly_X2_6, fun _ h => nomatch h⟩⟩⟩⟩⟩⟩⟩
theorem ly_X3_0 : Cond.laysFinal RX3 "ProfitsOffice" "policies" "[LProfitsOffice$Policy;" ∈ WS := ws_in (List.mem_append_right _ (List.mem_of_getElem? (i := 40) (by decide +kernel))) (by decide +kernel)
theorem ly_X3_1 : Cond.laysFinal RX3 "ProfitsOffice" "generations" "[LProfitsOffice$Generation;" ∈ WS := ws_in (List.mem_append_right _ (List.mem_of_getElem? (i := 42) (by decide +kernel))) (by decide +kernel)
theorem ly_X3_2 : Cond.laysFinal RX3 "ProfitsOffice" "lastRatios" "[J" ∈ WS := ws_in (List.mem_append_right _ (List.mem_of_getElem? (i := 44) (by decide +kernel))) (by decide +kernel)
theorem ly_X3_3 : Cond.laysFinal RX3 "ProfitsOffice" "ratiosBefore" "[J" ∈ WS := ws_in (List.mem_append_right _ (List.mem_of_getElem? (i := 46) (by decide +kernel))) (by decide +kernel)
theorem ly_X3_4 : Cond.lays RX3 "ProfitsOffice" "policyCount" "I" ∈ WS := ws_in (List.mem_append_right _ (List.mem_of_getElem? (i := 48) (by decide +kernel))) (by decide +kernel)
theorem ly_X3_5 : Cond.lays RX3 "ProfitsOffice" "generationCount" "I" ∈ WS := ws_in (List.mem_append_right _ (List.mem_of_getElem? (i := 50) (by decide +kernel))) (by decide +kernel)
theorem ly_X3_6 : Cond.lays RX3 "ProfitsOffice" "year" "I" ∈ WS := ws_in (List.mem_append_right _ (List.mem_of_getElem? (i := 52) (by decide +kernel))) (by decide +kernel)
theorem ly_X3_7 : Cond.lays RX3 "ProfitsOffice" "bonusRate" "I" ∈ WS := ws_in (List.mem_append_right _ (List.mem_of_getElem? (i := 54) (by decide +kernel))) (by decide +kernel)
theorem ly_X3_8 : Cond.lays RX3 "ProfitsOffice" "charge" "I" ∈ WS := ws_in (List.mem_append_right _ (List.mem_of_getElem? (i := 56) (by decide +kernel))) (by decide +kernel)
theorem ly_X3_9 : Cond.lays RX3 "ProfitsOffice" "scale" "I" ∈ WS := ws_in (List.mem_append_right _ (List.mem_of_getElem? (i := 58) (by decide +kernel))) (by decide +kernel)
theorem ly_X3_10 : Cond.lays RX3 "ProfitsOffice" "step" "I" ∈ WS := ws_in (List.mem_append_right _ (List.mem_of_getElem? (i := 60) (by decide +kernel))) (by decide +kernel)
theorem ly_X3_11 : Cond.lays RX3 "ProfitsOffice" "floor" "I" ∈ WS := ws_in (List.mem_append_right _ (List.mem_of_getElem? (i := 62) (by decide +kernel))) (by decide +kernel)
theorem ly_X3_12 : Cond.lays RX3 "ProfitsOffice" "estate" "J" ∈ WS := ws_in (List.mem_append_right _ (List.mem_of_getElem? (i := 64) (by decide +kernel))) (by decide +kernel)
theorem ly_X3_13 : Cond.lays RX3 "ProfitsOffice" "assets" "J" ∈ WS := ws_in (List.mem_append_right _ (List.mem_of_getElem? (i := 66) (by decide +kernel))) (by decide +kernel)
theorem ly_X3 : ∀ w ∈ u_ws RX3 TX3 14, w ∈ WS := List.forall_mem_cons.mpr ⟨ly_X3_0, List.forall_mem_cons.mpr ⟨ly_X3_1, List.forall_mem_cons.mpr ⟨ly_X3_2, List.forall_mem_cons.mpr ⟨ly_X3_3, List.forall_mem_cons.mpr ⟨ly_X3_4, List.forall_mem_cons.mpr ⟨ly_X3_5, List.forall_mem_cons.mpr ⟨ly_X3_6, List.forall_mem_cons.mpr ⟨ly_X3_7, List.forall_mem_cons.mpr ⟨ly_X3_8, List.forall_mem_cons.mpr ⟨ly_X3_9, List.forall_mem_cons.mpr ⟨ly_X3_10, List.forall_mem_cons.mpr ⟨ly_X3_11, List.forall_mem_cons.mpr ⟨ly_X3_12, List.forall_mem_cons.mpr ⟨ly_X3_13, fun _ h => nomatch h⟩⟩⟩⟩⟩⟩⟩⟩⟩⟩⟩⟩⟩⟩
theorem ly_X4_0 : Cond.lays RX4 "ProfitsOfficeModel" "year" "I" ∈ WS := ws_in (List.mem_append_right _ (List.mem_of_getElem? (i := 514) (by decide +kernel))) (by decide +kernel)
theorem ly_X4_1 : Cond.lays RX4 "ProfitsOfficeModel" "bonusRate" "I" ∈ WS := ws_in (List.mem_append_right _ (List.mem_of_getElem? (i := 516) (by decide +kernel))) (by decide +kernel)
theorem ly_X4_2 : Cond.lays RX4 "ProfitsOfficeModel" "charge" "I" ∈ WS := ws_in (List.mem_append_right _ (List.mem_of_getElem? (i := 518) (by decide +kernel))) (by decide +kernel)
theorem ly_X4_3 : Cond.lays RX4 "ProfitsOfficeModel" "scale" "I" ∈ WS := ws_in (List.mem_append_right _ (List.mem_of_getElem? (i := 520) (by decide +kernel))) (by decide +kernel)
theorem ly_X4_4 : Cond.lays RX4 "ProfitsOfficeModel" "step" "I" ∈ WS := ws_in (List.mem_append_right _ (List.mem_of_getElem? (i := 522) (by decide +kernel))) (by decide +kernel)
theorem ly_X4_5 : Cond.lays RX4 "ProfitsOfficeModel" "floor" "I" ∈ WS := ws_in (List.mem_append_right _ (List.mem_of_getElem? (i := 524) (by decide +kernel))) (by decide +kernel)
theorem ly_X4_6 : Cond.lays RX4 "ProfitsOfficeModel" "policies" "I" ∈ WS := ws_in (List.mem_append_right _ (List.mem_of_getElem? (i := 526) (by decide +kernel))) (by decide +kernel)
theorem ly_X4_7 : Cond.laysFinal RX4 "ProfitsOfficeModel" "begins" "[I" ∈ WS := ws_in (List.mem_append_right _ (List.mem_of_getElem? (i := 528) (by decide +kernel))) (by decide +kernel)
theorem ly_X4_8 : Cond.laysFinal RX4 "ProfitsOfficeModel" "terms" "[I" ∈ WS := ws_in (List.mem_append_right _ (List.mem_of_getElem? (i := 530) (by decide +kernel))) (by decide +kernel)
theorem ly_X4_9 : Cond.laysFinal RX4 "ProfitsOfficeModel" "premiums" "[I" ∈ WS := ws_in (List.mem_append_right _ (List.mem_of_getElem? (i := 532) (by decide +kernel))) (by decide +kernel)
theorem ly_X4_10 : Cond.laysFinal RX4 "ProfitsOfficeModel" "sums" "[I" ∈ WS := ws_in (List.mem_append_right _ (List.mem_of_getElem? (i := 534) (by decide +kernel))) (by decide +kernel)
theorem ly_X4_11 : Cond.laysFinal RX4 "ProfitsOfficeModel" "states" "[I" ∈ WS := ws_in (List.mem_append_right _ (List.mem_of_getElem? (i := 536) (by decide +kernel))) (by decide +kernel)
theorem ly_X4_12 : Cond.laysFinal RX4 "ProfitsOfficeModel" "given" "[I" ∈ WS := ws_in (List.mem_append_right _ (List.mem_of_getElem? (i := 538) (by decide +kernel))) (by decide +kernel)
theorem ly_X4_13 : Cond.laysFinal RX4 "ProfitsOfficeModel" "paids" "[I" ∈ WS := ws_in (List.mem_append_right _ (List.mem_of_getElem? (i := 540) (by decide +kernel))) (by decide +kernel)
theorem ly_X4_14 : Cond.laysFinal RX4 "ProfitsOfficeModel" "alones" "[J" ∈ WS := ws_in (List.mem_append_right _ (List.mem_of_getElem? (i := 542) (by decide +kernel))) (by decide +kernel)
theorem ly_X4_15 : Cond.laysFinal RX4 "ProfitsOfficeModel" "shares" "[J" ∈ WS := ws_in (List.mem_append_right _ (List.mem_of_getElem? (i := 544) (by decide +kernel))) (by decide +kernel)
theorem ly_X4_16 : Cond.laysFinal RX4 "ProfitsOfficeModel" "ratios" "[I" ∈ WS := ws_in (List.mem_append_right _ (List.mem_of_getElem? (i := 546) (by decide +kernel))) (by decide +kernel)
theorem ly_X4_17 : Cond.laysFinal RX4 "ProfitsOfficeModel" "nexts" "[I" ∈ WS := ws_in (List.mem_append_right _ (List.mem_of_getElem? (i := 548) (by decide +kernel))) (by decide +kernel)
theorem ly_X4_18 : Cond.lays RX4 "ProfitsOfficeModel" "estate" "J" ∈ WS := ws_in (List.mem_append_right _ (List.mem_of_getElem? (i := 550) (by decide +kernel))) (by decide +kernel)
theorem ly_X4_19 : Cond.lays RX4 "ProfitsOfficeModel" "assets" "J" ∈ WS := ws_in (List.mem_append_right _ (List.mem_of_getElem? (i := 552) (by decide +kernel))) (by decide +kernel)
theorem ly_X4_20 : Cond.lays RX4 "ProfitsOfficeModel" "thrown" "I" ∈ WS := ws_in (List.mem_append_right _ (List.mem_of_getElem? (i := 554) (by decide +kernel))) (by decide +kernel)
theorem ly_X4 : ∀ w ∈ u_ws RX4 TX4 21, w ∈ WS := List.forall_mem_cons.mpr ⟨ly_X4_0, List.forall_mem_cons.mpr ⟨ly_X4_1, List.forall_mem_cons.mpr ⟨ly_X4_2, List.forall_mem_cons.mpr ⟨ly_X4_3, List.forall_mem_cons.mpr ⟨ly_X4_4, List.forall_mem_cons.mpr ⟨ly_X4_5, List.forall_mem_cons.mpr ⟨ly_X4_6, List.forall_mem_cons.mpr ⟨ly_X4_7, List.forall_mem_cons.mpr ⟨ly_X4_8, List.forall_mem_cons.mpr ⟨ly_X4_9, List.forall_mem_cons.mpr ⟨ly_X4_10, List.forall_mem_cons.mpr ⟨ly_X4_11, List.forall_mem_cons.mpr ⟨ly_X4_12, List.forall_mem_cons.mpr ⟨ly_X4_13, List.forall_mem_cons.mpr ⟨ly_X4_14, List.forall_mem_cons.mpr ⟨ly_X4_15, List.forall_mem_cons.mpr ⟨ly_X4_16, List.forall_mem_cons.mpr ⟨ly_X4_17, List.forall_mem_cons.mpr ⟨ly_X4_18, List.forall_mem_cons.mpr ⟨ly_X4_19, List.forall_mem_cons.mpr ⟨ly_X4_20, fun _ h => nomatch h⟩⟩⟩⟩⟩⟩⟩⟩⟩⟩⟩⟩⟩⟩⟩⟩⟩⟩⟩⟩⟩
def NS : List Cond := [Cond.methodLinkNest RX3 143 yX2_isInForce "ProfitsOffice", Cond.methodLinkNest RX3 173 yX2_guaranteed "ProfitsOffice", Cond.methodLinkNest RX3 139 yX2_assetShare "ProfitsOffice", Cond.methodLinkNest RX2 45 yX1_shareFor "ProfitsOffice", Cond.methodLinkNest RX1 30 yX3_parted "ProfitsOffice", Cond.methodLinkNest RX3 202 yX1_init "ProfitsOffice", Cond.methodLinkNest RX1 18 yX0_init "ProfitsOffice", Cond.fieldLinkNest RX1 23 "ProfitsOffice$Fund" "amount" "J" "ProfitsOffice", Cond.fieldLinkNest RX3 151 "ProfitsOffice$Fund" "amount" "J" "ProfitsOffice", Cond.fieldLinkNest RX3 196 "ProfitsOffice$Generation" "begun" "I" "ProfitsOffice", Cond.fieldLinkNest RX3 199 "ProfitsOffice$Generation" "term" "I" "ProfitsOffice", Cond.fieldLinkNest RX3 161 "ProfitsOffice$Generation" "fund" "LProfitsOffice$Fund;" "ProfitsOffice", Cond.fieldLinkNest RX3 208 "ProfitsOffice$Generation" "premiums" "J" "ProfitsOffice", Cond.methodLinkNest RX3 74 yX2_init "ProfitsOffice", Cond.methodLinkNest RX2 24 yX0_init "ProfitsOffice", Cond.fieldLinkNest RX3 192 "ProfitsOffice$Policy" "generation" "LProfitsOffice$Generation;" "ProfitsOffice", Cond.fieldLinkNest RX3 218 "ProfitsOffice$Policy" "premium" "I" "ProfitsOffice", Cond.fieldLinkNest RX3 147 "ProfitsOffice$Policy" "alone" "LProfitsOffice$Fund;" "ProfitsOffice", Cond.fieldLinkNest RX3 136 "ProfitsOffice$Policy" "bonuses" "J" "ProfitsOffice", Cond.fieldLinkNest RX3 133 "ProfitsOffice$Policy" "state" "I" "ProfitsOffice", Cond.fieldLinkNest RX3 164 "ProfitsOffice$Policy" "paid" "J" "ProfitsOffice", Cond.methodLinkNest RX3 239 yX1_release "ProfitsOffice", Cond.methodLinkNest RX3 211 yX0_earn "ProfitsOffice", Cond.methodLinkNest RX0 13 yX3_thousandths "ProfitsOffice", Cond.methodLinkNest RX3 215 yX0_takeCharge "ProfitsOffice"]
theorem nm_X3_143 : Cond.methodLinkNest RX3 143 yX2_isInForce "ProfitsOffice" ∈ NS := List.mem_of_getElem? (i := 0) rfl
theorem nm_X3_173 : Cond.methodLinkNest RX3 173 yX2_guaranteed "ProfitsOffice" ∈ NS := List.mem_of_getElem? (i := 1) rfl
theorem nm_X3_139 : Cond.methodLinkNest RX3 139 yX2_assetShare "ProfitsOffice" ∈ NS := List.mem_of_getElem? (i := 2) rfl
theorem nm_X2_45 : Cond.methodLinkNest RX2 45 yX1_shareFor "ProfitsOffice" ∈ NS := List.mem_of_getElem? (i := 3) rfl
theorem nm_X1_30 : Cond.methodLinkNest RX1 30 yX3_parted "ProfitsOffice" ∈ NS := List.mem_of_getElem? (i := 4) rfl
theorem nm_X3_202 : Cond.methodLinkNest RX3 202 yX1_init "ProfitsOffice" ∈ NS := List.mem_of_getElem? (i := 5) rfl
theorem nm_X1_18 : Cond.methodLinkNest RX1 18 yX0_init "ProfitsOffice" ∈ NS := List.mem_of_getElem? (i := 6) rfl
theorem nf_X1_23 : Cond.fieldLinkNest RX1 23 "ProfitsOffice$Fund" "amount" "J" "ProfitsOffice" ∈ NS := List.mem_of_getElem? (i := 7) rfl
theorem nf_X3_151 : Cond.fieldLinkNest RX3 151 "ProfitsOffice$Fund" "amount" "J" "ProfitsOffice" ∈ NS := List.mem_of_getElem? (i := 8) rfl
theorem nf_X3_196 : Cond.fieldLinkNest RX3 196 "ProfitsOffice$Generation" "begun" "I" "ProfitsOffice" ∈ NS := List.mem_of_getElem? (i := 9) rfl
theorem nf_X3_199 : Cond.fieldLinkNest RX3 199 "ProfitsOffice$Generation" "term" "I" "ProfitsOffice" ∈ NS := List.mem_of_getElem? (i := 10) rfl
theorem nf_X3_161 : Cond.fieldLinkNest RX3 161 "ProfitsOffice$Generation" "fund" "LProfitsOffice$Fund;" "ProfitsOffice" ∈ NS := List.mem_of_getElem? (i := 11) rfl
theorem nf_X3_208 : Cond.fieldLinkNest RX3 208 "ProfitsOffice$Generation" "premiums" "J" "ProfitsOffice" ∈ NS := List.mem_of_getElem? (i := 12) rfl
theorem nm_X3_74 : Cond.methodLinkNest RX3 74 yX2_init "ProfitsOffice" ∈ NS := List.mem_of_getElem? (i := 13) rfl
theorem nm_X2_24 : Cond.methodLinkNest RX2 24 yX0_init "ProfitsOffice" ∈ NS := List.mem_of_getElem? (i := 14) rfl
theorem nf_X3_192 : Cond.fieldLinkNest RX3 192 "ProfitsOffice$Policy" "generation" "LProfitsOffice$Generation;" "ProfitsOffice" ∈ NS := List.mem_of_getElem? (i := 15) rfl
theorem nf_X3_218 : Cond.fieldLinkNest RX3 218 "ProfitsOffice$Policy" "premium" "I" "ProfitsOffice" ∈ NS := List.mem_of_getElem? (i := 16) rfl
theorem nf_X3_147 : Cond.fieldLinkNest RX3 147 "ProfitsOffice$Policy" "alone" "LProfitsOffice$Fund;" "ProfitsOffice" ∈ NS := List.mem_of_getElem? (i := 17) rfl
theorem nf_X3_136 : Cond.fieldLinkNest RX3 136 "ProfitsOffice$Policy" "bonuses" "J" "ProfitsOffice" ∈ NS := List.mem_of_getElem? (i := 18) rfl
theorem nf_X3_133 : Cond.fieldLinkNest RX3 133 "ProfitsOffice$Policy" "state" "I" "ProfitsOffice" ∈ NS := List.mem_of_getElem? (i := 19) rfl
theorem nf_X3_164 : Cond.fieldLinkNest RX3 164 "ProfitsOffice$Policy" "paid" "J" "ProfitsOffice" ∈ NS := List.mem_of_getElem? (i := 20) rfl
theorem nm_X3_239 : Cond.methodLinkNest RX3 239 yX1_release "ProfitsOffice" ∈ NS := List.mem_of_getElem? (i := 21) rfl
theorem nm_X3_211 : Cond.methodLinkNest RX3 211 yX0_earn "ProfitsOffice" ∈ NS := List.mem_of_getElem? (i := 22) rfl
theorem nm_X0_13 : Cond.methodLinkNest RX0 13 yX3_thousandths "ProfitsOffice" ∈ NS := List.mem_of_getElem? (i := 23) rfl
theorem nm_X3_215 : Cond.methodLinkNest RX3 215 yX0_takeCharge "ProfitsOffice" ∈ NS := List.mem_of_getElem? (i := 24) rfl
theorem ns_tbl : ∀ w ∈ NS, w ∈ lw_tbl := List.forall_mem_cons.mpr ⟨List.mem_append_right _ (List.mem_of_getElem? (i := 94) (by decide +kernel)), List.forall_mem_cons.mpr ⟨List.mem_append_right _ (List.mem_of_getElem? (i := 99) (by decide +kernel)), List.forall_mem_cons.mpr ⟨List.mem_append_right _ (List.mem_of_getElem? (i := 103) (by decide +kernel)), List.forall_mem_cons.mpr ⟨List.mem_append_right _ (List.mem_of_getElem? (i := 108) (by decide +kernel)), List.forall_mem_cons.mpr ⟨List.mem_append_right _ (List.mem_of_getElem? (i := 113) (by decide +kernel)), List.forall_mem_cons.mpr ⟨List.mem_append_right _ (List.mem_of_getElem? (i := 227) (by decide +kernel)), List.forall_mem_cons.mpr ⟨List.mem_append_right _ (List.mem_of_getElem? (i := 233) (by decide +kernel)), List.forall_mem_cons.mpr ⟨List.mem_append_right _ (List.mem_of_getElem? (i := 238) (by decide +kernel)), List.forall_mem_cons.mpr ⟨List.mem_append_right _ (List.mem_of_getElem? (i := 239) (by decide +kernel)), List.forall_mem_cons.mpr ⟨List.mem_append_right _ (List.mem_of_getElem? (i := 244) (by decide +kernel)), List.forall_mem_cons.mpr ⟨List.mem_append_right _ (List.mem_of_getElem? (i := 246) (by decide +kernel)), List.forall_mem_cons.mpr ⟨List.mem_append_right _ (List.mem_of_getElem? (i := 248) (by decide +kernel)), List.forall_mem_cons.mpr ⟨List.mem_append_right _ (List.mem_of_getElem? (i := 250) (by decide +kernel)), List.forall_mem_cons.mpr ⟨List.mem_append_right _ (List.mem_of_getElem? (i := 260) (by decide +kernel)), List.forall_mem_cons.mpr ⟨List.mem_append_right _ (List.mem_of_getElem? (i := 265) (by decide +kernel)), List.forall_mem_cons.mpr ⟨List.mem_append_right _ (List.mem_of_getElem? (i := 268) (by decide +kernel)), List.forall_mem_cons.mpr ⟨List.mem_append_right _ (List.mem_of_getElem? (i := 270) (by decide +kernel)), List.forall_mem_cons.mpr ⟨List.mem_append_right _ (List.mem_of_getElem? (i := 273) (by decide +kernel)), List.forall_mem_cons.mpr ⟨List.mem_append_right _ (List.mem_of_getElem? (i := 275) (by decide +kernel)), List.forall_mem_cons.mpr ⟨List.mem_append_right _ (List.mem_of_getElem? (i := 277) (by decide +kernel)), List.forall_mem_cons.mpr ⟨List.mem_append_right _ (List.mem_of_getElem? (i := 279) (by decide +kernel)), List.forall_mem_cons.mpr ⟨List.mem_append_right _ (List.mem_of_getElem? (i := 350) (by decide +kernel)), List.forall_mem_cons.mpr ⟨List.mem_append_right _ (List.mem_of_getElem? (i := 394) (by decide +kernel)), List.forall_mem_cons.mpr ⟨List.mem_append_right _ (List.mem_of_getElem? (i := 398) (by decide +kernel)), List.forall_mem_cons.mpr ⟨List.mem_append_right _ (List.mem_of_getElem? (i := 399) (by decide +kernel)), fun _ h => nomatch h⟩⟩⟩⟩⟩⟩⟩⟩⟩⟩⟩⟩⟩⟩⟩⟩⟩⟩⟩⟩⟩⟩⟩⟩⟩
end
section
/-! base rows: one world of numbered roles; where a role's cell lies is ad, what it holds is g -/
section ZB
def zN (U : State) : Prop := ∀ w ∈ NS, va_Nw w U
theorem ns_tab : ∀ w ∈ NS, w.onTables = true := by decide +kernel
theorem ns_kind : ∀ w ∈ NS, (∃ a i b n d h, w = Cond.fieldLinkNest a i b n d h) ∨ (∃ a i x h, w = Cond.methodLinkNest a i x h) := by
  intro w hw
  cases w <;> first | exact Or.inl ⟨_, _, _, _, _, _, rfl⟩ | exact Or.inr ⟨_, _, _, _, rfl⟩ | (exfalso; revert hw; simp [NS])
theorem zN.calling {U : State} {g : JFrame} {mk : MethodId} {a : Array Value} (h : zN U) : zN (U.calling g mk a) := fun w hw => va_Nw.same (u := U) (U := U.calling g mk a) (ns_tab w hw) rfl (h w hw)
theorem zN.warm {s U : State} (hW : s.WarmedH U.vm) (h : zN s) : zN U := by
  intro w hw
  rcases ns_kind w hw with ⟨a, i, b, n, d, k, rfl⟩ | ⟨a, i, x, k, rfl⟩
  · exact va_Nw.warmF hW (h _ hw)
  · exact va_Nw.warmM hW (h _ hw)
/-- the four array classes: of ints, longs, generations, policies -/
def zT (ks : Nat → ClassId) : List (ClassId × FieldType) := [(ks 0, .int), (ks 1, .long), (ks 2, .object "ProfitsOffice$Generation"), (ks 3, .object "ProfitsOffice$Policy")]
def zK (D : va_G) (ks : Nat → ClassId) (U : State) : Prop := va_K D vwCl (zT ks) U ∧ zN U
theorem zK.calling {D : va_G} {ks : Nat → ClassId} {U : State} {g : JFrame} {mk : MethodId} {a : Array Value} (h : zK D ks U) : zK D ks (U.calling g mk a) := ⟨va_K.moved (u := U) (U := U.calling g mk a) (Vm.Alike.refl U.vm) h.1, h.2.calling⟩
theorem zK.warm {D : va_G} {ks : Nat → ClassId} {s U : State} (hW : s.WarmedH U.vm) (h : zK D ks s) : zK D ks U := ⟨va_K.moved hW.alike h.1, h.2.warm hW⟩
def zP (D : va_G) (Rs : List Nat) (ad : Nat → Nat) (g : Nat → va_E) (H : Heap) : Prop := ∀ r ∈ Rs, va_at D vwCl (ad r, g r) H
def zD (A : Nat → Prop) (Rs : List Nat) (ad : Nat → Nat) : Prop := Rs.Nodup ∧ (∀ r ∈ Rs, ∀ q ∈ Rs, ad r = ad q → r = q) ∧ ∀ r ∈ Rs, A (ad r)
def zA (Rs : List Nat) (ad : Nat → Nat) (sz : Nat) : Nat → Prop := fun q => (∃ r ∈ Rs, q = ad r) ∨ sz ≤ q
def zL (Rs : List Nat) (ad : Nat → Nat) (g : Nat → va_E) : va_W := Rs.map (fun r => (ad r, g r))
theorem zP.ws {D : va_G} {Rs : List Nat} {ad : Nat → Nat} {g : Nat → va_E} {H : Heap} (h : zP D Rs ad g H) : va_P D vwCl (zL Rs ad g) H := by
  intro k q hk
  simp only [zL, List.getElem?_map, Option.map_eq_some_iff] at hk
  obtain ⟨r, hr, rfl⟩ := hk
  exact h r (List.mem_of_getElem? hr)
theorem zP.of {D : va_G} {Rs : List Nat} {ad : Nat → Nat} {g : Nat → va_E} {H : Heap} (h : va_P D vwCl (zL Rs ad g) H) : zP D Rs ad g H := by
  intro r hr
  obtain ⟨k, hk⟩ := List.getElem?_of_mem hr
  exact h k (ad r, g r) (by simp [zL, hk])
theorem zD.ws {A : Nat → Prop} {Rs : List Nat} {ad : Nat → Nat} (h : zD A Rs ad) (g : Nat → va_E) : va_D A (zL Rs ad g) := by
  refine ⟨fun i j p q hi hj e => ?_, fun k q hk => ?_⟩
  · simp only [zL, List.getElem?_map, Option.map_eq_some_iff] at hi hj
    obtain ⟨r, hr, rfl⟩ := hi
    obtain ⟨r', hr', rfl⟩ := hj
    have e1 := h.2.1 r (List.mem_of_getElem? hr) r' (List.mem_of_getElem? hr') e
    subst e1
    exact (List.getElem?_inj (List.getElem?_eq_some_iff.mp hr).1 h.1).mp (hr.trans hr'.symm)
  · simp only [zL, List.getElem?_map, Option.map_eq_some_iff] at hk
    obtain ⟨r, hr, rfl⟩ := hk
    exact h.2.2 r (List.mem_of_getElem? hr)
theorem zL_at {Rs : List Nat} {ad : Nat → Nat} (g : Nat → va_E) {r : Nat} (hr : r ∈ Rs) : ∃ k : Nat, Rs[k]? = some r ∧ (zL Rs ad g)[k]? = some (ad r, g r) := by
  obtain ⟨k, hk⟩ := List.getElem?_of_mem hr
  exact ⟨k, hk, by simp [zL, hk]⟩
theorem zL_set {Rs : List Nat} {ad : Nat → Nat} {g : Nat → va_E} {r k : Nat} {e : va_E} (hn : Rs.Nodup) (hk : Rs[k]? = some r) : (zL Rs ad g).set k (ad r, e) = zL Rs ad (va_up g r e) := by
  apply List.ext_getElem?
  intro j
  by_cases hj : j = k
  · subst hj
    rw [List.getElem?_set_self (by simp [zL]; exact (List.getElem?_eq_some_iff.mp hk).1)]
    simp [zL, hk, va_up]
  · rw [List.getElem?_set_ne (Ne.symm hj)]
    simp only [zL, List.getElem?_map]
    cases hb : Rs[j]? with
    | none => rfl
    | some b =>
      have hba : b ≠ r := by
        intro e1
        subst e1
        exact hj ((List.getElem?_inj (List.getElem?_eq_some_iff.mp hb).1 hn).mp (hb.trans hk.symm))
      simp [va_up, hba]
theorem zP.cast {D : va_G} {Rs : List Nat} {ad : Nat → Nat} {g g' : Nat → va_E} {H : Heap} (h : zP D Rs ad g H) (e : ∀ r ∈ Rs, g' r = g r) : zP D Rs ad g' H := fun r hr => by rw [e r hr]; exact h r hr
theorem zP.at {D : va_G} {Rs : List Nat} {ad : Nat → Nat} {g : Nat → va_E} {H : Heap} (h : zP D Rs ad g H) {r : Nat} (hr : r ∈ Rs) {e : va_E} (he : g r = e) : va_at D vwCl (ad r, e) H := by rw [← he]; exact h r hr
theorem zP.lt {D : va_G} {Rs : List Nat} {ad : Nat → Nat} {g : Nat → va_E} {H : Heap} (h : zP D Rs ad g H) {r : Nat} (hr : r ∈ Rs) : ad r < H.size := by
  obtain ⟨k, -, hk⟩ := zL_at g hr (ad := ad)
  exact (h.ws k _ hk).lt
theorem zD.self {Rs : List Nat} {ad : Nat → Nat} {A : Nat → Prop} {sz : Nat} (h : zD A Rs ad) : zD (zA Rs ad sz) Rs ad := ⟨h.1, h.2.1, fun r hr => Or.inl ⟨r, hr, rfl⟩⟩
theorem zD.free {Rs : List Nat} {ad : Nat → Nat} {A : Nat → Prop} {sz : Nat} (h : zD A Rs ad) (hA : ∀ q, sz ≤ q → A q) : ∀ q, zA Rs ad sz q → A q := by
  rintro q (⟨r, hr, rfl⟩ | h1)
  · exact h.2.2 r hr
  · exact hA q h1
theorem z1P {D : va_G} {a : Nat} {e : va_E} {H : Heap} (h : va_at D vwCl (a, e) H) : va_P D vwCl [(a, e)] H := by
  intro k q hk
  cases k with
  | zero => cases hk; exact h
  | succ k => simp at hk
theorem z_word {own : Cond} {args : Array Value} {s : State} (hT : ∀ w ∈ WS, w.before args s = true) (h : own ∈ WS) : own.before args s = true := hT _ h
section ZR
variable {p : Program} {l : Launch} {e : Env} {R : Room} {s : State} {m : MethodId} {args : Array Value} {below : List Frame} {meth : Method} {c : Code} {H : Heap} {locs : List Loc} {cells slots : Nat} {Q : State → Prop}
variable {cc : ByteArray} {pc : Nat} {ls : Array Slot} {rest : List Value} {D : va_G} {ks : Nat → ClassId} {A : Nat → Prop} {a : Nat} {Rs : List Nat} {ad : Nat → Nat} {g : Nat → va_E}
theorem z_get (hx : p.tables.exec = Jvm.exec) (hb : c.code = cc) (hT : ∀ w ∈ WS, w.before args s = true) {own ref C : String} {T : u_T} {N ci index : Nat} (hown : s.vm.findClass own = some m.cls) (hK : zK D ks s) (hin : ∀ w ∈ u_ws C T N, w ∈ WS) (hc : vwCl[ci]? = some (C, T, N)) (k : Nat) (hk : k < N) (hlink : Cond.fieldLink own index ref (T k).2.1 (T k).2.2.1 ∈ WS) (hsame : ∀ x, s.fieldFound? (T k).1 (T k).2.1 (T k).2.2.1 = some x → s.fieldFound? ref (T k).2.1 (T k).2.2.1 = some x) {fs : List Value} {v : Value}
    (hat : va_at D vwCl (a, .inr (ci, fs)) H) (hv : fs[k]? = some v) (hdg : decode cc pc = .ok (.getfield index, 3))
    (kk : W p l e R s m args below meth c H locs cells slots Q (F0 m (pc + 3) ls (v :: rest))) : W p l e R s m args below meth c H locs cells slots Q (F0 m pc ls (.ref a :: rest)) :=
  va_get hx hb hT hin hown hK.1 (z1P hat) 0 rfl hc k hk (hT _ hlink) hsame hv hdg kk
theorem z_getN (hx : p.tables.exec = Jvm.exec) (hb : c.code = cc) (hT : ∀ w ∈ WS, w.before args s = true) {own ref C host : String} {T : u_T} {N ci index : Nat} (hown : s.vm.findClass own = some m.cls) (hK : zK D ks s) (hin : ∀ w ∈ u_ws C T N, w ∈ WS) (hc : vwCl[ci]? = some (C, T, N)) (k : Nat) (hk : k < N) (hlink : Cond.fieldLinkNest own index ref (T k).2.1 (T k).2.2.1 host ∈ NS) (hsame : ∀ x, s.fieldFound? (T k).1 (T k).2.1 (T k).2.2.1 = some x → s.fieldFound? ref (T k).2.1 (T k).2.2.1 = some x) {fs : List Value} {v : Value}
    (hat : va_at D vwCl (a, .inr (ci, fs)) H) (hv : fs[k]? = some v) (hdg : decode cc pc = .ok (.getfield index, 3))
    (kk : W p l e R s m args below meth c H locs cells slots Q (F0 m (pc + 3) ls (v :: rest))) : W p l e R s m args below meth c H locs cells slots Q (F0 m pc ls (.ref a :: rest)) :=
  va_getN hx hb hT hin hown hK.1 (z1P hat) 0 rfl hc k hk (va_Nw.use rfl (hK.2 _ hlink)) hsame hv hdg kk
theorem z_put (hx : p.tables.exec = Jvm.exec) (hb : c.code = cc) (hT : ∀ w ∈ WS, w.before args s = true) {own ref C : String} {T : u_T} {N ci index : Nat} (hown : s.vm.findClass own = some m.cls) (hK : zK D ks s) (hin : ∀ w ∈ u_ws C T N, w ∈ WS) (ty0 : Nat → FieldType) (hty : ∀ k, k < N → parseFieldDescriptor (T k).2.2.1 = some (ty0 k)) (hnm : ∀ a, a < N → ∀ b, b < N → a ≠ b → (T a).2.1 ≠ (T b).2.1) (hc : vwCl[ci]? = some (C, T, N)) (k : Nat) (hk : k < N) (hlink : Cond.fieldLink own index ref (T k).2.1 (T k).2.2.1 ∈ WS) (hsame : ∀ x, s.fieldFound? (T k).1 (T k).2.1 (T k).2.2.1 = some x → s.fieldFound? ref (T k).2.1 (T k).2.2.1 = some x) (hfin : (T k).2.2.2 = false) {ty : FieldType} {v : Value} (hd : parseFieldDescriptor (T k).2.2.1 = some ty) (hn : narrow ty v = v) (hfit : fits ty v = true)
    (hP : zP D Rs ad g H) (hD : zD A Rs ad) (hS : va_S A s.heap H locs) {r : Nat} (hr : r ∈ Rs) {fs : List Value} (he : g r = .inr (ci, fs)) (hl : k < fs.length) (hdg : decode cc pc = .ok (.putfield index, 3))
    (kk : ∀ (H1 : Heap) (locs1 : List Loc), zP D Rs ad (va_up g r (.inr (ci, fs.set k v))) H1 → va_S A s.heap H1 locs1 → W p l e R s m args below meth c H1 locs1 cells slots Q (F0 m (pc + 3) ls rest)) : W p l e R s m args below meth c H locs cells slots Q (F0 m pc ls (v :: .ref (ad r) :: rest)) := by
  obtain ⟨k0, h1, h2⟩ := zL_at g hr (ad := ad)
  rw [he] at h2
  exact va_put hx hb hT hin ty0 hty hnm hown hK.1 hP.ws (hD.ws g) hS k0 h2 hc k hk (hT _ hlink) hsame hfin hd hn hfit hl hdg (fun H1 locs1 hP1 _ hS1 => kk H1 locs1 (zP.of (by rw [← zL_set hD.1 h1]; exact hP1)) hS1)
theorem z_putN (hx : p.tables.exec = Jvm.exec) (hb : c.code = cc) (hT : ∀ w ∈ WS, w.before args s = true) {own ref C host : String} {T : u_T} {N ci index : Nat} (hown : s.vm.findClass own = some m.cls) (hK : zK D ks s) (hin : ∀ w ∈ u_ws C T N, w ∈ WS) (ty0 : Nat → FieldType) (hty : ∀ k, k < N → parseFieldDescriptor (T k).2.2.1 = some (ty0 k)) (hnm : ∀ a, a < N → ∀ b, b < N → a ≠ b → (T a).2.1 ≠ (T b).2.1) (hc : vwCl[ci]? = some (C, T, N)) (k : Nat) (hk : k < N) (hlink : Cond.fieldLinkNest own index ref (T k).2.1 (T k).2.2.1 host ∈ NS) (hsame : ∀ x, s.fieldFound? (T k).1 (T k).2.1 (T k).2.2.1 = some x → s.fieldFound? ref (T k).2.1 (T k).2.2.1 = some x) (hfin : (T k).2.2.2 = false) {ty : FieldType} {v : Value} (hd : parseFieldDescriptor (T k).2.2.1 = some ty) (hn : narrow ty v = v) (hfit : fits ty v = true)
    (hP : zP D Rs ad g H) (hD : zD A Rs ad) (hS : va_S A s.heap H locs) {r : Nat} (hr : r ∈ Rs) {fs : List Value} (he : g r = .inr (ci, fs)) (hl : k < fs.length) (hdg : decode cc pc = .ok (.putfield index, 3))
    (kk : ∀ (H1 : Heap) (locs1 : List Loc), zP D Rs ad (va_up g r (.inr (ci, fs.set k v))) H1 → va_S A s.heap H1 locs1 → W p l e R s m args below meth c H1 locs1 cells slots Q (F0 m (pc + 3) ls rest)) : W p l e R s m args below meth c H locs cells slots Q (F0 m pc ls (v :: .ref (ad r) :: rest)) := by
  obtain ⟨k0, h1, h2⟩ := zL_at g hr (ad := ad)
  rw [he] at h2
  exact va_putN hx hb hT hin ty0 hty hnm hown hK.1 hP.ws (hD.ws g) hS k0 h2 hc k hk (va_Nw.use rfl (hK.2 _ hlink)) hsame hfin hd hn hfit hl hdg (fun H1 locs1 hP1 _ hS1 => kk H1 locs1 (zP.of (by rw [← zL_set hD.1 h1]; exact hP1)) hS1)
theorem z_putF (hx : p.tables.exec = Jvm.exec) (hb : c.code = cc) (hT : ∀ w ∈ WS, w.before args s = true) {own ref C : String} {T : u_T} {N ci index : Nat} (hown : s.vm.findClass own = some m.cls) (hK : zK D ks s) (hin : ∀ w ∈ u_ws C T N, w ∈ WS) (ty0 : Nat → FieldType) (hty : ∀ k, k < N → parseFieldDescriptor (T k).2.2.1 = some (ty0 k)) (hnm : ∀ a, a < N → ∀ b, b < N → a ≠ b → (T a).2.1 ≠ (T b).2.1) (hc : vwCl[ci]? = some (C, T, N)) (k : Nat) (hk : k < N) (hlink : Cond.fieldLink own index ref (T k).2.1 (T k).2.2.1 ∈ WS) (hsame : ∀ x, s.fieldFound? (T k).1 (T k).2.1 (T k).2.2.1 = some x → s.fieldFound? ref (T k).2.1 (T k).2.2.1 = some x) (hfin : (T k).2.2.2 = true) (hin2 : meth.name = "<init>") (hdecl : (T k).1 = own) {ty : FieldType} {v : Value} (hd : parseFieldDescriptor (T k).2.2.1 = some ty) (hn : narrow ty v = v) (hfit : fits ty v = true)
    (hP : zP D Rs ad g H) (hD : zD A Rs ad) (hS : va_S A s.heap H locs) {r : Nat} (hr : r ∈ Rs) {fs : List Value} (he : g r = .inr (ci, fs)) (hl : k < fs.length) (hdg : decode cc pc = .ok (.putfield index, 3))
    (kk : ∀ (H1 : Heap) (locs1 : List Loc), zP D Rs ad (va_up g r (.inr (ci, fs.set k v))) H1 → va_S A s.heap H1 locs1 → W p l e R s m args below meth c H1 locs1 cells slots Q (F0 m (pc + 3) ls rest)) : W p l e R s m args below meth c H locs cells slots Q (F0 m pc ls (v :: .ref (ad r) :: rest)) := by
  obtain ⟨k0, h1, h2⟩ := zL_at g hr (ad := ad)
  rw [he] at h2
  exact va_putF hx hb hT hin ty0 hty hnm hown hK.1 hP.ws (hD.ws g) hS k0 h2 hc k hk (hT _ hlink) hsame hfin hin2 hdecl hd hn hfit hl hdg (fun H1 locs1 hP1 _ hS1 => kk H1 locs1 (zP.of (by rw [← zL_set hD.1 h1]; exact hP1)) hS1)
theorem z_iald (hx : p.tables.exec = Jvm.exec) (hb : c.code = cc) (hK : zK D ks s) {n : Nat} {f : Nat → Int32} (hat : va_at D vwCl (a, .inl (ks 0, n, .inl f)) H) {i : Int32} (hin : vp_in i n) (hdg : decode cc pc = .ok (.iaload, 1))
    (kk : W p l e R s m args below meth c H locs cells slots Q (F0 m (pc + 1) ls (.int (f i.toNatClampNeg) :: rest))) : W p l e R s m args below meth c H locs cells slots Q (F0 m pc ls (.int i :: .ref a :: rest)) := va_iald hx hb hK.1 (z1P hat) 0 0 rfl rfl hin hdg kk
theorem z_lald (hx : p.tables.exec = Jvm.exec) (hb : c.code = cc) (hK : zK D ks s) {n : Nat} {f : Nat → Int64} (hat : va_at D vwCl (a, .inl (ks 1, n, .inr (.inl f))) H) {i : Int32} (hin : vp_in i n) (hdg : decode cc pc = .ok (.laload, 1))
    (kk : W p l e R s m args below meth c H locs cells slots Q (F0 m (pc + 1) ls (.long (f i.toNatClampNeg) :: rest))) : W p l e R s m args below meth c H locs cells slots Q (F0 m pc ls (.int i :: .ref a :: rest)) := va_lald hx hb hK.1 (z1P hat) 0 1 rfl rfl hin hdg kk
theorem z_gald (hx : p.tables.exec = Jvm.exec) (hb : c.code = cc) (hK : zK D ks s) {n : Nat} {f : Nat → Option Nat} (hat : va_at D vwCl (a, .inl (ks 2, n, .inr (.inr (.inr (.inr f))))) H) {i : Int32} (hin : vp_in i n) (hdg : decode cc pc = .ok (.aaload, 1))
    (kk : W p l e R s m args below meth c H locs cells slots Q (F0 m (pc + 1) ls (va_rf (f i.toNatClampNeg) :: rest))) : W p l e R s m args below meth c H locs cells slots Q (F0 m pc ls (.int i :: .ref a :: rest)) := va_aldq hx hb hK.1 (z1P hat) 0 2 rfl rfl hin hdg kk
theorem z_pald (hx : p.tables.exec = Jvm.exec) (hb : c.code = cc) (hK : zK D ks s) {n : Nat} {f : Nat → Option Nat} (hat : va_at D vwCl (a, .inl (ks 3, n, .inr (.inr (.inr (.inr f))))) H) {i : Int32} (hin : vp_in i n) (hdg : decode cc pc = .ok (.aaload, 1))
    (kk : W p l e R s m args below meth c H locs cells slots Q (F0 m (pc + 1) ls (va_rf (f i.toNatClampNeg) :: rest))) : W p l e R s m args below meth c H locs cells slots Q (F0 m pc ls (.int i :: .ref a :: rest)) := va_aldq hx hb hK.1 (z1P hat) 0 3 rfl rfl hin hdg kk
theorem z_jlen (hx : p.tables.exec = Jvm.exec) (hb : c.code = cc) (hK : zK D ks s) {n : Nat} {f : Nat → Int64} (hat : va_at D vwCl (a, .inl (ks 1, n, .inr (.inl f))) H) {v : Int32} (hv : Int32.ofNat n = v) (hdg : decode cc pc = .ok (.arraylength, 1))
    (kk : W p l e R s m args below meth c H locs cells slots Q (F0 m (pc + 1) ls (.int v :: rest))) : W p l e R s m args below meth c H locs cells slots Q (F0 m pc ls (.ref a :: rest)) := va_alen hx hb hK.1 (z1P hat) 0 1 rfl rfl hv hdg kk
theorem z_glen (hx : p.tables.exec = Jvm.exec) (hb : c.code = cc) (hK : zK D ks s) {n : Nat} {f : Nat → Option Nat} (hat : va_at D vwCl (a, .inl (ks 2, n, .inr (.inr (.inr (.inr f))))) H) {v : Int32} (hv : Int32.ofNat n = v) (hdg : decode cc pc = .ok (.arraylength, 1))
    (kk : W p l e R s m args below meth c H locs cells slots Q (F0 m (pc + 1) ls (.int v :: rest))) : W p l e R s m args below meth c H locs cells slots Q (F0 m pc ls (.ref a :: rest)) := va_alen hx hb hK.1 (z1P hat) 0 2 rfl rfl hv hdg kk
theorem z_plen (hx : p.tables.exec = Jvm.exec) (hb : c.code = cc) (hK : zK D ks s) {n : Nat} {f : Nat → Option Nat} (hat : va_at D vwCl (a, .inl (ks 3, n, .inr (.inr (.inr (.inr f))))) H) {v : Int32} (hv : Int32.ofNat n = v) (hdg : decode cc pc = .ok (.arraylength, 1))
    (kk : W p l e R s m args below meth c H locs cells slots Q (F0 m (pc + 1) ls (.int v :: rest))) : W p l e R s m args below meth c H locs cells slots Q (F0 m pc ls (.ref a :: rest)) := va_alen hx hb hK.1 (z1P hat) 0 3 rfl rfl hv hdg kk
theorem z_iast (hx : p.tables.exec = Jvm.exec) (hb : c.code = cc) (hK : zK D ks s) (hP : zP D Rs ad g H) (hD : zD A Rs ad) (hS : va_S A s.heap H locs) {r : Nat} (hr : r ∈ Rs) {n : Nat} {f : Nat → Int32} (he : g r = .inl (ks 0, n, .inl f)) {i x : Int32} (hin : vp_in i n) (hdg : decode cc pc = .ok (.iastore, 1))
    (kk : ∀ (H1 : Heap) (locs1 : List Loc), zP D Rs ad (va_up g r (.inl (ks 0, n, .inl (upd f i.toNatClampNeg x)))) H1 → va_S A s.heap H1 locs1 → W p l e R s m args below meth c H1 locs1 cells slots Q (F0 m (pc + 1) ls rest)) : W p l e R s m args below meth c H locs cells slots Q (F0 m pc ls (.int x :: .int i :: .ref (ad r) :: rest)) := by
  obtain ⟨k0, h1, h2⟩ := zL_at g hr (ad := ad)
  rw [he] at h2
  exact va_iast hx hb hK.1 hP.ws (hD.ws g) hS k0 0 h2 rfl hin hdg (fun H1 locs1 hP1 _ hS1 => kk H1 locs1 (zP.of (by rw [← zL_set hD.1 h1]; exact hP1)) hS1)
theorem z_last (hx : p.tables.exec = Jvm.exec) (hb : c.code = cc) (hK : zK D ks s) (hP : zP D Rs ad g H) (hD : zD A Rs ad) (hS : va_S A s.heap H locs) {r : Nat} (hr : r ∈ Rs) {n : Nat} {f : Nat → Int64} (he : g r = .inl (ks 1, n, .inr (.inl f))) {i : Int32} {x : Int64} (hin : vp_in i n) (hdg : decode cc pc = .ok (.lastore, 1))
    (kk : ∀ (H1 : Heap) (locs1 : List Loc), zP D Rs ad (va_up g r (.inl (ks 1, n, .inr (.inl (vp_updL f i.toNatClampNeg x))))) H1 → va_S A s.heap H1 locs1 → W p l e R s m args below meth c H1 locs1 cells slots Q (F0 m (pc + 1) ls rest)) : W p l e R s m args below meth c H locs cells slots Q (F0 m pc ls (.long x :: .int i :: .ref (ad r) :: rest)) := by
  obtain ⟨k0, h1, h2⟩ := zL_at g hr (ad := ad)
  rw [he] at h2
  exact va_last hx hb hK.1 hP.ws (hD.ws g) hS k0 1 h2 rfl hin hdg (fun H1 locs1 hP1 _ hS1 => kk H1 locs1 (zP.of (by rw [← zL_set hD.1 h1]; exact hP1)) hS1)
theorem z_gast (hx : p.tables.exec = Jvm.exec) (hb : c.code = cc) (hK : zK D ks s) (hP : zP D Rs ad g H) (hD : zD A Rs ad) (hS : va_S A s.heap H locs) {r q : Nat} (hr : r ∈ Rs) {n : Nat} {f : Nat → Option Nat} (he : g r = .inl (ks 2, n, .inr (.inr (.inr (.inr f))))) (hq : q ∈ Rs) {vs : List Value} (hv : g q = .inr (1, vs)) {i : Int32} (hin : vp_in i n) (hdg : decode cc pc = .ok (.aastore, 1))
    (kk : ∀ (H1 : Heap) (locs1 : List Loc), zP D Rs ad (va_up g r (.inl (ks 2, n, .inr (.inr (.inr (.inr (va_up f i.toNatClampNeg (some (ad q))))))))) H1 → va_S A s.heap H1 locs1 → W p l e R s m args below meth c H1 locs1 cells slots Q (F0 m (pc + 1) ls rest)) : W p l e R s m args below meth c H locs cells slots Q (F0 m pc ls (.ref (ad q) :: .int i :: .ref (ad r) :: rest)) := by
  obtain ⟨k0, h1, h2⟩ := zL_at g hr (ad := ad)
  rw [he] at h2
  obtain ⟨k1, -, h4⟩ := zL_at g hq (ad := ad)
  rw [hv] at h4
  exact va_astq hx hb hK.1 hP.ws (hD.ws g) hS k0 2 k1 1 (r := (RX1, TX1, 4)) h2 rfl h4 rfl hin hdg (fun H1 locs1 hP1 _ hS1 => kk H1 locs1 (zP.of (by rw [← zL_set hD.1 h1]; exact hP1)) hS1)
theorem z_past (hx : p.tables.exec = Jvm.exec) (hb : c.code = cc) (hK : zK D ks s) (hP : zP D Rs ad g H) (hD : zD A Rs ad) (hS : va_S A s.heap H locs) {r q : Nat} (hr : r ∈ Rs) {n : Nat} {f : Nat → Option Nat} (he : g r = .inl (ks 3, n, .inr (.inr (.inr (.inr f))))) (hq : q ∈ Rs) {vs : List Value} (hv : g q = .inr (2, vs)) {i : Int32} (hin : vp_in i n) (hdg : decode cc pc = .ok (.aastore, 1))
    (kk : ∀ (H1 : Heap) (locs1 : List Loc), zP D Rs ad (va_up g r (.inl (ks 3, n, .inr (.inr (.inr (.inr (va_up f i.toNatClampNeg (some (ad q))))))))) H1 → va_S A s.heap H1 locs1 → W p l e R s m args below meth c H1 locs1 cells slots Q (F0 m (pc + 1) ls rest)) : W p l e R s m args below meth c H locs cells slots Q (F0 m pc ls (.ref (ad q) :: .int i :: .ref (ad r) :: rest)) := by
  obtain ⟨k0, h1, h2⟩ := zL_at g hr (ad := ad)
  rw [he] at h2
  obtain ⟨k1, -, h4⟩ := zL_at g hq (ad := ad)
  rw [hv] at h4
  exact va_astq hx hb hK.1 hP.ws (hD.ws g) hS k0 3 k1 2 (r := (RX2, TX2, 7)) h2 rfl h4 rfl hin hdg (fun H1 locs1 hP1 _ hS1 => kk H1 locs1 (zP.of (by rw [← zL_set hD.1 h1]; exact hP1)) hS1)
/-- long comparisons and the branch behind them -/
theorem z_lcmp_le (hx : p.tables.exec = Jvm.exec) (hb : c.code = cc) {x y : Int64} {off : Int} {tgt : Nat} (h1 : decode cc pc = .ok (.lcmp, 1)) (h2 : decode cc (pc + 1) = .ok (.ifCond .le off, 3)) (ht : ((pc + 1 : Nat) : Int) + off = (tgt : Int))
    (kt : ¬ y < x → W p l e R s m args below meth c H locs cells slots Q (F0 m tgt ls rest)) (kf : y < x → W p l e R s m args below meth c H locs cells slots Q (F0 m (pc + 4) ls rest)) : W p l e R s m args below meth c H locs cells slots Q (F0 m pc ls (.long y :: .long x :: rest)) := by
  refine W.lcmp hx hb h1 (lv_if_le hx hb h2 ht (fun q => kt fun q2 => ?_) (fun q => kf ?_))
  · exact absurd q (by simp [lg_cmp, q2])
  · by_cases z : y < x
    · exact z
    · exact absurd (by by_cases z2 : x = y <;> simp [lg_cmp, z, z2]) q
theorem z_lcmp_ge (hx : p.tables.exec = Jvm.exec) (hb : c.code = cc) {x y : Int64} {off : Int} {tgt : Nat} (h1 : decode cc pc = .ok (.lcmp, 1)) (h2 : decode cc (pc + 1) = .ok (.ifCond .ge off, 3)) (ht : ((pc + 1 : Nat) : Int) + off = (tgt : Int))
    (kt : ¬ x < y → W p l e R s m args below meth c H locs cells slots Q (F0 m tgt ls rest)) (kf : x < y → W p l e R s m args below meth c H locs cells slots Q (F0 m (pc + 4) ls rest)) : W p l e R s m args below meth c H locs cells slots Q (F0 m pc ls (.long y :: .long x :: rest)) := by
  refine W.lcmp hx hb h1 (lv_if_ge hx hb h2 ht (fun q => kt fun q2 => ?_) (fun q => kf ?_))
  · have a1 : ¬ y < x := fun h => Int64.lt_irrefl (Int64.lt_trans h q2)
    have a2 : ¬ x = y := fun h => by subst h; exact Int64.lt_irrefl q2
    exact absurd q (by simp [lg_cmp, a1, a2])
  · by_cases z : y < x
    · exact absurd (by simp [lg_cmp, z]) q
    · by_cases z2 : x = y
      · exact absurd (by simp [lg_cmp, z2]) q
      · rcases Int64.lt_or_eq_of_le (Int64.not_lt.mp z) with h | h
        · exact h
        · exact absurd h z2
theorem z_lcmp_eq (hx : p.tables.exec = Jvm.exec) (hb : c.code = cc) {x y : Int64} {off : Int} {tgt : Nat} (h1 : decode cc pc = .ok (.lcmp, 1)) (h2 : decode cc (pc + 1) = .ok (.ifCond .eq off, 3)) (ht : ((pc + 1 : Nat) : Int) + off = (tgt : Int))
    (kt : x = y → W p l e R s m args below meth c H locs cells slots Q (F0 m tgt ls rest)) (kf : ¬ x = y → W p l e R s m args below meth c H locs cells slots Q (F0 m (pc + 4) ls rest)) : W p l e R s m args below meth c H locs cells slots Q (F0 m pc ls (.long y :: .long x :: rest)) := by
  refine W.lcmp hx hb h1 (lv_if_eq hx hb h2 ht (fun q => kt ?_) (fun q => kf fun q2 => ?_))
  · by_cases z : y < x
    · exact absurd q (by simp [lg_cmp, z])
    · by_cases z2 : x = y
      · exact z2
      · exact absurd q (by simp [lg_cmp, z, z2])
  · exact q (by subst q2; simp [lg_cmp])
theorem z_lcmp_ne (hx : p.tables.exec = Jvm.exec) (hb : c.code = cc) {x y : Int64} {off : Int} {tgt : Nat} (h1 : decode cc pc = .ok (.lcmp, 1)) (h2 : decode cc (pc + 1) = .ok (.ifCond .ne off, 3)) (ht : ((pc + 1 : Nat) : Int) + off = (tgt : Int))
    (kt : ¬ x = y → W p l e R s m args below meth c H locs cells slots Q (F0 m tgt ls rest)) (kf : x = y → W p l e R s m args below meth c H locs cells slots Q (F0 m (pc + 4) ls rest)) : W p l e R s m args below meth c H locs cells slots Q (F0 m pc ls (.long y :: .long x :: rest)) := by
  refine W.lcmp hx hb h1 (lv_if_ne hx hb h2 ht (fun q => kt fun q2 => ?_) (fun q => kf ?_))
  · exact q (by subst q2; simp [lg_cmp])
  · by_cases z : y < x
    · exact absurd q (by simp [lg_cmp, z])
    · by_cases z2 : x = y
      · exact z2
      · exact absurd q (by simp [lg_cmp, z, z2])
end ZR
end ZB
end
section
/-! contracts and calls -/
section ZC
def zRm (fr lo mc ms : Nat) : Room := { frames := fr, cells := mc, slots := ms, locals := lo }
/-- a method that changes no cell: what it answers -/
def zQR (v : Option Value) : Array Value → State → Outcome → State → Prop := fun _ st oc t => oc = .returned v ∧ t.heap = st.heap
def zQW (v : Option Value) (B : Heap → Prop) (A : Nat → Prop) : Array Value → State → Outcome → State → Prop := fun _ st oc t => oc = .returned v ∧ B t.heap ∧ va_F A st t
def zPR (D : va_G) (ks : Nat → ClassId) (As : List Value) (P : Heap → Prop) : Array Value → State → Prop := va_Pc As (fun U => P U.heap ∧ zK D ks U)
def zPW (D : va_G) (ks : Nat → ClassId) (sz : Nat) (As : List Value) (P : Heap → Prop) : Array Value → State → Prop := va_Pc As (fun U => U.heap.size = sz ∧ P U.heap ∧ zK D ks U)
def zMR (l : Launch) (y : MethodName) (cc : ByteArray) (n : Nat) (ret : Option FieldType) (fr lo : Nat) (D : va_G) (ks : Nat → ClassId) (As : List Value) (P : Heap → Prop) (v : Option Value) : Prop :=
  Met l y (Cond.code y cc n ret :: WS) (zRm fr lo 0 0) (zPR D ks As P) (zQR v) 0 0 (fun _ => False)
def zMW (l : Launch) (y : MethodName) (cc : ByteArray) (n : Nat) (ret : Option FieldType) (fr lo mc ms : Nat) (D : va_G) (ks : Nat → ClassId) (sz : Nat) (As : List Value) (P : Heap → Prop) (v : Option Value) (B : Heap → Prop) (A : Nat → Prop) : Prop :=
  Met l y (Cond.code y cc n ret :: WS) (zRm fr lo mc ms) (zPW D ks sz As P) (zQW v B A) mc ms A
theorem zPR.blind {D : va_G} {ks : Nat → ClassId} {As : List Value} {P : Heap → Prop} : FrameBlind (zPR D ks As P) := fun a U g mk q => ⟨q.1, q.2.1, q.2.2.calling⟩
theorem zPW.blind {D : va_G} {ks : Nat → ClassId} {sz : Nat} {As : List Value} {P : Heap → Prop} : FrameBlind (zPW D ks sz As P) := fun a U g mk q => ⟨q.1, q.2.1, q.2.2.1, q.2.2.2.calling⟩
theorem z_good {y : MethodName} {cy : ByteArray} {n : Nat} {ret : Option FieldType} (hc : Cond.code y cy n ret ∈ WS) : GoodIn WS (Cond.code y cy n ret :: WS) := by
  intro w hw
  have h : w ∈ WS := by
    rcases List.mem_cons.mp hw with rfl | h
    · exact hc
    · exact h
  exact ⟨h, ws_good h⟩
abbrev zcD (y : MethodName) (k : Nat) : Prop := y.cls ≠ "java/lang/invoke/MethodHandle" ∧ y.cls ≠ "java/lang/invoke/VarHandle" ∧ (parseMethodDescriptor y.desc).map (fun d => d.parameters.length) = some k
def zcS (own : String) (index : Nat) (y : MethodName) (cy : ByteArray) (n : Nat) (ret : Option FieldType) (k : Nat) : Prop := Cond.methodLink own index y ∈ WS ∧ Cond.static y ∈ WS ∧ Cond.initialized y.cls ∈ WS ∧ Cond.code y cy n ret ∈ WS ∧ zcD y k
def zcV (own : String) (index : Nat) (y : MethodName) (cy : ByteArray) (n : Nat) (ret : Option FieldType) (k : Nat) : Prop := Cond.methodLink own index y ∈ WS ∧ Cond.instanceMethod y ∈ WS ∧ Cond.selects y.cls y y ∈ WS ∧ Cond.initialized y.cls ∈ WS ∧ Cond.code y cy n ret ∈ WS ∧ zcD y k
def zcI (own : String) (index : Nat) (y : MethodName) (cy : ByteArray) (n : Nat) (k : Nat) : Prop := Cond.methodLink own index y ∈ WS ∧ Cond.instanceMethod y ∈ WS ∧ Cond.initialized y.cls ∈ WS ∧ Cond.code y cy n none ∈ WS ∧ zcD y k ∧ y.name = "<init>"
def zcSN (own : String) (index : Nat) (y : MethodName) (cy : ByteArray) (n : Nat) (ret : Option FieldType) (k : Nat) : Prop := Cond.methodLinkNest own index y "ProfitsOffice" ∈ NS ∧ Cond.static y ∈ WS ∧ Cond.initialized y.cls ∈ WS ∧ Cond.code y cy n ret ∈ WS ∧ zcD y k
def zcVN (own : String) (index : Nat) (y : MethodName) (cy : ByteArray) (n : Nat) (ret : Option FieldType) (k : Nat) : Prop := Cond.methodLinkNest own index y "ProfitsOffice" ∈ NS ∧ Cond.instanceMethod y ∈ WS ∧ Cond.selects y.cls y y ∈ WS ∧ Cond.initialized y.cls ∈ WS ∧ Cond.code y cy n ret ∈ WS ∧ zcD y k
def zcIN (own : String) (index : Nat) (y : MethodName) (cy : ByteArray) (n : Nat) (k : Nat) : Prop := Cond.methodLinkNest own index y "ProfitsOffice" ∈ NS ∧ Cond.instanceMethod y ∈ WS ∧ Cond.initialized y.cls ∈ WS ∧ Cond.code y cy n none ∈ WS ∧ zcD y k ∧ y.name = "<init>"
section ZCB
variable {l : Launch} {y : MethodName} {cc : ByteArray} {n : Nat} {ret : Option FieldType} {fr lo mc ms : Nat} {D : va_G} {ks : Nat → ClassId} {As : List Value} {P : Heap → Prop} {v : Option Value} {B : Heap → Prop} {A : Nat → Prop} {sz : Nat}
theorem zMR.of (hy : plainName y.cls = true) (hn : (lg_sl As).length ≤ n)
    (body : ∀ (p : Program) (e : Env) (s : State) (m : MethodId) (below : List Frame) (meth : Method) (c : Code) (ls : Array Slot), p.tables.exec = Jvm.exec → c.code = cc → meth.sig.returnType = ret → c.maxLocals = n → s.vm.findClass y.cls = some m.cls → meth.locks = false → (∀ w ∈ WS, w.before As.toArray s = true) → P s.heap → zK D ks s → lv_has ls n (lv_args 0 As) →
      W p l e (zRm fr lo 0 0) s m As.toArray below meth c s.heap [] 0 0 (MQ below (zQR v) As.toArray s 0 0 (fun _ => False)) (F0 m 0 ls [])) : zMR l y cc n ret fr lo D ks As P v := by
  refine Met.ofW (cc := cc) (maxL := n) (ret := ret) hy rfl ?_
  intro p e s m args below meth c s₁ B hml hv
  obtain ⟨rfl, hP, hK⟩ := hv
  rw [lg_entry_eq]
  exact body p e s m below meth c _ B.exec B.bytes B.returns hml (findClass_of_methodNamed B.named) B.notSynchronized (fun w hw => atoms_spec (ws := Cond.code y cc n ret :: WS) B.pre w (List.mem_cons_of_mem _ hw)) hP hK (lv_entry As hn)
theorem zMW.of (hy : plainName y.cls = true) (hn : (lg_sl As).length ≤ n)
    (body : ∀ (p : Program) (e : Env) (s : State) (m : MethodId) (below : List Frame) (meth : Method) (c : Code) (ls : Array Slot), p.tables.exec = Jvm.exec → c.code = cc → meth.sig.returnType = ret → c.maxLocals = n → s.vm.findClass y.cls = some m.cls → meth.locks = false → (∀ w ∈ WS, w.before As.toArray s = true) → s.heap.size = sz → P s.heap → zK D ks s → lv_has ls n (lv_args 0 As) → (y.name = "<init>" → meth.name = "<init>") →
      W p l e (zRm fr lo mc ms) s m As.toArray below meth c s.heap [] 0 0 (MQ below (zQW v B A) As.toArray s mc ms A) (F0 m 0 ls [])) : zMW l y cc n ret fr lo mc ms D ks sz As P v B A := by
  refine Met.ofW (cc := cc) (maxL := n) (ret := ret) hy rfl ?_
  intro p e s m args below meth c s₁ B hml hv
  obtain ⟨rfl, hsz, hP, hK⟩ := hv
  rw [lg_entry_eq]
  exact body p e s m below meth c _ B.exec B.bytes B.returns hml (findClass_of_methodNamed B.named) B.notSynchronized (fun w hw => atoms_spec (ws := Cond.code y cc n ret :: WS) B.pre w (List.mem_cons_of_mem _ hw)) hsz hP hK (lv_entry As hn) (fun h => (name_of_methodNamed B.named B.method).1.trans h)
end ZCB
theorem zMR.ofF {l : Launch} {y : MethodName} {cc : ByteArray} {n : Nat} {ret : Option FieldType} {fr lo : Nat} {D : va_G} {ks : Nat → ClassId} {As : List Value} {P : Heap → Prop} {v : Option Value} (hy : plainFor y = true) (hn : (lg_sl As).length ≤ n)
    (body : ∀ (p : Program) (e : Env) (s : State) (m : MethodId) (below : List Frame) (meth : Method) (c : Code) (ls : Array Slot), p.tables.exec = Jvm.exec → c.code = cc → meth.sig.returnType = ret → c.maxLocals = n → s.vm.findClass y.cls = some m.cls → meth.locks = false → (∀ w ∈ WS, w.before As.toArray s = true) → P s.heap → zK D ks s → lv_has ls n (lv_args 0 As) →
      W p l e (zRm fr lo 0 0) s m As.toArray below meth c s.heap [] 0 0 (MQ below (zQR v) As.toArray s 0 0 (fun _ => False)) (F0 m 0 ls [])) : zMR l y cc n ret fr lo D ks As P v := by
  unfold zMR Met
  refine MetFree.of_bodySF (code := cc) (maxLocals := n) (ret := ret) hy ?_ ?_
  · intro args s m h hn
    obtain ⟨meth, c, h1, h2, h3, h4, h5, h6, -, -⟩ := Cond.code_spec hn (atoms_spec (ws := Cond.code y cc n ret :: WS) h _ List.mem_cons_self)
    exact ⟨meth, c, h1, h2, h3, h4, h5, h6⟩
  · intro p e s m args below meth c s₁ B hml hv _
    obtain ⟨rfl, hP, hK⟩ := hv
    have hh0 : s₁.heap = s.heap := by rw [B.state]; rfl
    rw [lg_entry_eq]
    obtain ⟨t, a1, o, b1, b2, b3⟩ := body p e s m below meth c _ B.exec B.bytes B.returns hml (findClass_of_methodNamed B.named) B.notSynchronized (fun w hw => atoms_spec (ws := Cond.code y cc n ret :: WS) B.pre w (List.mem_cons_of_mem _ hw)) hP hK (lv_entry As hn) s₁ hh0 (Stand.of_body B)
    exact ⟨t, o, a1, b1, b2, ⟨b3.1, b3.2⟩⟩
section ZCR
variable {p : Program} {l : Launch} {e : Env} {R : Room} {s : State} {m : MethodId} {args : Array Value} {below : List Frame} {meth : Method} {c : Code} {H : Heap} {locs : List Loc} {cells slots : Nat} {Q : State → Prop}
variable {cc : ByteArray} {pc : Nat} {ls : Array Slot} {rest st0 : List Value} {D : va_G} {ks : Nat → ClassId} {A : Nat → Prop} {b : Nat}
variable {own : String} {index : Nat} {y : MethodName} {cy : ByteArray} {n2 nL : Nat} {ret2 : Option FieldType} {fr lo mc ms : Nat} {As : List Value} {P : Heap → Prop} {v : Option Value} {B : Heap → Prop} {A1 : Nat → Prop} {k : Nat}
/-! ends -/
theorem zR_l {x v : Int64} (hx : p.tables.exec = Jvm.exec) (hb : c.code = cc) (hr : meth.sig.returnType = some .long) (hlk : meth.locks = false) (hdg : decode cc pc = .ok (.lreturn, 1)) (hv : x = v) : W p l e R s m args below meth c s.heap [] 0 0 (MQ below (zQR (some (.long v))) args s 0 0 (fun _ => False)) (F0 m pc ls [.long x]) :=
  W.lret hx hb hr (fun t ht _ => ⟨by rw [hv], ht⟩) (fun _ h => nomatch h) hdg hlk
theorem zR_i {x v : Int32} (hx : p.tables.exec = Jvm.exec) (hb : c.code = cc) (hr : meth.sig.returnType = some .int) (hlk : meth.locks = false) (hdg : decode cc pc = .ok (.ireturn, 1)) (hv : x = v) : W p l e R s m args below meth c s.heap [] 0 0 (MQ below (zQR (some (.int v))) args s 0 0 (fun _ => False)) (F0 m pc ls [.int x]) :=
  W.iret hx hb hr (fun t ht _ => ⟨by rw [hv], ht⟩) (fun _ h => nomatch h) hdg hlk
theorem zR_z {x v : Int32} (hx : p.tables.exec = Jvm.exec) (hb : c.code = cc) (hr : meth.sig.returnType = some .boolean) (hlk : meth.locks = false) (hdg : decode cc pc = .ok (.ireturn, 1)) (hn : narrow .boolean (.int x) = .int x) (hv : x = v) : W p l e R s m args below meth c s.heap [] 0 0 (MQ below (zQR (some (.int v))) args s 0 0 (fun _ => False)) (F0 m pc ls [.int x]) :=
  W.zret hx hb hr hn (fun t ht _ => ⟨by rw [hv], ht⟩) (fun _ h => nomatch h) hdg hlk
theorem zR_v (hx : p.tables.exec = Jvm.exec) (hb : c.code = cc) (hr : meth.sig.returnType = none) (hlk : meth.locks = false) (hdg : decode cc pc = .ok (.return_, 1)) : W p l e R s m args below meth c s.heap [] 0 0 (MQ below (zQR none) args s 0 0 (fun _ => False)) (F0 m pc ls []) :=
  W.vret hx hb hr (fun t ht _ => ⟨rfl, ht⟩) (fun _ h => nomatch h) hdg hlk
theorem zR_a {x v : Value} {C : String} (hx : p.tables.exec = Jvm.exec) (hb : c.code = cc) (hr : meth.sig.returnType = some (.object C)) (hlk : meth.locks = false) (hdg : decode cc pc = .ok (.areturn, 1)) (hq : x = .null ∨ ∃ a, x = .ref a) (hv : x = v) : W p l e R s m args below meth c s.heap [] 0 0 (MQ below (zQR (some v)) args s 0 0 (fun _ => False)) (F0 m pc ls [x]) :=
  W.aret hx hb hr (Or.inl ⟨_, rfl⟩) hq (fun t ht _ => ⟨by rw [hv], ht⟩) (fun _ h => nomatch h) hdg hlk
theorem zW_l {x v : Int64} (hx : p.tables.exec = Jvm.exec) (hb : c.code = cc) (hr : meth.sig.returnType = some .long) (hlk : meth.locks = false) (hS : va_S A s.heap H locs) (hc : cells ≤ mc) (hs : slots ≤ ms) (hdg : decode cc pc = .ok (.lreturn, 1)) (hv : x = v) (hB : B H) : W p l e R s m args below meth c H locs cells slots (MQ below (zQW (some (.long v)) B A) args s mc ms A) (F0 m pc ls [.long x]) :=
  W.widen hc hs (W.lret hx hb hr (fun t ht _ => ⟨by rw [hv], by rw [ht]; exact hB, hS.F ht⟩) hS.2.2 hdg hlk)
theorem zW_i {x v : Int32} (hx : p.tables.exec = Jvm.exec) (hb : c.code = cc) (hr : meth.sig.returnType = some .int) (hlk : meth.locks = false) (hS : va_S A s.heap H locs) (hc : cells ≤ mc) (hs : slots ≤ ms) (hdg : decode cc pc = .ok (.ireturn, 1)) (hv : x = v) (hB : B H) : W p l e R s m args below meth c H locs cells slots (MQ below (zQW (some (.int v)) B A) args s mc ms A) (F0 m pc ls [.int x]) :=
  W.widen hc hs (W.iret hx hb hr (fun t ht _ => ⟨by rw [hv], by rw [ht]; exact hB, hS.F ht⟩) hS.2.2 hdg hlk)
theorem zW_z {x v : Int32} (hx : p.tables.exec = Jvm.exec) (hb : c.code = cc) (hr : meth.sig.returnType = some .boolean) (hlk : meth.locks = false) (hS : va_S A s.heap H locs) (hc : cells ≤ mc) (hs : slots ≤ ms) (hdg : decode cc pc = .ok (.ireturn, 1)) (hn : narrow .boolean (.int x) = .int x) (hv : x = v) (hB : B H) : W p l e R s m args below meth c H locs cells slots (MQ below (zQW (some (.int v)) B A) args s mc ms A) (F0 m pc ls [.int x]) :=
  W.widen hc hs (W.zret hx hb hr hn (fun t ht _ => ⟨by rw [hv], by rw [ht]; exact hB, hS.F ht⟩) hS.2.2 hdg hlk)
theorem zW_v (hx : p.tables.exec = Jvm.exec) (hb : c.code = cc) (hr : meth.sig.returnType = none) (hlk : meth.locks = false) (hS : va_S A s.heap H locs) (hc : cells ≤ mc) (hs : slots ≤ ms) (hdg : decode cc pc = .ok (.return_, 1)) (hB : B H) : W p l e R s m args below meth c H locs cells slots (MQ below (zQW none B A) args s mc ms A) (F0 m pc ls []) :=
  W.widen hc hs (W.vret hx hb hr (fun t ht _ => ⟨rfl, by rw [ht]; exact hB, hS.F ht⟩) hS.2.2 hdg hlk)
/-! behind a call -/
theorem z_backR1 {val : Value} {a : Array Value} (hr : va_Run p l e R s m args below meth c H locs cells slots 0 0 (F0 m pc ls st0) rest (zQR (some val) a) (fun _ => False))
    (kk : W p l e R s m args below meth c H locs cells slots Q (F0 m (pc + 3) ls (val :: rest))) : W p l e R s m args below meth c H locs cells slots Q (F0 m pc ls st0) := by
  intro T hT X
  obtain ⟨v, st₀, t, T', L, h0, X', hL, e1, e2, ⟨hv, hh⟩, st⟩ := hr T hT X
  cases hv
  obtain ⟨t2, a1, b1⟩ := kk T' (by rw [e1, hh, h0]) (Stand.forget X' (fun q h => (hL q h).elim))
  exact ⟨t2, st t2 a1, b1⟩
theorem z_backR0 {a : Array Value} (hr : va_Run p l e R s m args below meth c H locs cells slots 0 0 (F0 m pc ls st0) rest (zQR none a) (fun _ => False))
    (kk : W p l e R s m args below meth c H locs cells slots Q (F0 m (pc + 3) ls rest)) : W p l e R s m args below meth c H locs cells slots Q (F0 m pc ls st0) := by
  intro T hT X
  obtain ⟨v, st₀, t, T', L, h0, X', hL, e1, e2, ⟨hv, hh⟩, st⟩ := hr T hT X
  cases hv
  obtain ⟨t2, a1, b1⟩ := kk T' (by rw [e1, hh, h0]) (Stand.forget X' (fun q h => (hL q h).elim))
  exact ⟨t2, st t2 a1, b1⟩
theorem z_keep {st₀ t T' : State} {L : List Loc} (h0 : st₀.heap = H) (e1 : T'.heap = t.heap) (hS : va_S A s.heap H locs) (hA : ∀ q, A1 q → A q) (hL : ∀ q ∈ L, A1 q.base) (hF : va_F A1 st₀ t) : va_S A s.heap T'.heap (locs ++ L) := by
  obtain ⟨hz, hk⟩ := hF
  rw [h0] at hz hk
  refine ⟨Nat.le_trans hS.1 (by rw [e1]; exact hz), fun q h1 h2 => ?_, fun q hq => ?_⟩
  · rw [e1, hk q (Nat.lt_of_lt_of_le h1 hS.1) (fun z => h2 (hA q z))]
    exact hS.2.1 q h1 h2
  · rcases List.mem_append.mp hq with h | h
    · exact hS.2.2 q h
    · exact hA _ (hL q h)
theorem z_backW1 {val : Value} {a : Array Value} (hr : va_Run p l e R s m args below meth c H locs cells slots mc ms (F0 m pc ls st0) rest (zQW (some val) B A1 a) A1) (hS : va_S A s.heap H locs) (hA : ∀ q, A1 q → A q)
    (kk : ∀ (H1 : Heap) (locs1 : List Loc), B H1 → H.size ≤ H1.size → (∀ q : Nat, q < H.size → ¬ A1 q → H1[q]? = H[q]?) → va_S A s.heap H1 locs1 → W p l e R s m args below meth c H1 locs1 (cells + mc) (slots + ms) Q (F0 m (pc + 3) ls (val :: rest))) : W p l e R s m args below meth c H locs cells slots Q (F0 m pc ls st0) := by
  intro T hT X
  obtain ⟨v, st₀, t, T', L, h0, X', hL, e1, e2, ⟨hv, hB, hF⟩, st⟩ := hr T hT X
  cases hv
  obtain ⟨t2, a1, b1⟩ := kk T'.heap (locs ++ L) (by rw [e1]; exact hB) (by rw [e1, ← h0]; exact hF.1) (fun q h1 h2 => by rw [e1, ← h0]; exact hF.2 q (by rw [h0]; exact h1) h2) (z_keep h0 e1 hS hA hL hF) T' rfl X'
  exact ⟨t2, st t2 a1, b1⟩
theorem z_backW0 {a : Array Value} (hr : va_Run p l e R s m args below meth c H locs cells slots mc ms (F0 m pc ls st0) rest (zQW none B A1 a) A1) (hS : va_S A s.heap H locs) (hA : ∀ q, A1 q → A q)
    (kk : ∀ (H1 : Heap) (locs1 : List Loc), B H1 → H.size ≤ H1.size → (∀ q : Nat, q < H.size → ¬ A1 q → H1[q]? = H[q]?) → va_S A s.heap H1 locs1 → W p l e R s m args below meth c H1 locs1 (cells + mc) (slots + ms) Q (F0 m (pc + 3) ls rest)) : W p l e R s m args below meth c H locs cells slots Q (F0 m pc ls st0) := by
  intro T hT X
  obtain ⟨v, st₀, t, T', L, h0, X', hL, e1, e2, ⟨hv, hB, hF⟩, st⟩ := hr T hT X
  cases hv
  obtain ⟨t2, a1, b1⟩ := kk T'.heap (locs ++ L) (by rw [e1]; exact hB) (by rw [e1, ← h0]; exact hF.1) (fun q h1 h2 => by rw [e1, ← h0]; exact hF.2 q (by rw [h0]; exact h1) h2) (z_keep h0 e1 hS hA hL hF) T' rfl X'
  exact ⟨t2, st t2 a1, b1⟩
/-! runs -/
abbrev zFx (p : Program) (m : MethodId) (c : Code) (cc : ByteArray) (nL : Nat) (s : State) (args : Array Value) (own : String) : Prop := CallFix p m c cc nL s args WS own
variable {Pc : Array Value → State → Prop} {Qc : Array Value → State → Outcome → State → Prop} {free : Addr → Prop}
theorem z_runS (F : zFx p m c cc nL s args own) (hM : Met l y (Cond.code y cy n2 ret2 :: WS) (zRm fr lo mc ms) Pc Qc mc ms free) (w : zcS own index y cy n2 ret2 k) (hp : PreS s H Pc As) (hn : As.length = k) (hR : fr + 1 ≤ R.frames ∧ 8 + (n2 + 11) + lo ≤ R.locals) (hsz : ls.size = nL) (hst : st0 = As.reverse ++ rest) (hW : (rest.map fun v => v.category).sum ≤ 8) (hdg : decode cc pc = .ok (.invokestatic index, 3)) (hf : cells + mc ≤ R.cells ∧ slots + ms ≤ R.slots) :
    va_Run p l e R s m args below meth c H locs cells slots mc ms (F0 m pc ls st0) rest (Qc As.toArray) free :=
  va_runS F hM ⟨callB_of k F.2.2.2.2 (z_good w.2.2.2.1) rfl rfl rfl (F.2.2.2.2 _ w.2.2.1) (F.2.2.2.2 _ w.1) w.2.2.2.2 hR, F.2.2.2.2 _ w.2.1⟩ hp rfl hn hsz hst (lv_room hW) hdg hf
theorem z_runSN (F : zFx p m c cc nL s args own) (hK : zK D ks s) (hM : Met l y (Cond.code y cy n2 ret2 :: WS) (zRm fr lo mc ms) Pc Qc mc ms free) (w : zcSN own index y cy n2 ret2 k) (hp : PreS s H Pc As) (hn : As.length = k) (hR : fr + 1 ≤ R.frames ∧ 8 + (n2 + 11) + lo ≤ R.locals) (hsz : ls.size = nL) (hst : st0 = As.reverse ++ rest) (hW : (rest.map fun v => v.category).sum ≤ 8) (hdg : decode cc pc = .ok (.invokestatic index, 3)) (hf : cells + mc ≤ R.cells ∧ slots + ms ≤ R.slots) :
    va_Run p l e R s m args below meth c H locs cells slots mc ms (F0 m pc ls st0) rest (Qc As.toArray) free :=
  va_runSN F hM ⟨va_cnB k F.2.2.2.2 (z_good w.2.2.2.1) rfl rfl rfl (hK.2 _ w.1) (F.2.2.2.2 _ w.2.2.1) w.2.2.2.2 hR, F.2.2.2.2 _ w.2.1, trivial⟩ hp rfl hn hsz hst (lv_room hW) hdg hf
theorem z_runV (F : zFx p m c cc nL s args own) (hM : Met l y (Cond.code y cy n2 ret2 :: WS) (zRm fr lo mc ms) Pc Qc mc ms free) (w : zcV own index y cy n2 ret2 k) (hp : PreV s H y.cls b Pc As) (hn : As.length = k) (hR : fr + 1 ≤ R.frames ∧ 8 + (n2 + 11) + lo ≤ R.locals) (hsz : ls.size = nL) (hst : st0 = As.reverse ++ .ref b :: rest) (hW : (rest.map fun v => v.category).sum ≤ 8) (hdg : decode cc pc = .ok (.invokevirtual index, 3)) (hf : cells + mc ≤ R.cells ∧ slots + ms ≤ R.slots) :
    va_Run p l e R s m args below meth c H locs cells slots mc ms (F0 m pc ls st0) rest (Qc (Value.ref b :: As).toArray) free :=
  va_runV F hM ⟨callB_of k F.2.2.2.2 (z_good w.2.2.2.2.1) rfl rfl rfl (F.2.2.2.2 _ w.2.2.2.1) (F.2.2.2.2 _ w.1) w.2.2.2.2.2 hR, F.2.2.2.2 _ w.2.1, F.2.2.2.2 _ w.2.2.1⟩ hp rfl hn hsz hst (lv_room hW) hdg hf
theorem z_runVN (F : zFx p m c cc nL s args own) (hK : zK D ks s) (hM : Met l y (Cond.code y cy n2 ret2 :: WS) (zRm fr lo mc ms) Pc Qc mc ms free) (w : zcVN own index y cy n2 ret2 k) (hp : PreV s H y.cls b Pc As) (hn : As.length = k) (hR : fr + 1 ≤ R.frames ∧ 8 + (n2 + 11) + lo ≤ R.locals) (hsz : ls.size = nL) (hst : st0 = As.reverse ++ .ref b :: rest) (hW : (rest.map fun v => v.category).sum ≤ 8) (hdg : decode cc pc = .ok (.invokevirtual index, 3)) (hf : cells + mc ≤ R.cells ∧ slots + ms ≤ R.slots) :
    va_Run p l e R s m args below meth c H locs cells slots mc ms (F0 m pc ls st0) rest (Qc (Value.ref b :: As).toArray) free :=
  va_runVN F hM ⟨va_cnB k F.2.2.2.2 (z_good w.2.2.2.2.1) rfl rfl rfl (hK.2 _ w.1) (F.2.2.2.2 _ w.2.2.2.1) w.2.2.2.2.2 hR, F.2.2.2.2 _ w.2.1, F.2.2.2.2 _ w.2.2.1⟩ hp rfl hn hsz hst (lv_room hW) hdg hf
theorem z_runI (F : zFx p m c cc nL s args own) (hM : Met l y (Cond.code y cy n2 none :: WS) (zRm fr lo mc ms) Pc Qc mc ms free) (w : zcI own index y cy n2 k) (hp : PreS s H Pc (.ref b :: As)) (hn : As.length = k) (hR : fr + 1 ≤ R.frames ∧ 8 + (n2 + 11) + lo ≤ R.locals) (hsz : ls.size = nL) (hst : st0 = As.reverse ++ .ref b :: rest) (hW : (rest.map fun v => v.category).sum ≤ 8) (hdg : decode cc pc = .ok (.invokespecial index, 3)) (hf : cells + mc ≤ R.cells ∧ slots + ms ≤ R.slots) :
    va_Run p l e R s m args below meth c H locs cells slots mc ms (F0 m pc ls st0) rest (Qc (Value.ref b :: As).toArray) free :=
  va_runI F hM ⟨callB_of k F.2.2.2.2 (z_good w.2.2.2.1) rfl rfl rfl (F.2.2.2.2 _ w.2.2.1) (F.2.2.2.2 _ w.1) w.2.2.2.2.1 hR, w.2.2.2.2.2, F.2.2.2.2 _ w.2.1⟩ hp rfl hn hsz hst (lv_room hW) hdg hf
theorem z_runIN (F : zFx p m c cc nL s args own) (hK : zK D ks s) (hM : Met l y (Cond.code y cy n2 none :: WS) (zRm fr lo mc ms) Pc Qc mc ms free) (w : zcIN own index y cy n2 k) (hp : PreS s H Pc (.ref b :: As)) (hn : As.length = k) (hR : fr + 1 ≤ R.frames ∧ 8 + (n2 + 11) + lo ≤ R.locals) (hsz : ls.size = nL) (hst : st0 = As.reverse ++ .ref b :: rest) (hW : (rest.map fun v => v.category).sum ≤ 8) (hdg : decode cc pc = .ok (.invokespecial index, 3)) (hf : cells + mc ≤ R.cells ∧ slots + ms ≤ R.slots) :
    va_Run p l e R s m args below meth c H locs cells slots mc ms (F0 m pc ls st0) rest (Qc (Value.ref b :: As).toArray) free :=
  va_runIN F hM ⟨va_cnB k F.2.2.2.2 (z_good w.2.2.2.1) rfl rfl rfl (hK.2 _ w.1) (F.2.2.2.2 _ w.2.2.1) w.2.2.2.2.1 hR, w.2.2.2.2.2, F.2.2.2.2 _ w.2.1⟩ hp rfl hn hsz hst (lv_room hW) hdg hf
/-! what a call's start wants -/
theorem z_preR (hK : zK D ks s) (hP : P H) : PreS s H (zPR D ks As P) As := ⟨zPR.blind, fun U hU hW => ⟨rfl, by rw [hU]; exact hP, hK.warm hW⟩⟩
theorem z_preW (hK : zK D ks s) (hP : P H) : PreS s H (zPW D ks H.size As P) As := ⟨zPW.blind, fun U hU hW => ⟨rfl, by rw [hU], by rw [hU]; exact hP, hK.warm hW⟩⟩
theorem z_recv {C : String} (hK : zK D ks s) {ci : Nat} {T : u_T} {N : Nat} {fs : List Value} (hat : va_at D vwCl (b, .inr (ci, fs)) H) (hc : vwCl[ci]? = some (C, T, N)) : ∃ cell : Cell, H[b]? = some cell ∧ cell.vm.isStatics = false ∧ s.vm.findClass C = some cell.cls := va_recv hK.1 (z1P hat) hc (q0 := 0) rfl
theorem z_preRV {C : String} (hK : zK D ks s) (hP : P H) {ci : Nat} {T : u_T} {N : Nat} {fs : List Value} (hat : va_at D vwCl (b, .inr (ci, fs)) H) (hc : vwCl[ci]? = some (C, T, N)) : PreV s H C b (zPR D ks (.ref b :: As) P) As := ⟨zPR.blind, z_recv hK hat hc, fun U hU hW => ⟨rfl, by rw [hU]; exact hP, hK.warm hW⟩⟩
theorem z_preWV {C : String} (hK : zK D ks s) (hP : P H) {ci : Nat} {T : u_T} {N : Nat} {fs : List Value} (hat : va_at D vwCl (b, .inr (ci, fs)) H) (hc : vwCl[ci]? = some (C, T, N)) : PreV s H C b (zPW D ks H.size (.ref b :: As) P) As := ⟨zPW.blind, z_recv hK hat hc, fun U hU hW => ⟨rfl, by rw [hU], by rw [hU]; exact hP, hK.warm hW⟩⟩
end ZCR
end ZC
end
section
section ZW
def u2 {α : Type} (F : Nat → Nat → α) (k i : Nat) (v : α) : Nat → Nat → α := fun a => if a = k then (fun b => if b = i then v else F a b) else F a
theorem u2_s {α : Type} {F : Nat → Nat → α} {k i : Nat} {v : α} : u2 F k i v k i = v := by simp [u2]
theorem u2_n {α : Type} {F : Nat → Nat → α} {k i j : Nat} {v : α} (h : j ≠ i) : u2 F k i v k j = F k j := by simp [u2, h]
theorem u2_k {α : Type} {F : Nat → Nat → α} {k i a : Nat} {v : α} (h : a ≠ k) : u2 F k i v a = F a := by simp [u2, h]
theorem u2_if {α : Type} {F : Nat → Nat → α} {k i j : Nat} {v : α} : u2 F k i v k j = if j = i then v else F k j := by simp [u2]
abbrev eFund (v : Int64) : va_E := .inr (0, [.long v])
abbrev eGen (b t : Int32) (f : Nat) (pr : Int64) : va_E := .inr (1, [.int b, .int t, .ref f, .long pr])
abbrev ePol (g : Nat) (pr su : Int32) (al : Nat) (bo : Int64) (st : Int32) (pd : Int64) : va_E := .inr (2, [.ref g, .int pr, .int su, .ref al, .long bo, .int st, .long pd])
abbrev eOff (ad : Nat → Nat) (X : Nat → Int32) (Y : Nat → Int64) : va_E := .inr (3, [.ref (ad 14), .ref (ad 15), .ref (ad 16), .ref (ad 17), .int (X 0), .int (X 1), .int (X 2), .int (X 3), .int (X 4), .int (X 5), .int (X 6), .int (X 7), .long (Y 0), .long (Y 1)])
abbrev eMod (ad : Nat → Nat) (X : Nat → Int32) (Y : Nat → Int64) : va_E := .inr (4, [.int (X 0), .int (X 1), .int (X 2), .int (X 3), .int (X 4), .int (X 5), .int (X 6), .ref (ad 1), .ref (ad 2), .ref (ad 3), .ref (ad 4), .ref (ad 5), .ref (ad 6), .ref (ad 7), .ref (ad 8), .ref (ad 9), .ref (ad 10), .ref (ad 11), .long (Y 0), .long (Y 1), .int (X 7)])
def rPol (ad : Nat → Nat) (np : Nat) : Nat → Option Nat := fun k => if k < np then some (ad (22 + 4 * k)) else none
def rGen (ad : Nat → Nat) (ng : Nat) : Nat → Option Nat := fun k => if k < ng then some (ad (20 + 4 * k)) else none
abbrev aI (c : ClassId) (n : Nat) (f : Nat → Int32) : va_E := .inl (c, n, .inl f)
abbrev aJ (c : ClassId) (n : Nat) (f : Nat → Int64) : va_E := .inl (c, n, .inr (.inl f))
abbrev aQ (c : ClassId) (n : Nat) (f : Nat → Option Nat) : va_E := .inl (c, n, .inr (.inr (.inr (.inr f))))
def gLo (ks : Nat → ClassId) (ad : Nat → Nat) (np ng : Nat) (MI : Nat → Nat → Int32) (MJ : Nat → Nat → Int64) (X : Nat → Int32) (Y lr rb : Nat → Int64) (r : Nat) : va_E := match r with
  | 0 => eMod ad (MI 0) (MJ 0)
  | 1 => aI (ks 0) 30 (MI 1)
  | 2 => aI (ks 0) 30 (MI 2)
  | 3 => aI (ks 0) 30 (MI 3)
  | 4 => aI (ks 0) 30 (MI 4)
  | 5 => aI (ks 0) 30 (MI 5)
  | 6 => aI (ks 0) 30 (MI 6)
  | 7 => aI (ks 0) 30 (MI 7)
  | 8 => aJ (ks 1) 30 (MJ 1)
  | 9 => aJ (ks 1) 30 (MJ 2)
  | 10 => aI (ks 0) 21 (MI 8)
  | 11 => aI (ks 0) 21 (MI 9)
  | 12 => aJ (ks 1) 1 (MJ 3)
  | 13 => eOff ad X Y
  | 14 => aQ (ks 3) 30 (rPol ad np)
  | 15 => aQ (ks 2) 30 (rGen ad ng)
  | 16 => aJ (ks 1) 21 lr
  | 17 => aJ (ks 1) 21 rb
  | _ => eFund 0
def gHi (ad : Nat → Nat) (G : Nat → Nat) (XI : Nat → Nat → Int32) (XJ : Nat → Nat → Int64) (k i : Nat) : va_E := match k with
  | 0 => eGen (XI 11 i) (XI 12 i) (ad (21 + 4 * i)) (XJ 7 i)
  | 1 => eFund (XJ 8 i)
  | 2 => ePol (ad (20 + 4 * G i)) (XI 13 i) (XI 14 i) (ad (23 + 4 * i)) (XJ 10 i) (XI 15 i) (XJ 11 i)
  | _ => eFund (XJ 9 i)
def gS (ks : Nat → ClassId) (ad : Nat → Nat) (np ng : Nat) (G : Nat → Nat) (MI : Nat → Nat → Int32) (MJ : Nat → Nat → Int64) (XI : Nat → Nat → Int32) (XJ : Nat → Nat → Int64) (r : Nat) : va_E :=
  if 20 ≤ r then gHi ad G XI XJ ((r - 20) % 4) ((r - 20) / 4) else gLo ks ad np ng MI MJ (XI 10) (XJ 4) (XJ 5) (XJ 6) r
/-- what of the roles is there -/
def zIn (Rs : List Nat) (np ng : Nat) : Prop := (∀ r, r < 18 → r ∈ Rs) ∧ (∀ i, i < ng → 20 + 4 * i ∈ Rs ∧ 21 + 4 * i ∈ Rs) ∧ ∀ j, j < np → 22 + 4 * j ∈ Rs ∧ 23 + 4 * j ∈ Rs
section
variable {ks : Nat → ClassId} {ad : Nat → Nat} {np ng : Nat} {G : Nat → Nat} {MI : Nat → Nat → Int32} {MJ : Nat → Nat → Int64} {XI : Nat → Nat → Int32} {XJ : Nat → Nat → Int64}
theorem gS_0 {i : Nat} : gS ks ad np ng G MI MJ XI XJ (20 + 4 * i) = gHi ad G XI XJ 0 i := by
  have h1 : (20 + 4 * i - 20) % 4 = 0 := by omega
  have h2 : (20 + 4 * i - 20) / 4 = i := by omega
  have h3 : 20 ≤ 20 + 4 * i := by omega
  simp only [gS, h1, h2, if_pos h3]
theorem gS_1 {i : Nat} : gS ks ad np ng G MI MJ XI XJ (21 + 4 * i) = gHi ad G XI XJ 1 i := by
  have h1 : (21 + 4 * i - 20) % 4 = 1 := by omega
  have h2 : (21 + 4 * i - 20) / 4 = i := by omega
  have h3 : 20 ≤ 21 + 4 * i := by omega
  simp only [gS, h1, h2, if_pos h3]
theorem gS_2 {i : Nat} : gS ks ad np ng G MI MJ XI XJ (22 + 4 * i) = gHi ad G XI XJ 2 i := by
  have h1 : (22 + 4 * i - 20) % 4 = 2 := by omega
  have h2 : (22 + 4 * i - 20) / 4 = i := by omega
  have h3 : 20 ≤ 22 + 4 * i := by omega
  simp only [gS, h1, h2, if_pos h3]
theorem gS_3 {i : Nat} : gS ks ad np ng G MI MJ XI XJ (23 + 4 * i) = gHi ad G XI XJ 3 i := by
  have h1 : (23 + 4 * i - 20) % 4 = 3 := by omega
  have h2 : (23 + 4 * i - 20) / 4 = i := by omega
  have h3 : 20 ≤ 23 + 4 * i := by omega
  simp only [gS, h1, h2, if_pos h3]
theorem r_cases (r : Nat) : r < 20 ∨ (∃ i, r = 20 + 4 * i) ∨ (∃ i, r = 21 + 4 * i) ∨ (∃ i, r = 22 + 4 * i) ∨ ∃ i, r = 23 + 4 * i := by
  rcases Nat.lt_or_ge r 20 with h | h
  · exact Or.inl h
  · have h4 : (r - 20) % 4 < 4 := Nat.mod_lt _ (by decide)
    have h5 := Nat.div_add_mod (r - 20) 4
    have h6 : (r - 20) % 4 = 0 ∨ (r - 20) % 4 = 1 ∨ (r - 20) % 4 = 2 ∨ (r - 20) % 4 = 3 := by omega
    rcases h6 with h6 | h6 | h6 | h6
    · exact Or.inr (Or.inl ⟨(r - 20) / 4, by omega⟩)
    · exact Or.inr (Or.inr (Or.inl ⟨(r - 20) / 4, by omega⟩))
    · exact Or.inr (Or.inr (Or.inr (Or.inl ⟨(r - 20) / 4, by omega⟩)))
    · exact Or.inr (Or.inr (Or.inr (Or.inr ⟨(r - 20) / 4, by omega⟩)))
theorem gS_lo {r : Nat} (h : r < 20) : gS ks ad np ng G MI MJ XI XJ r = gLo ks ad np ng MI MJ (XI 10) (XJ 4) (XJ 5) (XJ 6) r := by simp only [gS, if_neg (Nat.not_le.mpr h)]
theorem r_20 {r : Nat} (h : r < 20) : r = 0 ∨ r = 1 ∨ r = 2 ∨ r = 3 ∨ r = 4 ∨ r = 5 ∨ r = 6 ∨ r = 7 ∨ r = 8 ∨ r = 9 ∨ r = 10 ∨ r = 11 ∨ r = 12 ∨ r = 13 ∨ r = 14 ∨ r = 15 ∨ r = 16 ∨ r = 17 ∨ r = 18 ∨ r = 19 := by omega
/-- a write to a low role -/
theorem gS_upLo {MI' : Nat → Nat → Int32} {MJ' : Nat → Nat → Int64} {XI' : Nat → Nat → Int32} {XJ' : Nat → Nat → Int64} {q : Nat} {e : va_E} (hq : q < 20) (h1 : gLo ks ad np ng MI' MJ' (XI' 10) (XJ' 4) (XJ' 5) (XJ' 6) q = e) (h2 : ∀ r, r < 20 → r ≠ q → gLo ks ad np ng MI' MJ' (XI' 10) (XJ' 4) (XJ' 5) (XJ' 6) r = gLo ks ad np ng MI MJ (XI 10) (XJ 4) (XJ 5) (XJ 6) r) (h3 : ∀ k i, gHi ad G XI' XJ' k i = gHi ad G XI XJ k i) :
    va_up (gS ks ad np ng G MI MJ XI XJ) q e = gS ks ad np ng G MI' MJ' XI' XJ' := by
  funext r
  by_cases hr : r = q
  · subst hr
    rw [va_up_self, gS_lo hq, h1]
  · rw [va_up_ne _ _ hr]
    by_cases h : r < 20
    · rw [gS_lo h, gS_lo h, h2 r h hr]
    · simp only [gS, if_pos (Nat.not_lt.mp h), h3]
/-- a write to a high role -/
theorem gS_upHi {XI' : Nat → Nat → Int32} {XJ' : Nat → Nat → Int64} {k i : Nat} {e : va_E} (hk : k < 4) (h1 : gHi ad G XI' XJ' k i = e) (h2 : ∀ a j, a < 4 → (a ≠ k ∨ j ≠ i) → gHi ad G XI' XJ' a j = gHi ad G XI XJ a j) (h3 : XI' 10 = XI 10) (h4 : XJ' 4 = XJ 4) (h5 : XJ' 5 = XJ 5) (h6 : XJ' 6 = XJ 6) :
    va_up (gS ks ad np ng G MI MJ XI XJ) (20 + k + 4 * i) e = gS ks ad np ng G MI MJ XI' XJ' := by
  funext r
  by_cases hr : r = 20 + k + 4 * i
  · subst hr
    have a1 : (20 + k + 4 * i - 20) % 4 = k := by omega
    have a2 : (20 + k + 4 * i - 20) / 4 = i := by omega
    have a3 : 20 ≤ 20 + k + 4 * i := by omega
    rw [va_up_self]
    simp only [gS, a1, a2, if_pos a3, h1]
  · rw [va_up_ne _ _ hr]
    by_cases h : r < 20
    · rw [gS_lo h, gS_lo h, h3, h4, h5, h6]
    · simp only [gS, if_pos (Nat.not_lt.mp h)]
      rw [h2 _ _ (Nat.mod_lt _ (by decide)) (by omega)]
theorem gu_o4 {v : Int32} : va_up (gS ks ad np ng G MI MJ XI XJ) 13 (.inr (3, [.ref (ad 14), .ref (ad 15), .ref (ad 16), .ref (ad 17), .int v, .int (XI 10 1), .int (XI 10 2), .int (XI 10 3), .int (XI 10 4), .int (XI 10 5), .int (XI 10 6), .int (XI 10 7), .long (XJ 4 0), .long (XJ 4 1)])) = gS ks ad np ng G MI MJ (u2 XI 10 0 v) XJ := gS_upLo (by decide) (by simp [gLo, u2]) (fun r h hn => by rcases r_20 h with rfl | rfl | rfl | rfl | rfl | rfl | rfl | rfl | rfl | rfl | rfl | rfl | rfl | rfl | rfl | rfl | rfl | rfl | rfl | rfl <;> first | exact absurd rfl hn | simp [gLo, u2]) (fun k i => by first | rfl | (unfold gHi; simp [u2]))
theorem gu_o5 {v : Int32} : va_up (gS ks ad np ng G MI MJ XI XJ) 13 (.inr (3, [.ref (ad 14), .ref (ad 15), .ref (ad 16), .ref (ad 17), .int (XI 10 0), .int v, .int (XI 10 2), .int (XI 10 3), .int (XI 10 4), .int (XI 10 5), .int (XI 10 6), .int (XI 10 7), .long (XJ 4 0), .long (XJ 4 1)])) = gS ks ad np ng G MI MJ (u2 XI 10 1 v) XJ := gS_upLo (by decide) (by simp [gLo, u2]) (fun r h hn => by rcases r_20 h with rfl | rfl | rfl | rfl | rfl | rfl | rfl | rfl | rfl | rfl | rfl | rfl | rfl | rfl | rfl | rfl | rfl | rfl | rfl | rfl <;> first | exact absurd rfl hn | simp [gLo, u2]) (fun k i => by first | rfl | (unfold gHi; simp [u2]))
theorem gu_o6 {v : Int32} : va_up (gS ks ad np ng G MI MJ XI XJ) 13 (.inr (3, [.ref (ad 14), .ref (ad 15), .ref (ad 16), .ref (ad 17), .int (XI 10 0), .int (XI 10 1), .int v, .int (XI 10 3), .int (XI 10 4), .int (XI 10 5), .int (XI 10 6), .int (XI 10 7), .long (XJ 4 0), .long (XJ 4 1)])) = gS ks ad np ng G MI MJ (u2 XI 10 2 v) XJ := gS_upLo (by decide) (by simp [gLo, u2]) (fun r h hn => by rcases r_20 h with rfl | rfl | rfl | rfl | rfl | rfl | rfl | rfl | rfl | rfl | rfl | rfl | rfl | rfl | rfl | rfl | rfl | rfl | rfl | rfl <;> first | exact absurd rfl hn | simp [gLo, u2]) (fun k i => by first | rfl | (unfold gHi; simp [u2]))
theorem gu_o7 {v : Int32} : va_up (gS ks ad np ng G MI MJ XI XJ) 13 (.inr (3, [.ref (ad 14), .ref (ad 15), .ref (ad 16), .ref (ad 17), .int (XI 10 0), .int (XI 10 1), .int (XI 10 2), .int v, .int (XI 10 4), .int (XI 10 5), .int (XI 10 6), .int (XI 10 7), .long (XJ 4 0), .long (XJ 4 1)])) = gS ks ad np ng G MI MJ (u2 XI 10 3 v) XJ := gS_upLo (by decide) (by simp [gLo, u2]) (fun r h hn => by rcases r_20 h with rfl | rfl | rfl | rfl | rfl | rfl | rfl | rfl | rfl | rfl | rfl | rfl | rfl | rfl | rfl | rfl | rfl | rfl | rfl | rfl <;> first | exact absurd rfl hn | simp [gLo, u2]) (fun k i => by first | rfl | (unfold gHi; simp [u2]))
theorem gu_o8 {v : Int32} : va_up (gS ks ad np ng G MI MJ XI XJ) 13 (.inr (3, [.ref (ad 14), .ref (ad 15), .ref (ad 16), .ref (ad 17), .int (XI 10 0), .int (XI 10 1), .int (XI 10 2), .int (XI 10 3), .int v, .int (XI 10 5), .int (XI 10 6), .int (XI 10 7), .long (XJ 4 0), .long (XJ 4 1)])) = gS ks ad np ng G MI MJ (u2 XI 10 4 v) XJ := gS_upLo (by decide) (by simp [gLo, u2]) (fun r h hn => by rcases r_20 h with rfl | rfl | rfl | rfl | rfl | rfl | rfl | rfl | rfl | rfl | rfl | rfl | rfl | rfl | rfl | rfl | rfl | rfl | rfl | rfl <;> first | exact absurd rfl hn | simp [gLo, u2]) (fun k i => by first | rfl | (unfold gHi; simp [u2]))
theorem gu_o9 {v : Int32} : va_up (gS ks ad np ng G MI MJ XI XJ) 13 (.inr (3, [.ref (ad 14), .ref (ad 15), .ref (ad 16), .ref (ad 17), .int (XI 10 0), .int (XI 10 1), .int (XI 10 2), .int (XI 10 3), .int (XI 10 4), .int v, .int (XI 10 6), .int (XI 10 7), .long (XJ 4 0), .long (XJ 4 1)])) = gS ks ad np ng G MI MJ (u2 XI 10 5 v) XJ := gS_upLo (by decide) (by simp [gLo, u2]) (fun r h hn => by rcases r_20 h with rfl | rfl | rfl | rfl | rfl | rfl | rfl | rfl | rfl | rfl | rfl | rfl | rfl | rfl | rfl | rfl | rfl | rfl | rfl | rfl <;> first | exact absurd rfl hn | simp [gLo, u2]) (fun k i => by first | rfl | (unfold gHi; simp [u2]))
theorem gu_o10 {v : Int32} : va_up (gS ks ad np ng G MI MJ XI XJ) 13 (.inr (3, [.ref (ad 14), .ref (ad 15), .ref (ad 16), .ref (ad 17), .int (XI 10 0), .int (XI 10 1), .int (XI 10 2), .int (XI 10 3), .int (XI 10 4), .int (XI 10 5), .int v, .int (XI 10 7), .long (XJ 4 0), .long (XJ 4 1)])) = gS ks ad np ng G MI MJ (u2 XI 10 6 v) XJ := gS_upLo (by decide) (by simp [gLo, u2]) (fun r h hn => by rcases r_20 h with rfl | rfl | rfl | rfl | rfl | rfl | rfl | rfl | rfl | rfl | rfl | rfl | rfl | rfl | rfl | rfl | rfl | rfl | rfl | rfl <;> first | exact absurd rfl hn | simp [gLo, u2]) (fun k i => by first | rfl | (unfold gHi; simp [u2]))
theorem gu_o11 {v : Int32} : va_up (gS ks ad np ng G MI MJ XI XJ) 13 (.inr (3, [.ref (ad 14), .ref (ad 15), .ref (ad 16), .ref (ad 17), .int (XI 10 0), .int (XI 10 1), .int (XI 10 2), .int (XI 10 3), .int (XI 10 4), .int (XI 10 5), .int (XI 10 6), .int v, .long (XJ 4 0), .long (XJ 4 1)])) = gS ks ad np ng G MI MJ (u2 XI 10 7 v) XJ := gS_upLo (by decide) (by simp [gLo, u2]) (fun r h hn => by rcases r_20 h with rfl | rfl | rfl | rfl | rfl | rfl | rfl | rfl | rfl | rfl | rfl | rfl | rfl | rfl | rfl | rfl | rfl | rfl | rfl | rfl <;> first | exact absurd rfl hn | simp [gLo, u2]) (fun k i => by first | rfl | (unfold gHi; simp [u2]))
theorem gu_o12 {v : Int64} : va_up (gS ks ad np ng G MI MJ XI XJ) 13 (.inr (3, [.ref (ad 14), .ref (ad 15), .ref (ad 16), .ref (ad 17), .int (XI 10 0), .int (XI 10 1), .int (XI 10 2), .int (XI 10 3), .int (XI 10 4), .int (XI 10 5), .int (XI 10 6), .int (XI 10 7), .long v, .long (XJ 4 1)])) = gS ks ad np ng G MI MJ XI (u2 XJ 4 0 v) := gS_upLo (by decide) (by simp [gLo, u2]) (fun r h hn => by rcases r_20 h with rfl | rfl | rfl | rfl | rfl | rfl | rfl | rfl | rfl | rfl | rfl | rfl | rfl | rfl | rfl | rfl | rfl | rfl | rfl | rfl <;> first | exact absurd rfl hn | simp [gLo, u2]) (fun k i => by first | rfl | (unfold gHi; simp [u2]))
theorem gu_o13 {v : Int64} : va_up (gS ks ad np ng G MI MJ XI XJ) 13 (.inr (3, [.ref (ad 14), .ref (ad 15), .ref (ad 16), .ref (ad 17), .int (XI 10 0), .int (XI 10 1), .int (XI 10 2), .int (XI 10 3), .int (XI 10 4), .int (XI 10 5), .int (XI 10 6), .int (XI 10 7), .long (XJ 4 0), .long v])) = gS ks ad np ng G MI MJ XI (u2 XJ 4 1 v) := gS_upLo (by decide) (by simp [gLo, u2]) (fun r h hn => by rcases r_20 h with rfl | rfl | rfl | rfl | rfl | rfl | rfl | rfl | rfl | rfl | rfl | rfl | rfl | rfl | rfl | rfl | rfl | rfl | rfl | rfl <;> first | exact absurd rfl hn | simp [gLo, u2]) (fun k i => by first | rfl | (unfold gHi; simp [u2]))
theorem gu_m0 {v : Int32} : va_up (gS ks ad np ng G MI MJ XI XJ) 0 (.inr (4, [.int v, .int (MI 0 1), .int (MI 0 2), .int (MI 0 3), .int (MI 0 4), .int (MI 0 5), .int (MI 0 6), .ref (ad 1), .ref (ad 2), .ref (ad 3), .ref (ad 4), .ref (ad 5), .ref (ad 6), .ref (ad 7), .ref (ad 8), .ref (ad 9), .ref (ad 10), .ref (ad 11), .long (MJ 0 0), .long (MJ 0 1), .int (MI 0 7)])) = gS ks ad np ng G (u2 MI 0 0 v) MJ XI XJ := gS_upLo (by decide) (by simp [gLo, u2]) (fun r h hn => by rcases r_20 h with rfl | rfl | rfl | rfl | rfl | rfl | rfl | rfl | rfl | rfl | rfl | rfl | rfl | rfl | rfl | rfl | rfl | rfl | rfl | rfl <;> first | exact absurd rfl hn | simp [gLo, u2]) (fun k i => by first | rfl | (unfold gHi; simp [u2]))
theorem gu_m1 {v : Int32} : va_up (gS ks ad np ng G MI MJ XI XJ) 0 (.inr (4, [.int (MI 0 0), .int v, .int (MI 0 2), .int (MI 0 3), .int (MI 0 4), .int (MI 0 5), .int (MI 0 6), .ref (ad 1), .ref (ad 2), .ref (ad 3), .ref (ad 4), .ref (ad 5), .ref (ad 6), .ref (ad 7), .ref (ad 8), .ref (ad 9), .ref (ad 10), .ref (ad 11), .long (MJ 0 0), .long (MJ 0 1), .int (MI 0 7)])) = gS ks ad np ng G (u2 MI 0 1 v) MJ XI XJ := gS_upLo (by decide) (by simp [gLo, u2]) (fun r h hn => by rcases r_20 h with rfl | rfl | rfl | rfl | rfl | rfl | rfl | rfl | rfl | rfl | rfl | rfl | rfl | rfl | rfl | rfl | rfl | rfl | rfl | rfl <;> first | exact absurd rfl hn | simp [gLo, u2]) (fun k i => by first | rfl | (unfold gHi; simp [u2]))
theorem gu_m2 {v : Int32} : va_up (gS ks ad np ng G MI MJ XI XJ) 0 (.inr (4, [.int (MI 0 0), .int (MI 0 1), .int v, .int (MI 0 3), .int (MI 0 4), .int (MI 0 5), .int (MI 0 6), .ref (ad 1), .ref (ad 2), .ref (ad 3), .ref (ad 4), .ref (ad 5), .ref (ad 6), .ref (ad 7), .ref (ad 8), .ref (ad 9), .ref (ad 10), .ref (ad 11), .long (MJ 0 0), .long (MJ 0 1), .int (MI 0 7)])) = gS ks ad np ng G (u2 MI 0 2 v) MJ XI XJ := gS_upLo (by decide) (by simp [gLo, u2]) (fun r h hn => by rcases r_20 h with rfl | rfl | rfl | rfl | rfl | rfl | rfl | rfl | rfl | rfl | rfl | rfl | rfl | rfl | rfl | rfl | rfl | rfl | rfl | rfl <;> first | exact absurd rfl hn | simp [gLo, u2]) (fun k i => by first | rfl | (unfold gHi; simp [u2]))
theorem gu_m3 {v : Int32} : va_up (gS ks ad np ng G MI MJ XI XJ) 0 (.inr (4, [.int (MI 0 0), .int (MI 0 1), .int (MI 0 2), .int v, .int (MI 0 4), .int (MI 0 5), .int (MI 0 6), .ref (ad 1), .ref (ad 2), .ref (ad 3), .ref (ad 4), .ref (ad 5), .ref (ad 6), .ref (ad 7), .ref (ad 8), .ref (ad 9), .ref (ad 10), .ref (ad 11), .long (MJ 0 0), .long (MJ 0 1), .int (MI 0 7)])) = gS ks ad np ng G (u2 MI 0 3 v) MJ XI XJ := gS_upLo (by decide) (by simp [gLo, u2]) (fun r h hn => by rcases r_20 h with rfl | rfl | rfl | rfl | rfl | rfl | rfl | rfl | rfl | rfl | rfl | rfl | rfl | rfl | rfl | rfl | rfl | rfl | rfl | rfl <;> first | exact absurd rfl hn | simp [gLo, u2]) (fun k i => by first | rfl | (unfold gHi; simp [u2]))
theorem gu_m4 {v : Int32} : va_up (gS ks ad np ng G MI MJ XI XJ) 0 (.inr (4, [.int (MI 0 0), .int (MI 0 1), .int (MI 0 2), .int (MI 0 3), .int v, .int (MI 0 5), .int (MI 0 6), .ref (ad 1), .ref (ad 2), .ref (ad 3), .ref (ad 4), .ref (ad 5), .ref (ad 6), .ref (ad 7), .ref (ad 8), .ref (ad 9), .ref (ad 10), .ref (ad 11), .long (MJ 0 0), .long (MJ 0 1), .int (MI 0 7)])) = gS ks ad np ng G (u2 MI 0 4 v) MJ XI XJ := gS_upLo (by decide) (by simp [gLo, u2]) (fun r h hn => by rcases r_20 h with rfl | rfl | rfl | rfl | rfl | rfl | rfl | rfl | rfl | rfl | rfl | rfl | rfl | rfl | rfl | rfl | rfl | rfl | rfl | rfl <;> first | exact absurd rfl hn | simp [gLo, u2]) (fun k i => by first | rfl | (unfold gHi; simp [u2]))
theorem gu_m5 {v : Int32} : va_up (gS ks ad np ng G MI MJ XI XJ) 0 (.inr (4, [.int (MI 0 0), .int (MI 0 1), .int (MI 0 2), .int (MI 0 3), .int (MI 0 4), .int v, .int (MI 0 6), .ref (ad 1), .ref (ad 2), .ref (ad 3), .ref (ad 4), .ref (ad 5), .ref (ad 6), .ref (ad 7), .ref (ad 8), .ref (ad 9), .ref (ad 10), .ref (ad 11), .long (MJ 0 0), .long (MJ 0 1), .int (MI 0 7)])) = gS ks ad np ng G (u2 MI 0 5 v) MJ XI XJ := gS_upLo (by decide) (by simp [gLo, u2]) (fun r h hn => by rcases r_20 h with rfl | rfl | rfl | rfl | rfl | rfl | rfl | rfl | rfl | rfl | rfl | rfl | rfl | rfl | rfl | rfl | rfl | rfl | rfl | rfl <;> first | exact absurd rfl hn | simp [gLo, u2]) (fun k i => by first | rfl | (unfold gHi; simp [u2]))
theorem gu_m6 {v : Int32} : va_up (gS ks ad np ng G MI MJ XI XJ) 0 (.inr (4, [.int (MI 0 0), .int (MI 0 1), .int (MI 0 2), .int (MI 0 3), .int (MI 0 4), .int (MI 0 5), .int v, .ref (ad 1), .ref (ad 2), .ref (ad 3), .ref (ad 4), .ref (ad 5), .ref (ad 6), .ref (ad 7), .ref (ad 8), .ref (ad 9), .ref (ad 10), .ref (ad 11), .long (MJ 0 0), .long (MJ 0 1), .int (MI 0 7)])) = gS ks ad np ng G (u2 MI 0 6 v) MJ XI XJ := gS_upLo (by decide) (by simp [gLo, u2]) (fun r h hn => by rcases r_20 h with rfl | rfl | rfl | rfl | rfl | rfl | rfl | rfl | rfl | rfl | rfl | rfl | rfl | rfl | rfl | rfl | rfl | rfl | rfl | rfl <;> first | exact absurd rfl hn | simp [gLo, u2]) (fun k i => by first | rfl | (unfold gHi; simp [u2]))
theorem gu_m18 {v : Int64} : va_up (gS ks ad np ng G MI MJ XI XJ) 0 (.inr (4, [.int (MI 0 0), .int (MI 0 1), .int (MI 0 2), .int (MI 0 3), .int (MI 0 4), .int (MI 0 5), .int (MI 0 6), .ref (ad 1), .ref (ad 2), .ref (ad 3), .ref (ad 4), .ref (ad 5), .ref (ad 6), .ref (ad 7), .ref (ad 8), .ref (ad 9), .ref (ad 10), .ref (ad 11), .long v, .long (MJ 0 1), .int (MI 0 7)])) = gS ks ad np ng G MI (u2 MJ 0 0 v) XI XJ := gS_upLo (by decide) (by simp [gLo, u2]) (fun r h hn => by rcases r_20 h with rfl | rfl | rfl | rfl | rfl | rfl | rfl | rfl | rfl | rfl | rfl | rfl | rfl | rfl | rfl | rfl | rfl | rfl | rfl | rfl <;> first | exact absurd rfl hn | simp [gLo, u2]) (fun k i => by first | rfl | (unfold gHi; simp [u2]))
theorem gu_m19 {v : Int64} : va_up (gS ks ad np ng G MI MJ XI XJ) 0 (.inr (4, [.int (MI 0 0), .int (MI 0 1), .int (MI 0 2), .int (MI 0 3), .int (MI 0 4), .int (MI 0 5), .int (MI 0 6), .ref (ad 1), .ref (ad 2), .ref (ad 3), .ref (ad 4), .ref (ad 5), .ref (ad 6), .ref (ad 7), .ref (ad 8), .ref (ad 9), .ref (ad 10), .ref (ad 11), .long (MJ 0 0), .long v, .int (MI 0 7)])) = gS ks ad np ng G MI (u2 MJ 0 1 v) XI XJ := gS_upLo (by decide) (by simp [gLo, u2]) (fun r h hn => by rcases r_20 h with rfl | rfl | rfl | rfl | rfl | rfl | rfl | rfl | rfl | rfl | rfl | rfl | rfl | rfl | rfl | rfl | rfl | rfl | rfl | rfl <;> first | exact absurd rfl hn | simp [gLo, u2]) (fun k i => by first | rfl | (unfold gHi; simp [u2]))
theorem gu_m20 {v : Int32} : va_up (gS ks ad np ng G MI MJ XI XJ) 0 (.inr (4, [.int (MI 0 0), .int (MI 0 1), .int (MI 0 2), .int (MI 0 3), .int (MI 0 4), .int (MI 0 5), .int (MI 0 6), .ref (ad 1), .ref (ad 2), .ref (ad 3), .ref (ad 4), .ref (ad 5), .ref (ad 6), .ref (ad 7), .ref (ad 8), .ref (ad 9), .ref (ad 10), .ref (ad 11), .long (MJ 0 0), .long (MJ 0 1), .int v])) = gS ks ad np ng G (u2 MI 0 7 v) MJ XI XJ := gS_upLo (by decide) (by simp [gLo, u2]) (fun r h hn => by rcases r_20 h with rfl | rfl | rfl | rfl | rfl | rfl | rfl | rfl | rfl | rfl | rfl | rfl | rfl | rfl | rfl | rfl | rfl | rfl | rfl | rfl <;> first | exact absurd rfl hn | simp [gLo, u2]) (fun k i => by first | rfl | (unfold gHi; simp [u2]))
theorem gu_a1 {i : Nat} {v : Int32} : va_up (gS ks ad np ng G MI MJ XI XJ) 1 (.inl (ks 0, 30, .inl (upd (MI 1) i v))) = gS ks ad np ng G (u2 MI 1 i v) MJ XI XJ := gS_upLo (by decide) (by simp [gLo, u2]; rfl) (fun r h hn => by rcases r_20 h with rfl | rfl | rfl | rfl | rfl | rfl | rfl | rfl | rfl | rfl | rfl | rfl | rfl | rfl | rfl | rfl | rfl | rfl | rfl | rfl <;> first | exact absurd rfl hn | simp [gLo, u2]) (fun k i => by first | rfl | (unfold gHi; simp [u2]))
theorem gu_a2 {i : Nat} {v : Int32} : va_up (gS ks ad np ng G MI MJ XI XJ) 2 (.inl (ks 0, 30, .inl (upd (MI 2) i v))) = gS ks ad np ng G (u2 MI 2 i v) MJ XI XJ := gS_upLo (by decide) (by simp [gLo, u2]; rfl) (fun r h hn => by rcases r_20 h with rfl | rfl | rfl | rfl | rfl | rfl | rfl | rfl | rfl | rfl | rfl | rfl | rfl | rfl | rfl | rfl | rfl | rfl | rfl | rfl <;> first | exact absurd rfl hn | simp [gLo, u2]) (fun k i => by first | rfl | (unfold gHi; simp [u2]))
theorem gu_a3 {i : Nat} {v : Int32} : va_up (gS ks ad np ng G MI MJ XI XJ) 3 (.inl (ks 0, 30, .inl (upd (MI 3) i v))) = gS ks ad np ng G (u2 MI 3 i v) MJ XI XJ := gS_upLo (by decide) (by simp [gLo, u2]; rfl) (fun r h hn => by rcases r_20 h with rfl | rfl | rfl | rfl | rfl | rfl | rfl | rfl | rfl | rfl | rfl | rfl | rfl | rfl | rfl | rfl | rfl | rfl | rfl | rfl <;> first | exact absurd rfl hn | simp [gLo, u2]) (fun k i => by first | rfl | (unfold gHi; simp [u2]))
theorem gu_a4 {i : Nat} {v : Int32} : va_up (gS ks ad np ng G MI MJ XI XJ) 4 (.inl (ks 0, 30, .inl (upd (MI 4) i v))) = gS ks ad np ng G (u2 MI 4 i v) MJ XI XJ := gS_upLo (by decide) (by simp [gLo, u2]; rfl) (fun r h hn => by rcases r_20 h with rfl | rfl | rfl | rfl | rfl | rfl | rfl | rfl | rfl | rfl | rfl | rfl | rfl | rfl | rfl | rfl | rfl | rfl | rfl | rfl <;> first | exact absurd rfl hn | simp [gLo, u2]) (fun k i => by first | rfl | (unfold gHi; simp [u2]))
theorem gu_a5 {i : Nat} {v : Int32} : va_up (gS ks ad np ng G MI MJ XI XJ) 5 (.inl (ks 0, 30, .inl (upd (MI 5) i v))) = gS ks ad np ng G (u2 MI 5 i v) MJ XI XJ := gS_upLo (by decide) (by simp [gLo, u2]; rfl) (fun r h hn => by rcases r_20 h with rfl | rfl | rfl | rfl | rfl | rfl | rfl | rfl | rfl | rfl | rfl | rfl | rfl | rfl | rfl | rfl | rfl | rfl | rfl | rfl <;> first | exact absurd rfl hn | simp [gLo, u2]) (fun k i => by first | rfl | (unfold gHi; simp [u2]))
theorem gu_a6 {i : Nat} {v : Int32} : va_up (gS ks ad np ng G MI MJ XI XJ) 6 (.inl (ks 0, 30, .inl (upd (MI 6) i v))) = gS ks ad np ng G (u2 MI 6 i v) MJ XI XJ := gS_upLo (by decide) (by simp [gLo, u2]; rfl) (fun r h hn => by rcases r_20 h with rfl | rfl | rfl | rfl | rfl | rfl | rfl | rfl | rfl | rfl | rfl | rfl | rfl | rfl | rfl | rfl | rfl | rfl | rfl | rfl <;> first | exact absurd rfl hn | simp [gLo, u2]) (fun k i => by first | rfl | (unfold gHi; simp [u2]))
theorem gu_a7 {i : Nat} {v : Int32} : va_up (gS ks ad np ng G MI MJ XI XJ) 7 (.inl (ks 0, 30, .inl (upd (MI 7) i v))) = gS ks ad np ng G (u2 MI 7 i v) MJ XI XJ := gS_upLo (by decide) (by simp [gLo, u2]; rfl) (fun r h hn => by rcases r_20 h with rfl | rfl | rfl | rfl | rfl | rfl | rfl | rfl | rfl | rfl | rfl | rfl | rfl | rfl | rfl | rfl | rfl | rfl | rfl | rfl <;> first | exact absurd rfl hn | simp [gLo, u2]) (fun k i => by first | rfl | (unfold gHi; simp [u2]))
theorem gu_a8 {i : Nat} {v : Int64} : va_up (gS ks ad np ng G MI MJ XI XJ) 8 (.inl (ks 1, 30, .inr (.inl (vp_updL (MJ 1) i v)))) = gS ks ad np ng G MI (u2 MJ 1 i v) XI XJ := gS_upLo (by decide) (by simp [gLo, u2]; rfl) (fun r h hn => by rcases r_20 h with rfl | rfl | rfl | rfl | rfl | rfl | rfl | rfl | rfl | rfl | rfl | rfl | rfl | rfl | rfl | rfl | rfl | rfl | rfl | rfl <;> first | exact absurd rfl hn | simp [gLo, u2]) (fun k i => by first | rfl | (unfold gHi; simp [u2]))
theorem gu_a9 {i : Nat} {v : Int64} : va_up (gS ks ad np ng G MI MJ XI XJ) 9 (.inl (ks 1, 30, .inr (.inl (vp_updL (MJ 2) i v)))) = gS ks ad np ng G MI (u2 MJ 2 i v) XI XJ := gS_upLo (by decide) (by simp [gLo, u2]; rfl) (fun r h hn => by rcases r_20 h with rfl | rfl | rfl | rfl | rfl | rfl | rfl | rfl | rfl | rfl | rfl | rfl | rfl | rfl | rfl | rfl | rfl | rfl | rfl | rfl <;> first | exact absurd rfl hn | simp [gLo, u2]) (fun k i => by first | rfl | (unfold gHi; simp [u2]))
theorem gu_a10 {i : Nat} {v : Int32} : va_up (gS ks ad np ng G MI MJ XI XJ) 10 (.inl (ks 0, 21, .inl (upd (MI 8) i v))) = gS ks ad np ng G (u2 MI 8 i v) MJ XI XJ := gS_upLo (by decide) (by simp [gLo, u2]; rfl) (fun r h hn => by rcases r_20 h with rfl | rfl | rfl | rfl | rfl | rfl | rfl | rfl | rfl | rfl | rfl | rfl | rfl | rfl | rfl | rfl | rfl | rfl | rfl | rfl <;> first | exact absurd rfl hn | simp [gLo, u2]) (fun k i => by first | rfl | (unfold gHi; simp [u2]))
theorem gu_a11 {i : Nat} {v : Int32} : va_up (gS ks ad np ng G MI MJ XI XJ) 11 (.inl (ks 0, 21, .inl (upd (MI 9) i v))) = gS ks ad np ng G (u2 MI 9 i v) MJ XI XJ := gS_upLo (by decide) (by simp [gLo, u2]; rfl) (fun r h hn => by rcases r_20 h with rfl | rfl | rfl | rfl | rfl | rfl | rfl | rfl | rfl | rfl | rfl | rfl | rfl | rfl | rfl | rfl | rfl | rfl | rfl | rfl <;> first | exact absurd rfl hn | simp [gLo, u2]) (fun k i => by first | rfl | (unfold gHi; simp [u2]))
theorem gu_a12 {i : Nat} {v : Int64} : va_up (gS ks ad np ng G MI MJ XI XJ) 12 (.inl (ks 1, 1, .inr (.inl (vp_updL (MJ 3) i v)))) = gS ks ad np ng G MI (u2 MJ 3 i v) XI XJ := gS_upLo (by decide) (by simp [gLo, u2]; rfl) (fun r h hn => by rcases r_20 h with rfl | rfl | rfl | rfl | rfl | rfl | rfl | rfl | rfl | rfl | rfl | rfl | rfl | rfl | rfl | rfl | rfl | rfl | rfl | rfl <;> first | exact absurd rfl hn | simp [gLo, u2]) (fun k i => by first | rfl | (unfold gHi; simp [u2]))
theorem gu_a16 {i : Nat} {v : Int64} : va_up (gS ks ad np ng G MI MJ XI XJ) 16 (.inl (ks 1, 21, .inr (.inl (vp_updL (XJ 5) i v)))) = gS ks ad np ng G MI MJ XI (u2 XJ 5 i v) := gS_upLo (by decide) (by simp [gLo, u2]; rfl) (fun r h hn => by rcases r_20 h with rfl | rfl | rfl | rfl | rfl | rfl | rfl | rfl | rfl | rfl | rfl | rfl | rfl | rfl | rfl | rfl | rfl | rfl | rfl | rfl <;> first | exact absurd rfl hn | simp [gLo, u2]) (fun k i => by first | rfl | (unfold gHi; simp [u2]))
theorem gu_a17 {i : Nat} {v : Int64} : va_up (gS ks ad np ng G MI MJ XI XJ) 17 (.inl (ks 1, 21, .inr (.inl (vp_updL (XJ 6) i v)))) = gS ks ad np ng G MI MJ XI (u2 XJ 6 i v) := gS_upLo (by decide) (by simp [gLo, u2]; rfl) (fun r h hn => by rcases r_20 h with rfl | rfl | rfl | rfl | rfl | rfl | rfl | rfl | rfl | rfl | rfl | rfl | rfl | rfl | rfl | rfl | rfl | rfl | rfl | rfl <;> first | exact absurd rfl hn | simp [gLo, u2]) (fun k i => by first | rfl | (unfold gHi; simp [u2]))
theorem gu_gprem {i : Nat} {v : Int64} : va_up (gS ks ad np ng G MI MJ XI XJ) (20 + 4 * i) (.inr (1, [.int (XI 11 i), .int (XI 12 i), .ref (ad (21 + 4 * i)), .long v])) = gS ks ad np ng G MI MJ XI (u2 XJ 7 i v) := gS_upHi (k := 0) (by decide) (by simp [gHi, u2]) (fun a j ha hn => by rcases (show a = 0 ∨ a = 1 ∨ a = 2 ∨ a = 3 by omega) with rfl | rfl | rfl | rfl <;> simp_all [gHi, u2]) (by simp [u2]) (by simp [u2]) (by simp [u2]) (by simp [u2])
theorem gu_gamt {i : Nat} {v : Int64} : va_up (gS ks ad np ng G MI MJ XI XJ) (21 + 4 * i) (.inr (0, [.long v])) = gS ks ad np ng G MI MJ XI (u2 XJ 8 i v) := gS_upHi (k := 1) (by decide) (by simp [gHi, u2]) (fun a j ha hn => by rcases (show a = 0 ∨ a = 1 ∨ a = 2 ∨ a = 3 by omega) with rfl | rfl | rfl | rfl <;> simp_all [gHi, u2]) (by simp [u2]) (by simp [u2]) (by simp [u2]) (by simp [u2])
theorem gu_pbon {i : Nat} {v : Int64} : va_up (gS ks ad np ng G MI MJ XI XJ) (22 + 4 * i) (.inr (2, [.ref (ad (20 + 4 * G i)), .int (XI 13 i), .int (XI 14 i), .ref (ad (23 + 4 * i)), .long v, .int (XI 15 i), .long (XJ 11 i)])) = gS ks ad np ng G MI MJ XI (u2 XJ 10 i v) := gS_upHi (k := 2) (by decide) (by simp [gHi, u2]) (fun a j ha hn => by rcases (show a = 0 ∨ a = 1 ∨ a = 2 ∨ a = 3 by omega) with rfl | rfl | rfl | rfl <;> simp_all [gHi, u2]) (by simp [u2]) (by simp [u2]) (by simp [u2]) (by simp [u2])
theorem gu_pst {i : Nat} {v : Int32} : va_up (gS ks ad np ng G MI MJ XI XJ) (22 + 4 * i) (.inr (2, [.ref (ad (20 + 4 * G i)), .int (XI 13 i), .int (XI 14 i), .ref (ad (23 + 4 * i)), .long (XJ 10 i), .int v, .long (XJ 11 i)])) = gS ks ad np ng G MI MJ (u2 XI 15 i v) XJ := gS_upHi (k := 2) (by decide) (by simp [gHi, u2]) (fun a j ha hn => by rcases (show a = 0 ∨ a = 1 ∨ a = 2 ∨ a = 3 by omega) with rfl | rfl | rfl | rfl <;> simp_all [gHi, u2]) (by simp [u2]) (by simp [u2]) (by simp [u2]) (by simp [u2])
theorem gu_ppaid {i : Nat} {v : Int64} : va_up (gS ks ad np ng G MI MJ XI XJ) (22 + 4 * i) (.inr (2, [.ref (ad (20 + 4 * G i)), .int (XI 13 i), .int (XI 14 i), .ref (ad (23 + 4 * i)), .long (XJ 10 i), .int (XI 15 i), .long v])) = gS ks ad np ng G MI MJ XI (u2 XJ 11 i v) := gS_upHi (k := 2) (by decide) (by simp [gHi, u2]) (fun a j ha hn => by rcases (show a = 0 ∨ a = 1 ∨ a = 2 ∨ a = 3 by omega) with rfl | rfl | rfl | rfl <;> simp_all [gHi, u2]) (by simp [u2]) (by simp [u2]) (by simp [u2]) (by simp [u2])
theorem gu_pamt {i : Nat} {v : Int64} : va_up (gS ks ad np ng G MI MJ XI XJ) (23 + 4 * i) (.inr (0, [.long v])) = gS ks ad np ng G MI MJ XI (u2 XJ 9 i v) := gS_upHi (k := 3) (by decide) (by simp [gHi, u2]) (fun a j ha hn => by rcases (show a = 0 ∨ a = 1 ∨ a = 2 ∨ a = 3 by omega) with rfl | rfl | rfl | rfl <;> simp_all [gHi, u2]) (by simp [u2]) (by simp [u2]) (by simp [u2]) (by simp [u2])
end
end ZW
end
section
section ZF
variable {p : Program} {l : Launch} {e : Env} {R : Room} {s : State} {m : MethodId} {args : Array Value} {below : List Frame} {meth : Method} {c : Code} {H : Heap} {locs : List Loc} {cells slots : Nat} {Q : State → Prop}
variable {cc : ByteArray} {pc : Nat} {ls : Array Slot} {rest : List Value} {D : va_G} {A : Nat → Prop} {a : Nat} {Rs : List Nat}
variable {ks : Nat → ClassId} {ad : Nat → Nat} {np ng : Nat} {G : Nat → Nat} {MI : Nat → Nat → Int32} {MJ : Nat → Nat → Int64} {XI : Nat → Nat → Int32} {XJ : Nat → Nat → Int64}
theorem gf_X3_11 (hx : p.tables.exec = Jvm.exec) (hb : c.code = cc) (hT : ∀ w ∈ WS, w.before args s = true) (hown : s.vm.findClass RX3 = some m.cls) (hK : zK D ks s) {fs : List Value} {v : Value} (hat : va_at D vwCl (a, .inr (3, fs)) H) (hv : fs[0]? = some v) (hdg : decode cc pc = .ok (.getfield 11, 3)) (kk : W p l e R s m args below meth c H locs cells slots Q (F0 m (pc + 3) ls (v :: rest))) : W p l e R s m args below meth c H locs cells slots Q (F0 m pc ls (.ref a :: rest)) :=
  z_get hx hb hT hown hK ly_X3 (T := TX3) (N := 14) rfl 0 (by decide) fl_X3_11 (fun _ h => h) hat hv hdg kk
theorem pg_X3_11 (hx : p.tables.exec = Jvm.exec) (hb : c.code = cc) (hT : ∀ w ∈ WS, w.before args s = true) (hown : s.vm.findClass RX3 = some m.cls) (hK : zK D ks s) (hin : meth.name = "<init>") {g : Nat → va_E} (hP : zP D Rs ad g H) (hD : zD A Rs ad) (hS : va_S A s.heap H locs) {r : Nat} (hr : r ∈ Rs) {fs : List Value} {v : Nat} (he : g r = .inr (3, fs)) (hl : 0 < fs.length) (hdg : decode cc pc = .ok (.putfield 11, 3)) (kk : ∀ (H1 : Heap) (locs1 : List Loc), zP D Rs ad (va_up g r (.inr (3, fs.set 0 (.ref v)))) H1 → va_S A s.heap H1 locs1 → W p l e R s m args below meth c H1 locs1 cells slots Q (F0 m (pc + 3) ls rest)) : W p l e R s m args below meth c H locs cells slots Q (F0 m pc ls (.ref v :: .ref (ad r) :: rest)) :=
  z_putF hx hb hT hown hK ly_X3 tyX3 tyX3_ok nmX3 (T := TX3) (N := 14) rfl 0 (by decide) fl_X3_11 (fun _ h => h) rfl hin rfl (ty := tyX3 0) (by decide +kernel) rfl rfl hP hD hS hr he hl hdg kk
theorem gf_X3_17 (hx : p.tables.exec = Jvm.exec) (hb : c.code = cc) (hT : ∀ w ∈ WS, w.before args s = true) (hown : s.vm.findClass RX3 = some m.cls) (hK : zK D ks s) {fs : List Value} {v : Value} (hat : va_at D vwCl (a, .inr (3, fs)) H) (hv : fs[1]? = some v) (hdg : decode cc pc = .ok (.getfield 17, 3)) (kk : W p l e R s m args below meth c H locs cells slots Q (F0 m (pc + 3) ls (v :: rest))) : W p l e R s m args below meth c H locs cells slots Q (F0 m pc ls (.ref a :: rest)) :=
  z_get hx hb hT hown hK ly_X3 (T := TX3) (N := 14) rfl 1 (by decide) fl_X3_17 (fun _ h => h) hat hv hdg kk
theorem pg_X3_17 (hx : p.tables.exec = Jvm.exec) (hb : c.code = cc) (hT : ∀ w ∈ WS, w.before args s = true) (hown : s.vm.findClass RX3 = some m.cls) (hK : zK D ks s) (hin : meth.name = "<init>") {g : Nat → va_E} (hP : zP D Rs ad g H) (hD : zD A Rs ad) (hS : va_S A s.heap H locs) {r : Nat} (hr : r ∈ Rs) {fs : List Value} {v : Nat} (he : g r = .inr (3, fs)) (hl : 1 < fs.length) (hdg : decode cc pc = .ok (.putfield 17, 3)) (kk : ∀ (H1 : Heap) (locs1 : List Loc), zP D Rs ad (va_up g r (.inr (3, fs.set 1 (.ref v)))) H1 → va_S A s.heap H1 locs1 → W p l e R s m args below meth c H1 locs1 cells slots Q (F0 m (pc + 3) ls rest)) : W p l e R s m args below meth c H locs cells slots Q (F0 m pc ls (.ref v :: .ref (ad r) :: rest)) :=
  z_putF hx hb hT hown hK ly_X3 tyX3 tyX3_ok nmX3 (T := TX3) (N := 14) rfl 1 (by decide) fl_X3_17 (fun _ h => h) rfl hin rfl (ty := tyX3 1) (by decide +kernel) rfl rfl hP hD hS hr he hl hdg kk
theorem gf_X3_21 (hx : p.tables.exec = Jvm.exec) (hb : c.code = cc) (hT : ∀ w ∈ WS, w.before args s = true) (hown : s.vm.findClass RX3 = some m.cls) (hK : zK D ks s) {fs : List Value} {v : Value} (hat : va_at D vwCl (a, .inr (3, fs)) H) (hv : fs[2]? = some v) (hdg : decode cc pc = .ok (.getfield 21, 3)) (kk : W p l e R s m args below meth c H locs cells slots Q (F0 m (pc + 3) ls (v :: rest))) : W p l e R s m args below meth c H locs cells slots Q (F0 m pc ls (.ref a :: rest)) :=
  z_get hx hb hT hown hK ly_X3 (T := TX3) (N := 14) rfl 2 (by decide) fl_X3_21 (fun _ h => h) hat hv hdg kk
theorem pg_X3_21 (hx : p.tables.exec = Jvm.exec) (hb : c.code = cc) (hT : ∀ w ∈ WS, w.before args s = true) (hown : s.vm.findClass RX3 = some m.cls) (hK : zK D ks s) (hin : meth.name = "<init>") {g : Nat → va_E} (hP : zP D Rs ad g H) (hD : zD A Rs ad) (hS : va_S A s.heap H locs) {r : Nat} (hr : r ∈ Rs) {fs : List Value} {v : Nat} (he : g r = .inr (3, fs)) (hl : 2 < fs.length) (hdg : decode cc pc = .ok (.putfield 21, 3)) (kk : ∀ (H1 : Heap) (locs1 : List Loc), zP D Rs ad (va_up g r (.inr (3, fs.set 2 (.ref v)))) H1 → va_S A s.heap H1 locs1 → W p l e R s m args below meth c H1 locs1 cells slots Q (F0 m (pc + 3) ls rest)) : W p l e R s m args below meth c H locs cells slots Q (F0 m pc ls (.ref v :: .ref (ad r) :: rest)) :=
  z_putF hx hb hT hown hK ly_X3 tyX3 tyX3_ok nmX3 (T := TX3) (N := 14) rfl 2 (by decide) fl_X3_21 (fun _ h => h) rfl hin rfl (ty := tyX3 2) (by decide +kernel) rfl rfl hP hD hS hr he hl hdg kk
theorem gf_X3_25 (hx : p.tables.exec = Jvm.exec) (hb : c.code = cc) (hT : ∀ w ∈ WS, w.before args s = true) (hown : s.vm.findClass RX3 = some m.cls) (hK : zK D ks s) {fs : List Value} {v : Value} (hat : va_at D vwCl (a, .inr (3, fs)) H) (hv : fs[3]? = some v) (hdg : decode cc pc = .ok (.getfield 25, 3)) (kk : W p l e R s m args below meth c H locs cells slots Q (F0 m (pc + 3) ls (v :: rest))) : W p l e R s m args below meth c H locs cells slots Q (F0 m pc ls (.ref a :: rest)) :=
  z_get hx hb hT hown hK ly_X3 (T := TX3) (N := 14) rfl 3 (by decide) fl_X3_25 (fun _ h => h) hat hv hdg kk
theorem pg_X3_25 (hx : p.tables.exec = Jvm.exec) (hb : c.code = cc) (hT : ∀ w ∈ WS, w.before args s = true) (hown : s.vm.findClass RX3 = some m.cls) (hK : zK D ks s) (hin : meth.name = "<init>") {g : Nat → va_E} (hP : zP D Rs ad g H) (hD : zD A Rs ad) (hS : va_S A s.heap H locs) {r : Nat} (hr : r ∈ Rs) {fs : List Value} {v : Nat} (he : g r = .inr (3, fs)) (hl : 3 < fs.length) (hdg : decode cc pc = .ok (.putfield 25, 3)) (kk : ∀ (H1 : Heap) (locs1 : List Loc), zP D Rs ad (va_up g r (.inr (3, fs.set 3 (.ref v)))) H1 → va_S A s.heap H1 locs1 → W p l e R s m args below meth c H1 locs1 cells slots Q (F0 m (pc + 3) ls rest)) : W p l e R s m args below meth c H locs cells slots Q (F0 m pc ls (.ref v :: .ref (ad r) :: rest)) :=
  z_putF hx hb hT hown hK ly_X3 tyX3 tyX3_ok nmX3 (T := TX3) (N := 14) rfl 3 (by decide) fl_X3_25 (fun _ h => h) rfl hin rfl (ty := tyX3 3) (by decide +kernel) rfl rfl hP hD hS hr he hl hdg kk
theorem gf_X3_62 (hx : p.tables.exec = Jvm.exec) (hb : c.code = cc) (hT : ∀ w ∈ WS, w.before args s = true) (hown : s.vm.findClass RX3 = some m.cls) (hK : zK D ks s) {fs : List Value} {v : Value} (hat : va_at D vwCl (a, .inr (3, fs)) H) (hv : fs[4]? = some v) (hdg : decode cc pc = .ok (.getfield 62, 3)) (kk : W p l e R s m args below meth c H locs cells slots Q (F0 m (pc + 3) ls (v :: rest))) : W p l e R s m args below meth c H locs cells slots Q (F0 m pc ls (.ref a :: rest)) :=
  z_get hx hb hT hown hK ly_X3 (T := TX3) (N := 14) rfl 4 (by decide) fl_X3_62 (fun _ h => h) hat hv hdg kk
theorem pg_X3_62 (hx : p.tables.exec = Jvm.exec) (hb : c.code = cc) (hT : ∀ w ∈ WS, w.before args s = true) (hown : s.vm.findClass RX3 = some m.cls) (hK : zK D ks s) {g : Nat → va_E} (hP : zP D Rs ad g H) (hD : zD A Rs ad) (hS : va_S A s.heap H locs) {r : Nat} (hr : r ∈ Rs) {fs : List Value} {v : Int32} (he : g r = .inr (3, fs)) (hl : 4 < fs.length) (hdg : decode cc pc = .ok (.putfield 62, 3)) (kk : ∀ (H1 : Heap) (locs1 : List Loc), zP D Rs ad (va_up g r (.inr (3, fs.set 4 (.int v)))) H1 → va_S A s.heap H1 locs1 → W p l e R s m args below meth c H1 locs1 cells slots Q (F0 m (pc + 3) ls rest)) : W p l e R s m args below meth c H locs cells slots Q (F0 m pc ls (.int v :: .ref (ad r) :: rest)) :=
  z_put hx hb hT hown hK ly_X3 tyX3 tyX3_ok nmX3 (T := TX3) (N := 14) rfl 4 (by decide) fl_X3_62 (fun _ h => h) rfl (ty := .int) (by decide +kernel) rfl rfl hP hD hS hr he hl hdg kk
theorem gf_X3_205 (hx : p.tables.exec = Jvm.exec) (hb : c.code = cc) (hT : ∀ w ∈ WS, w.before args s = true) (hown : s.vm.findClass RX3 = some m.cls) (hK : zK D ks s) {fs : List Value} {v : Value} (hat : va_at D vwCl (a, .inr (3, fs)) H) (hv : fs[5]? = some v) (hdg : decode cc pc = .ok (.getfield 205, 3)) (kk : W p l e R s m args below meth c H locs cells slots Q (F0 m (pc + 3) ls (v :: rest))) : W p l e R s m args below meth c H locs cells slots Q (F0 m pc ls (.ref a :: rest)) :=
  z_get hx hb hT hown hK ly_X3 (T := TX3) (N := 14) rfl 5 (by decide) fl_X3_205 (fun _ h => h) hat hv hdg kk
theorem pg_X3_205 (hx : p.tables.exec = Jvm.exec) (hb : c.code = cc) (hT : ∀ w ∈ WS, w.before args s = true) (hown : s.vm.findClass RX3 = some m.cls) (hK : zK D ks s) {g : Nat → va_E} (hP : zP D Rs ad g H) (hD : zD A Rs ad) (hS : va_S A s.heap H locs) {r : Nat} (hr : r ∈ Rs) {fs : List Value} {v : Int32} (he : g r = .inr (3, fs)) (hl : 5 < fs.length) (hdg : decode cc pc = .ok (.putfield 205, 3)) (kk : ∀ (H1 : Heap) (locs1 : List Loc), zP D Rs ad (va_up g r (.inr (3, fs.set 5 (.int v)))) H1 → va_S A s.heap H1 locs1 → W p l e R s m args below meth c H1 locs1 cells slots Q (F0 m (pc + 3) ls rest)) : W p l e R s m args below meth c H locs cells slots Q (F0 m pc ls (.int v :: .ref (ad r) :: rest)) :=
  z_put hx hb hT hown hK ly_X3 tyX3 tyX3_ok nmX3 (T := TX3) (N := 14) rfl 5 (by decide) fl_X3_205 (fun _ h => h) rfl (ty := .int) (by decide +kernel) rfl rfl hP hD hS hr he hl hdg kk
theorem gf_X3_110 (hx : p.tables.exec = Jvm.exec) (hb : c.code = cc) (hT : ∀ w ∈ WS, w.before args s = true) (hown : s.vm.findClass RX3 = some m.cls) (hK : zK D ks s) {fs : List Value} {v : Value} (hat : va_at D vwCl (a, .inr (3, fs)) H) (hv : fs[6]? = some v) (hdg : decode cc pc = .ok (.getfield 110, 3)) (kk : W p l e R s m args below meth c H locs cells slots Q (F0 m (pc + 3) ls (v :: rest))) : W p l e R s m args below meth c H locs cells slots Q (F0 m pc ls (.ref a :: rest)) :=
  z_get hx hb hT hown hK ly_X3 (T := TX3) (N := 14) rfl 6 (by decide) fl_X3_110 (fun _ h => h) hat hv hdg kk
theorem pg_X3_110 (hx : p.tables.exec = Jvm.exec) (hb : c.code = cc) (hT : ∀ w ∈ WS, w.before args s = true) (hown : s.vm.findClass RX3 = some m.cls) (hK : zK D ks s) {g : Nat → va_E} (hP : zP D Rs ad g H) (hD : zD A Rs ad) (hS : va_S A s.heap H locs) {r : Nat} (hr : r ∈ Rs) {fs : List Value} {v : Int32} (he : g r = .inr (3, fs)) (hl : 6 < fs.length) (hdg : decode cc pc = .ok (.putfield 110, 3)) (kk : ∀ (H1 : Heap) (locs1 : List Loc), zP D Rs ad (va_up g r (.inr (3, fs.set 6 (.int v)))) H1 → va_S A s.heap H1 locs1 → W p l e R s m args below meth c H1 locs1 cells slots Q (F0 m (pc + 3) ls rest)) : W p l e R s m args below meth c H locs cells slots Q (F0 m pc ls (.int v :: .ref (ad r) :: rest)) :=
  z_put hx hb hT hown hK ly_X3 tyX3 tyX3_ok nmX3 (T := TX3) (N := 14) rfl 6 (by decide) fl_X3_110 (fun _ h => h) rfl (ty := .int) (by decide +kernel) rfl rfl hP hD hS hr he hl hdg kk
theorem gf_X3_30 (hx : p.tables.exec = Jvm.exec) (hb : c.code = cc) (hT : ∀ w ∈ WS, w.before args s = true) (hown : s.vm.findClass RX3 = some m.cls) (hK : zK D ks s) {fs : List Value} {v : Value} (hat : va_at D vwCl (a, .inr (3, fs)) H) (hv : fs[7]? = some v) (hdg : decode cc pc = .ok (.getfield 30, 3)) (kk : W p l e R s m args below meth c H locs cells slots Q (F0 m (pc + 3) ls (v :: rest))) : W p l e R s m args below meth c H locs cells slots Q (F0 m pc ls (.ref a :: rest)) :=
  z_get hx hb hT hown hK ly_X3 (T := TX3) (N := 14) rfl 7 (by decide) fl_X3_30 (fun _ h => h) hat hv hdg kk
theorem pg_X3_30 (hx : p.tables.exec = Jvm.exec) (hb : c.code = cc) (hT : ∀ w ∈ WS, w.before args s = true) (hown : s.vm.findClass RX3 = some m.cls) (hK : zK D ks s) {g : Nat → va_E} (hP : zP D Rs ad g H) (hD : zD A Rs ad) (hS : va_S A s.heap H locs) {r : Nat} (hr : r ∈ Rs) {fs : List Value} {v : Int32} (he : g r = .inr (3, fs)) (hl : 7 < fs.length) (hdg : decode cc pc = .ok (.putfield 30, 3)) (kk : ∀ (H1 : Heap) (locs1 : List Loc), zP D Rs ad (va_up g r (.inr (3, fs.set 7 (.int v)))) H1 → va_S A s.heap H1 locs1 → W p l e R s m args below meth c H1 locs1 cells slots Q (F0 m (pc + 3) ls rest)) : W p l e R s m args below meth c H locs cells slots Q (F0 m pc ls (.int v :: .ref (ad r) :: rest)) :=
  z_put hx hb hT hown hK ly_X3 tyX3 tyX3_ok nmX3 (T := TX3) (N := 14) rfl 7 (by decide) fl_X3_30 (fun _ h => h) rfl (ty := .int) (by decide +kernel) rfl rfl hP hD hS hr he hl hdg kk
theorem gf_X3_34 (hx : p.tables.exec = Jvm.exec) (hb : c.code = cc) (hT : ∀ w ∈ WS, w.before args s = true) (hown : s.vm.findClass RX3 = some m.cls) (hK : zK D ks s) {fs : List Value} {v : Value} (hat : va_at D vwCl (a, .inr (3, fs)) H) (hv : fs[8]? = some v) (hdg : decode cc pc = .ok (.getfield 34, 3)) (kk : W p l e R s m args below meth c H locs cells slots Q (F0 m (pc + 3) ls (v :: rest))) : W p l e R s m args below meth c H locs cells slots Q (F0 m pc ls (.ref a :: rest)) :=
  z_get hx hb hT hown hK ly_X3 (T := TX3) (N := 14) rfl 8 (by decide) fl_X3_34 (fun _ h => h) hat hv hdg kk
theorem pg_X3_34 (hx : p.tables.exec = Jvm.exec) (hb : c.code = cc) (hT : ∀ w ∈ WS, w.before args s = true) (hown : s.vm.findClass RX3 = some m.cls) (hK : zK D ks s) {g : Nat → va_E} (hP : zP D Rs ad g H) (hD : zD A Rs ad) (hS : va_S A s.heap H locs) {r : Nat} (hr : r ∈ Rs) {fs : List Value} {v : Int32} (he : g r = .inr (3, fs)) (hl : 8 < fs.length) (hdg : decode cc pc = .ok (.putfield 34, 3)) (kk : ∀ (H1 : Heap) (locs1 : List Loc), zP D Rs ad (va_up g r (.inr (3, fs.set 8 (.int v)))) H1 → va_S A s.heap H1 locs1 → W p l e R s m args below meth c H1 locs1 cells slots Q (F0 m (pc + 3) ls rest)) : W p l e R s m args below meth c H locs cells slots Q (F0 m pc ls (.int v :: .ref (ad r) :: rest)) :=
  z_put hx hb hT hown hK ly_X3 tyX3 tyX3_ok nmX3 (T := TX3) (N := 14) rfl 8 (by decide) fl_X3_34 (fun _ h => h) rfl (ty := .int) (by decide +kernel) rfl rfl hP hD hS hr he hl hdg kk
theorem gf_X3_37 (hx : p.tables.exec = Jvm.exec) (hb : c.code = cc) (hT : ∀ w ∈ WS, w.before args s = true) (hown : s.vm.findClass RX3 = some m.cls) (hK : zK D ks s) {fs : List Value} {v : Value} (hat : va_at D vwCl (a, .inr (3, fs)) H) (hv : fs[9]? = some v) (hdg : decode cc pc = .ok (.getfield 37, 3)) (kk : W p l e R s m args below meth c H locs cells slots Q (F0 m (pc + 3) ls (v :: rest))) : W p l e R s m args below meth c H locs cells slots Q (F0 m pc ls (.ref a :: rest)) :=
  z_get hx hb hT hown hK ly_X3 (T := TX3) (N := 14) rfl 9 (by decide) fl_X3_37 (fun _ h => h) hat hv hdg kk
theorem pg_X3_37 (hx : p.tables.exec = Jvm.exec) (hb : c.code = cc) (hT : ∀ w ∈ WS, w.before args s = true) (hown : s.vm.findClass RX3 = some m.cls) (hK : zK D ks s) {g : Nat → va_E} (hP : zP D Rs ad g H) (hD : zD A Rs ad) (hS : va_S A s.heap H locs) {r : Nat} (hr : r ∈ Rs) {fs : List Value} {v : Int32} (he : g r = .inr (3, fs)) (hl : 9 < fs.length) (hdg : decode cc pc = .ok (.putfield 37, 3)) (kk : ∀ (H1 : Heap) (locs1 : List Loc), zP D Rs ad (va_up g r (.inr (3, fs.set 9 (.int v)))) H1 → va_S A s.heap H1 locs1 → W p l e R s m args below meth c H1 locs1 cells slots Q (F0 m (pc + 3) ls rest)) : W p l e R s m args below meth c H locs cells slots Q (F0 m pc ls (.int v :: .ref (ad r) :: rest)) :=
  z_put hx hb hT hown hK ly_X3 tyX3 tyX3_ok nmX3 (T := TX3) (N := 14) rfl 9 (by decide) fl_X3_37 (fun _ h => h) rfl (ty := .int) (by decide +kernel) rfl rfl hP hD hS hr he hl hdg kk
theorem gf_X3_40 (hx : p.tables.exec = Jvm.exec) (hb : c.code = cc) (hT : ∀ w ∈ WS, w.before args s = true) (hown : s.vm.findClass RX3 = some m.cls) (hK : zK D ks s) {fs : List Value} {v : Value} (hat : va_at D vwCl (a, .inr (3, fs)) H) (hv : fs[10]? = some v) (hdg : decode cc pc = .ok (.getfield 40, 3)) (kk : W p l e R s m args below meth c H locs cells slots Q (F0 m (pc + 3) ls (v :: rest))) : W p l e R s m args below meth c H locs cells slots Q (F0 m pc ls (.ref a :: rest)) :=
  z_get hx hb hT hown hK ly_X3 (T := TX3) (N := 14) rfl 10 (by decide) fl_X3_40 (fun _ h => h) hat hv hdg kk
theorem pg_X3_40 (hx : p.tables.exec = Jvm.exec) (hb : c.code = cc) (hT : ∀ w ∈ WS, w.before args s = true) (hown : s.vm.findClass RX3 = some m.cls) (hK : zK D ks s) {g : Nat → va_E} (hP : zP D Rs ad g H) (hD : zD A Rs ad) (hS : va_S A s.heap H locs) {r : Nat} (hr : r ∈ Rs) {fs : List Value} {v : Int32} (he : g r = .inr (3, fs)) (hl : 10 < fs.length) (hdg : decode cc pc = .ok (.putfield 40, 3)) (kk : ∀ (H1 : Heap) (locs1 : List Loc), zP D Rs ad (va_up g r (.inr (3, fs.set 10 (.int v)))) H1 → va_S A s.heap H1 locs1 → W p l e R s m args below meth c H1 locs1 cells slots Q (F0 m (pc + 3) ls rest)) : W p l e R s m args below meth c H locs cells slots Q (F0 m pc ls (.int v :: .ref (ad r) :: rest)) :=
  z_put hx hb hT hown hK ly_X3 tyX3 tyX3_ok nmX3 (T := TX3) (N := 14) rfl 10 (by decide) fl_X3_40 (fun _ h => h) rfl (ty := .int) (by decide +kernel) rfl rfl hP hD hS hr he hl hdg kk
theorem gf_X3_43 (hx : p.tables.exec = Jvm.exec) (hb : c.code = cc) (hT : ∀ w ∈ WS, w.before args s = true) (hown : s.vm.findClass RX3 = some m.cls) (hK : zK D ks s) {fs : List Value} {v : Value} (hat : va_at D vwCl (a, .inr (3, fs)) H) (hv : fs[11]? = some v) (hdg : decode cc pc = .ok (.getfield 43, 3)) (kk : W p l e R s m args below meth c H locs cells slots Q (F0 m (pc + 3) ls (v :: rest))) : W p l e R s m args below meth c H locs cells slots Q (F0 m pc ls (.ref a :: rest)) :=
  z_get hx hb hT hown hK ly_X3 (T := TX3) (N := 14) rfl 11 (by decide) fl_X3_43 (fun _ h => h) hat hv hdg kk
theorem pg_X3_43 (hx : p.tables.exec = Jvm.exec) (hb : c.code = cc) (hT : ∀ w ∈ WS, w.before args s = true) (hown : s.vm.findClass RX3 = some m.cls) (hK : zK D ks s) {g : Nat → va_E} (hP : zP D Rs ad g H) (hD : zD A Rs ad) (hS : va_S A s.heap H locs) {r : Nat} (hr : r ∈ Rs) {fs : List Value} {v : Int32} (he : g r = .inr (3, fs)) (hl : 11 < fs.length) (hdg : decode cc pc = .ok (.putfield 43, 3)) (kk : ∀ (H1 : Heap) (locs1 : List Loc), zP D Rs ad (va_up g r (.inr (3, fs.set 11 (.int v)))) H1 → va_S A s.heap H1 locs1 → W p l e R s m args below meth c H1 locs1 cells slots Q (F0 m (pc + 3) ls rest)) : W p l e R s m args below meth c H locs cells slots Q (F0 m pc ls (.int v :: .ref (ad r) :: rest)) :=
  z_put hx hb hT hown hK ly_X3 tyX3 tyX3_ok nmX3 (T := TX3) (N := 14) rfl 11 (by decide) fl_X3_43 (fun _ h => h) rfl (ty := .int) (by decide +kernel) rfl rfl hP hD hS hr he hl hdg kk
theorem gf_X3_101 (hx : p.tables.exec = Jvm.exec) (hb : c.code = cc) (hT : ∀ w ∈ WS, w.before args s = true) (hown : s.vm.findClass RX3 = some m.cls) (hK : zK D ks s) {fs : List Value} {v : Value} (hat : va_at D vwCl (a, .inr (3, fs)) H) (hv : fs[12]? = some v) (hdg : decode cc pc = .ok (.getfield 101, 3)) (kk : W p l e R s m args below meth c H locs cells slots Q (F0 m (pc + 3) ls (v :: rest))) : W p l e R s m args below meth c H locs cells slots Q (F0 m pc ls (.ref a :: rest)) :=
  z_get hx hb hT hown hK ly_X3 (T := TX3) (N := 14) rfl 12 (by decide) fl_X3_101 (fun _ h => h) hat hv hdg kk
theorem pg_X3_101 (hx : p.tables.exec = Jvm.exec) (hb : c.code = cc) (hT : ∀ w ∈ WS, w.before args s = true) (hown : s.vm.findClass RX3 = some m.cls) (hK : zK D ks s) {g : Nat → va_E} (hP : zP D Rs ad g H) (hD : zD A Rs ad) (hS : va_S A s.heap H locs) {r : Nat} (hr : r ∈ Rs) {fs : List Value} {v : Int64} (he : g r = .inr (3, fs)) (hl : 12 < fs.length) (hdg : decode cc pc = .ok (.putfield 101, 3)) (kk : ∀ (H1 : Heap) (locs1 : List Loc), zP D Rs ad (va_up g r (.inr (3, fs.set 12 (.long v)))) H1 → va_S A s.heap H1 locs1 → W p l e R s m args below meth c H1 locs1 cells slots Q (F0 m (pc + 3) ls rest)) : W p l e R s m args below meth c H locs cells slots Q (F0 m pc ls (.long v :: .ref (ad r) :: rest)) :=
  z_put hx hb hT hown hK ly_X3 tyX3 tyX3_ok nmX3 (T := TX3) (N := 14) rfl 12 (by decide) fl_X3_101 (fun _ h => h) rfl (ty := .long) (by decide +kernel) rfl rfl hP hD hS hr he hl hdg kk
theorem gf_X3_105 (hx : p.tables.exec = Jvm.exec) (hb : c.code = cc) (hT : ∀ w ∈ WS, w.before args s = true) (hown : s.vm.findClass RX3 = some m.cls) (hK : zK D ks s) {fs : List Value} {v : Value} (hat : va_at D vwCl (a, .inr (3, fs)) H) (hv : fs[13]? = some v) (hdg : decode cc pc = .ok (.getfield 105, 3)) (kk : W p l e R s m args below meth c H locs cells slots Q (F0 m (pc + 3) ls (v :: rest))) : W p l e R s m args below meth c H locs cells slots Q (F0 m pc ls (.ref a :: rest)) :=
  z_get hx hb hT hown hK ly_X3 (T := TX3) (N := 14) rfl 13 (by decide) fl_X3_105 (fun _ h => h) hat hv hdg kk
theorem pg_X3_105 (hx : p.tables.exec = Jvm.exec) (hb : c.code = cc) (hT : ∀ w ∈ WS, w.before args s = true) (hown : s.vm.findClass RX3 = some m.cls) (hK : zK D ks s) {g : Nat → va_E} (hP : zP D Rs ad g H) (hD : zD A Rs ad) (hS : va_S A s.heap H locs) {r : Nat} (hr : r ∈ Rs) {fs : List Value} {v : Int64} (he : g r = .inr (3, fs)) (hl : 13 < fs.length) (hdg : decode cc pc = .ok (.putfield 105, 3)) (kk : ∀ (H1 : Heap) (locs1 : List Loc), zP D Rs ad (va_up g r (.inr (3, fs.set 13 (.long v)))) H1 → va_S A s.heap H1 locs1 → W p l e R s m args below meth c H1 locs1 cells slots Q (F0 m (pc + 3) ls rest)) : W p l e R s m args below meth c H locs cells slots Q (F0 m pc ls (.long v :: .ref (ad r) :: rest)) :=
  z_put hx hb hT hown hK ly_X3 tyX3 tyX3_ok nmX3 (T := TX3) (N := 14) rfl 13 (by decide) fl_X3_105 (fun _ h => h) rfl (ty := .long) (by decide +kernel) rfl rfl hP hD hS hr he hl hdg kk
theorem gf_X0_7 (hx : p.tables.exec = Jvm.exec) (hb : c.code = cc) (hT : ∀ w ∈ WS, w.before args s = true) (hown : s.vm.findClass RX0 = some m.cls) (hK : zK D ks s) {fs : List Value} {v : Value} (hat : va_at D vwCl (a, .inr (0, fs)) H) (hv : fs[0]? = some v) (hdg : decode cc pc = .ok (.getfield 7, 3)) (kk : W p l e R s m args below meth c H locs cells slots Q (F0 m (pc + 3) ls (v :: rest))) : W p l e R s m args below meth c H locs cells slots Q (F0 m pc ls (.ref a :: rest)) :=
  z_get hx hb hT hown hK ly_X0 (T := TX0) (N := 1) rfl 0 (by decide) fl_X0_7 (fun _ h => h) hat hv hdg kk
theorem pg_X0_7 (hx : p.tables.exec = Jvm.exec) (hb : c.code = cc) (hT : ∀ w ∈ WS, w.before args s = true) (hown : s.vm.findClass RX0 = some m.cls) (hK : zK D ks s) {g : Nat → va_E} (hP : zP D Rs ad g H) (hD : zD A Rs ad) (hS : va_S A s.heap H locs) {r : Nat} (hr : r ∈ Rs) {fs : List Value} {v : Int64} (he : g r = .inr (0, fs)) (hl : 0 < fs.length) (hdg : decode cc pc = .ok (.putfield 7, 3)) (kk : ∀ (H1 : Heap) (locs1 : List Loc), zP D Rs ad (va_up g r (.inr (0, fs.set 0 (.long v)))) H1 → va_S A s.heap H1 locs1 → W p l e R s m args below meth c H1 locs1 cells slots Q (F0 m (pc + 3) ls rest)) : W p l e R s m args below meth c H locs cells slots Q (F0 m pc ls (.long v :: .ref (ad r) :: rest)) :=
  z_put hx hb hT hown hK ly_X0 tyX0 tyX0_ok nmX0 (T := TX0) (N := 1) rfl 0 (by decide) fl_X0_7 (fun _ h => h) rfl (ty := .long) (by decide +kernel) rfl rfl hP hD hS hr he hl hdg kk
theorem gf_X1_7 (hx : p.tables.exec = Jvm.exec) (hb : c.code = cc) (hT : ∀ w ∈ WS, w.before args s = true) (hown : s.vm.findClass RX1 = some m.cls) (hK : zK D ks s) {fs : List Value} {v : Value} (hat : va_at D vwCl (a, .inr (1, fs)) H) (hv : fs[0]? = some v) (hdg : decode cc pc = .ok (.getfield 7, 3)) (kk : W p l e R s m args below meth c H locs cells slots Q (F0 m (pc + 3) ls (v :: rest))) : W p l e R s m args below meth c H locs cells slots Q (F0 m pc ls (.ref a :: rest)) :=
  z_get hx hb hT hown hK ly_X1 (T := TX1) (N := 4) rfl 0 (by decide) fl_X1_7 (fun _ h => h) hat hv hdg kk
theorem pg_X1_7 (hx : p.tables.exec = Jvm.exec) (hb : c.code = cc) (hT : ∀ w ∈ WS, w.before args s = true) (hown : s.vm.findClass RX1 = some m.cls) (hK : zK D ks s) (hin : meth.name = "<init>") {g : Nat → va_E} (hP : zP D Rs ad g H) (hD : zD A Rs ad) (hS : va_S A s.heap H locs) {r : Nat} (hr : r ∈ Rs) {fs : List Value} {v : Int32} (he : g r = .inr (1, fs)) (hl : 0 < fs.length) (hdg : decode cc pc = .ok (.putfield 7, 3)) (kk : ∀ (H1 : Heap) (locs1 : List Loc), zP D Rs ad (va_up g r (.inr (1, fs.set 0 (.int v)))) H1 → va_S A s.heap H1 locs1 → W p l e R s m args below meth c H1 locs1 cells slots Q (F0 m (pc + 3) ls rest)) : W p l e R s m args below meth c H locs cells slots Q (F0 m pc ls (.int v :: .ref (ad r) :: rest)) :=
  z_putF hx hb hT hown hK ly_X1 tyX1 tyX1_ok nmX1 (T := TX1) (N := 4) rfl 0 (by decide) fl_X1_7 (fun _ h => h) rfl hin rfl (ty := .int) (by decide +kernel) rfl rfl hP hD hS hr he hl hdg kk
theorem gf_X1_13 (hx : p.tables.exec = Jvm.exec) (hb : c.code = cc) (hT : ∀ w ∈ WS, w.before args s = true) (hown : s.vm.findClass RX1 = some m.cls) (hK : zK D ks s) {fs : List Value} {v : Value} (hat : va_at D vwCl (a, .inr (1, fs)) H) (hv : fs[1]? = some v) (hdg : decode cc pc = .ok (.getfield 13, 3)) (kk : W p l e R s m args below meth c H locs cells slots Q (F0 m (pc + 3) ls (v :: rest))) : W p l e R s m args below meth c H locs cells slots Q (F0 m pc ls (.ref a :: rest)) :=
  z_get hx hb hT hown hK ly_X1 (T := TX1) (N := 4) rfl 1 (by decide) fl_X1_13 (fun _ h => h) hat hv hdg kk
theorem pg_X1_13 (hx : p.tables.exec = Jvm.exec) (hb : c.code = cc) (hT : ∀ w ∈ WS, w.before args s = true) (hown : s.vm.findClass RX1 = some m.cls) (hK : zK D ks s) (hin : meth.name = "<init>") {g : Nat → va_E} (hP : zP D Rs ad g H) (hD : zD A Rs ad) (hS : va_S A s.heap H locs) {r : Nat} (hr : r ∈ Rs) {fs : List Value} {v : Int32} (he : g r = .inr (1, fs)) (hl : 1 < fs.length) (hdg : decode cc pc = .ok (.putfield 13, 3)) (kk : ∀ (H1 : Heap) (locs1 : List Loc), zP D Rs ad (va_up g r (.inr (1, fs.set 1 (.int v)))) H1 → va_S A s.heap H1 locs1 → W p l e R s m args below meth c H1 locs1 cells slots Q (F0 m (pc + 3) ls rest)) : W p l e R s m args below meth c H locs cells slots Q (F0 m pc ls (.int v :: .ref (ad r) :: rest)) :=
  z_putF hx hb hT hown hK ly_X1 tyX1 tyX1_ok nmX1 (T := TX1) (N := 4) rfl 1 (by decide) fl_X1_13 (fun _ h => h) rfl hin rfl (ty := .int) (by decide +kernel) rfl rfl hP hD hS hr he hl hdg kk
theorem gf_X1_19 (hx : p.tables.exec = Jvm.exec) (hb : c.code = cc) (hT : ∀ w ∈ WS, w.before args s = true) (hown : s.vm.findClass RX1 = some m.cls) (hK : zK D ks s) {fs : List Value} {v : Value} (hat : va_at D vwCl (a, .inr (1, fs)) H) (hv : fs[2]? = some v) (hdg : decode cc pc = .ok (.getfield 19, 3)) (kk : W p l e R s m args below meth c H locs cells slots Q (F0 m (pc + 3) ls (v :: rest))) : W p l e R s m args below meth c H locs cells slots Q (F0 m pc ls (.ref a :: rest)) :=
  z_get hx hb hT hown hK ly_X1 (T := TX1) (N := 4) rfl 2 (by decide) fl_X1_19 (fun _ h => h) hat hv hdg kk
theorem pg_X1_19 (hx : p.tables.exec = Jvm.exec) (hb : c.code = cc) (hT : ∀ w ∈ WS, w.before args s = true) (hown : s.vm.findClass RX1 = some m.cls) (hK : zK D ks s) (hin : meth.name = "<init>") {g : Nat → va_E} (hP : zP D Rs ad g H) (hD : zD A Rs ad) (hS : va_S A s.heap H locs) {r : Nat} (hr : r ∈ Rs) {fs : List Value} {v : Nat} (he : g r = .inr (1, fs)) (hl : 2 < fs.length) (hdg : decode cc pc = .ok (.putfield 19, 3)) (kk : ∀ (H1 : Heap) (locs1 : List Loc), zP D Rs ad (va_up g r (.inr (1, fs.set 2 (.ref v)))) H1 → va_S A s.heap H1 locs1 → W p l e R s m args below meth c H1 locs1 cells slots Q (F0 m (pc + 3) ls rest)) : W p l e R s m args below meth c H locs cells slots Q (F0 m pc ls (.ref v :: .ref (ad r) :: rest)) :=
  z_putF hx hb hT hown hK ly_X1 tyX1 tyX1_ok nmX1 (T := TX1) (N := 4) rfl 2 (by decide) fl_X1_19 (fun _ h => h) rfl hin rfl (ty := tyX1 2) (by decide +kernel) rfl rfl hP hD hS hr he hl hdg kk
theorem gf_X1_27 (hx : p.tables.exec = Jvm.exec) (hb : c.code = cc) (hT : ∀ w ∈ WS, w.before args s = true) (hown : s.vm.findClass RX1 = some m.cls) (hK : zK D ks s) {fs : List Value} {v : Value} (hat : va_at D vwCl (a, .inr (1, fs)) H) (hv : fs[3]? = some v) (hdg : decode cc pc = .ok (.getfield 27, 3)) (kk : W p l e R s m args below meth c H locs cells slots Q (F0 m (pc + 3) ls (v :: rest))) : W p l e R s m args below meth c H locs cells slots Q (F0 m pc ls (.ref a :: rest)) :=
  z_get hx hb hT hown hK ly_X1 (T := TX1) (N := 4) rfl 3 (by decide) fl_X1_27 (fun _ h => h) hat hv hdg kk
theorem pg_X1_27 (hx : p.tables.exec = Jvm.exec) (hb : c.code = cc) (hT : ∀ w ∈ WS, w.before args s = true) (hown : s.vm.findClass RX1 = some m.cls) (hK : zK D ks s) {g : Nat → va_E} (hP : zP D Rs ad g H) (hD : zD A Rs ad) (hS : va_S A s.heap H locs) {r : Nat} (hr : r ∈ Rs) {fs : List Value} {v : Int64} (he : g r = .inr (1, fs)) (hl : 3 < fs.length) (hdg : decode cc pc = .ok (.putfield 27, 3)) (kk : ∀ (H1 : Heap) (locs1 : List Loc), zP D Rs ad (va_up g r (.inr (1, fs.set 3 (.long v)))) H1 → va_S A s.heap H1 locs1 → W p l e R s m args below meth c H1 locs1 cells slots Q (F0 m (pc + 3) ls rest)) : W p l e R s m args below meth c H locs cells slots Q (F0 m pc ls (.long v :: .ref (ad r) :: rest)) :=
  z_put hx hb hT hown hK ly_X1 tyX1 tyX1_ok nmX1 (T := TX1) (N := 4) rfl 3 (by decide) fl_X1_27 (fun _ h => h) rfl (ty := .long) (by decide +kernel) rfl rfl hP hD hS hr he hl hdg kk
theorem gf_X2_9 (hx : p.tables.exec = Jvm.exec) (hb : c.code = cc) (hT : ∀ w ∈ WS, w.before args s = true) (hown : s.vm.findClass RX2 = some m.cls) (hK : zK D ks s) {fs : List Value} {v : Value} (hat : va_at D vwCl (a, .inr (2, fs)) H) (hv : fs[0]? = some v) (hdg : decode cc pc = .ok (.getfield 9, 3)) (kk : W p l e R s m args below meth c H locs cells slots Q (F0 m (pc + 3) ls (v :: rest))) : W p l e R s m args below meth c H locs cells slots Q (F0 m pc ls (.ref a :: rest)) :=
  z_get hx hb hT hown hK ly_X2 (T := TX2) (N := 7) rfl 0 (by decide) fl_X2_9 (fun _ h => h) hat hv hdg kk
theorem pg_X2_9 (hx : p.tables.exec = Jvm.exec) (hb : c.code = cc) (hT : ∀ w ∈ WS, w.before args s = true) (hown : s.vm.findClass RX2 = some m.cls) (hK : zK D ks s) (hin : meth.name = "<init>") {g : Nat → va_E} (hP : zP D Rs ad g H) (hD : zD A Rs ad) (hS : va_S A s.heap H locs) {r : Nat} (hr : r ∈ Rs) {fs : List Value} {v : Nat} (he : g r = .inr (2, fs)) (hl : 0 < fs.length) (hdg : decode cc pc = .ok (.putfield 9, 3)) (kk : ∀ (H1 : Heap) (locs1 : List Loc), zP D Rs ad (va_up g r (.inr (2, fs.set 0 (.ref v)))) H1 → va_S A s.heap H1 locs1 → W p l e R s m args below meth c H1 locs1 cells slots Q (F0 m (pc + 3) ls rest)) : W p l e R s m args below meth c H locs cells slots Q (F0 m pc ls (.ref v :: .ref (ad r) :: rest)) :=
  z_putF hx hb hT hown hK ly_X2 tyX2 tyX2_ok nmX2 (T := TX2) (N := 7) rfl 0 (by decide) fl_X2_9 (fun _ h => h) rfl hin rfl (ty := tyX2 0) (by decide +kernel) rfl rfl hP hD hS hr he hl hdg kk
theorem gf_X2_15 (hx : p.tables.exec = Jvm.exec) (hb : c.code = cc) (hT : ∀ w ∈ WS, w.before args s = true) (hown : s.vm.findClass RX2 = some m.cls) (hK : zK D ks s) {fs : List Value} {v : Value} (hat : va_at D vwCl (a, .inr (2, fs)) H) (hv : fs[1]? = some v) (hdg : decode cc pc = .ok (.getfield 15, 3)) (kk : W p l e R s m args below meth c H locs cells slots Q (F0 m (pc + 3) ls (v :: rest))) : W p l e R s m args below meth c H locs cells slots Q (F0 m pc ls (.ref a :: rest)) :=
  z_get hx hb hT hown hK ly_X2 (T := TX2) (N := 7) rfl 1 (by decide) fl_X2_15 (fun _ h => h) hat hv hdg kk
theorem pg_X2_15 (hx : p.tables.exec = Jvm.exec) (hb : c.code = cc) (hT : ∀ w ∈ WS, w.before args s = true) (hown : s.vm.findClass RX2 = some m.cls) (hK : zK D ks s) (hin : meth.name = "<init>") {g : Nat → va_E} (hP : zP D Rs ad g H) (hD : zD A Rs ad) (hS : va_S A s.heap H locs) {r : Nat} (hr : r ∈ Rs) {fs : List Value} {v : Int32} (he : g r = .inr (2, fs)) (hl : 1 < fs.length) (hdg : decode cc pc = .ok (.putfield 15, 3)) (kk : ∀ (H1 : Heap) (locs1 : List Loc), zP D Rs ad (va_up g r (.inr (2, fs.set 1 (.int v)))) H1 → va_S A s.heap H1 locs1 → W p l e R s m args below meth c H1 locs1 cells slots Q (F0 m (pc + 3) ls rest)) : W p l e R s m args below meth c H locs cells slots Q (F0 m pc ls (.int v :: .ref (ad r) :: rest)) :=
  z_putF hx hb hT hown hK ly_X2 tyX2 tyX2_ok nmX2 (T := TX2) (N := 7) rfl 1 (by decide) fl_X2_15 (fun _ h => h) rfl hin rfl (ty := .int) (by decide +kernel) rfl rfl hP hD hS hr he hl hdg kk
theorem gf_X2_19 (hx : p.tables.exec = Jvm.exec) (hb : c.code = cc) (hT : ∀ w ∈ WS, w.before args s = true) (hown : s.vm.findClass RX2 = some m.cls) (hK : zK D ks s) {fs : List Value} {v : Value} (hat : va_at D vwCl (a, .inr (2, fs)) H) (hv : fs[2]? = some v) (hdg : decode cc pc = .ok (.getfield 19, 3)) (kk : W p l e R s m args below meth c H locs cells slots Q (F0 m (pc + 3) ls (v :: rest))) : W p l e R s m args below meth c H locs cells slots Q (F0 m pc ls (.ref a :: rest)) :=
  z_get hx hb hT hown hK ly_X2 (T := TX2) (N := 7) rfl 2 (by decide) fl_X2_19 (fun _ h => h) hat hv hdg kk
theorem pg_X2_19 (hx : p.tables.exec = Jvm.exec) (hb : c.code = cc) (hT : ∀ w ∈ WS, w.before args s = true) (hown : s.vm.findClass RX2 = some m.cls) (hK : zK D ks s) (hin : meth.name = "<init>") {g : Nat → va_E} (hP : zP D Rs ad g H) (hD : zD A Rs ad) (hS : va_S A s.heap H locs) {r : Nat} (hr : r ∈ Rs) {fs : List Value} {v : Int32} (he : g r = .inr (2, fs)) (hl : 2 < fs.length) (hdg : decode cc pc = .ok (.putfield 19, 3)) (kk : ∀ (H1 : Heap) (locs1 : List Loc), zP D Rs ad (va_up g r (.inr (2, fs.set 2 (.int v)))) H1 → va_S A s.heap H1 locs1 → W p l e R s m args below meth c H1 locs1 cells slots Q (F0 m (pc + 3) ls rest)) : W p l e R s m args below meth c H locs cells slots Q (F0 m pc ls (.int v :: .ref (ad r) :: rest)) :=
  z_putF hx hb hT hown hK ly_X2 tyX2 tyX2_ok nmX2 (T := TX2) (N := 7) rfl 2 (by decide) fl_X2_19 (fun _ h => h) rfl hin rfl (ty := .int) (by decide +kernel) rfl rfl hP hD hS hr he hl hdg kk
theorem gf_X2_25 (hx : p.tables.exec = Jvm.exec) (hb : c.code = cc) (hT : ∀ w ∈ WS, w.before args s = true) (hown : s.vm.findClass RX2 = some m.cls) (hK : zK D ks s) {fs : List Value} {v : Value} (hat : va_at D vwCl (a, .inr (2, fs)) H) (hv : fs[3]? = some v) (hdg : decode cc pc = .ok (.getfield 25, 3)) (kk : W p l e R s m args below meth c H locs cells slots Q (F0 m (pc + 3) ls (v :: rest))) : W p l e R s m args below meth c H locs cells slots Q (F0 m pc ls (.ref a :: rest)) :=
  z_get hx hb hT hown hK ly_X2 (T := TX2) (N := 7) rfl 3 (by decide) fl_X2_25 (fun _ h => h) hat hv hdg kk
theorem pg_X2_25 (hx : p.tables.exec = Jvm.exec) (hb : c.code = cc) (hT : ∀ w ∈ WS, w.before args s = true) (hown : s.vm.findClass RX2 = some m.cls) (hK : zK D ks s) (hin : meth.name = "<init>") {g : Nat → va_E} (hP : zP D Rs ad g H) (hD : zD A Rs ad) (hS : va_S A s.heap H locs) {r : Nat} (hr : r ∈ Rs) {fs : List Value} {v : Nat} (he : g r = .inr (2, fs)) (hl : 3 < fs.length) (hdg : decode cc pc = .ok (.putfield 25, 3)) (kk : ∀ (H1 : Heap) (locs1 : List Loc), zP D Rs ad (va_up g r (.inr (2, fs.set 3 (.ref v)))) H1 → va_S A s.heap H1 locs1 → W p l e R s m args below meth c H1 locs1 cells slots Q (F0 m (pc + 3) ls rest)) : W p l e R s m args below meth c H locs cells slots Q (F0 m pc ls (.ref v :: .ref (ad r) :: rest)) :=
  z_putF hx hb hT hown hK ly_X2 tyX2 tyX2_ok nmX2 (T := TX2) (N := 7) rfl 3 (by decide) fl_X2_25 (fun _ h => h) rfl hin rfl (ty := tyX2 3) (by decide +kernel) rfl rfl hP hD hS hr he hl hdg kk
theorem gf_X2_38 (hx : p.tables.exec = Jvm.exec) (hb : c.code = cc) (hT : ∀ w ∈ WS, w.before args s = true) (hown : s.vm.findClass RX2 = some m.cls) (hK : zK D ks s) {fs : List Value} {v : Value} (hat : va_at D vwCl (a, .inr (2, fs)) H) (hv : fs[4]? = some v) (hdg : decode cc pc = .ok (.getfield 38, 3)) (kk : W p l e R s m args below meth c H locs cells slots Q (F0 m (pc + 3) ls (v :: rest))) : W p l e R s m args below meth c H locs cells slots Q (F0 m pc ls (.ref a :: rest)) :=
  z_get hx hb hT hown hK ly_X2 (T := TX2) (N := 7) rfl 4 (by decide) fl_X2_38 (fun _ h => h) hat hv hdg kk
theorem pg_X2_38 (hx : p.tables.exec = Jvm.exec) (hb : c.code = cc) (hT : ∀ w ∈ WS, w.before args s = true) (hown : s.vm.findClass RX2 = some m.cls) (hK : zK D ks s) {g : Nat → va_E} (hP : zP D Rs ad g H) (hD : zD A Rs ad) (hS : va_S A s.heap H locs) {r : Nat} (hr : r ∈ Rs) {fs : List Value} {v : Int64} (he : g r = .inr (2, fs)) (hl : 4 < fs.length) (hdg : decode cc pc = .ok (.putfield 38, 3)) (kk : ∀ (H1 : Heap) (locs1 : List Loc), zP D Rs ad (va_up g r (.inr (2, fs.set 4 (.long v)))) H1 → va_S A s.heap H1 locs1 → W p l e R s m args below meth c H1 locs1 cells slots Q (F0 m (pc + 3) ls rest)) : W p l e R s m args below meth c H locs cells slots Q (F0 m pc ls (.long v :: .ref (ad r) :: rest)) :=
  z_put hx hb hT hown hK ly_X2 tyX2 tyX2_ok nmX2 (T := TX2) (N := 7) rfl 4 (by decide) fl_X2_38 (fun _ h => h) rfl (ty := .long) (by decide +kernel) rfl rfl hP hD hS hr he hl hdg kk
theorem gf_X2_29 (hx : p.tables.exec = Jvm.exec) (hb : c.code = cc) (hT : ∀ w ∈ WS, w.before args s = true) (hown : s.vm.findClass RX2 = some m.cls) (hK : zK D ks s) {fs : List Value} {v : Value} (hat : va_at D vwCl (a, .inr (2, fs)) H) (hv : fs[5]? = some v) (hdg : decode cc pc = .ok (.getfield 29, 3)) (kk : W p l e R s m args below meth c H locs cells slots Q (F0 m (pc + 3) ls (v :: rest))) : W p l e R s m args below meth c H locs cells slots Q (F0 m pc ls (.ref a :: rest)) :=
  z_get hx hb hT hown hK ly_X2 (T := TX2) (N := 7) rfl 5 (by decide) fl_X2_29 (fun _ h => h) hat hv hdg kk
theorem pg_X2_29 (hx : p.tables.exec = Jvm.exec) (hb : c.code = cc) (hT : ∀ w ∈ WS, w.before args s = true) (hown : s.vm.findClass RX2 = some m.cls) (hK : zK D ks s) {g : Nat → va_E} (hP : zP D Rs ad g H) (hD : zD A Rs ad) (hS : va_S A s.heap H locs) {r : Nat} (hr : r ∈ Rs) {fs : List Value} {v : Int32} (he : g r = .inr (2, fs)) (hl : 5 < fs.length) (hdg : decode cc pc = .ok (.putfield 29, 3)) (kk : ∀ (H1 : Heap) (locs1 : List Loc), zP D Rs ad (va_up g r (.inr (2, fs.set 5 (.int v)))) H1 → va_S A s.heap H1 locs1 → W p l e R s m args below meth c H1 locs1 cells slots Q (F0 m (pc + 3) ls rest)) : W p l e R s m args below meth c H locs cells slots Q (F0 m pc ls (.int v :: .ref (ad r) :: rest)) :=
  z_put hx hb hT hown hK ly_X2 tyX2 tyX2_ok nmX2 (T := TX2) (N := 7) rfl 5 (by decide) fl_X2_29 (fun _ h => h) rfl (ty := .int) (by decide +kernel) rfl rfl hP hD hS hr he hl hdg kk
theorem gf_X2_34 (hx : p.tables.exec = Jvm.exec) (hb : c.code = cc) (hT : ∀ w ∈ WS, w.before args s = true) (hown : s.vm.findClass RX2 = some m.cls) (hK : zK D ks s) {fs : List Value} {v : Value} (hat : va_at D vwCl (a, .inr (2, fs)) H) (hv : fs[6]? = some v) (hdg : decode cc pc = .ok (.getfield 34, 3)) (kk : W p l e R s m args below meth c H locs cells slots Q (F0 m (pc + 3) ls (v :: rest))) : W p l e R s m args below meth c H locs cells slots Q (F0 m pc ls (.ref a :: rest)) :=
  z_get hx hb hT hown hK ly_X2 (T := TX2) (N := 7) rfl 6 (by decide) fl_X2_34 (fun _ h => h) hat hv hdg kk
theorem pg_X2_34 (hx : p.tables.exec = Jvm.exec) (hb : c.code = cc) (hT : ∀ w ∈ WS, w.before args s = true) (hown : s.vm.findClass RX2 = some m.cls) (hK : zK D ks s) {g : Nat → va_E} (hP : zP D Rs ad g H) (hD : zD A Rs ad) (hS : va_S A s.heap H locs) {r : Nat} (hr : r ∈ Rs) {fs : List Value} {v : Int64} (he : g r = .inr (2, fs)) (hl : 6 < fs.length) (hdg : decode cc pc = .ok (.putfield 34, 3)) (kk : ∀ (H1 : Heap) (locs1 : List Loc), zP D Rs ad (va_up g r (.inr (2, fs.set 6 (.long v)))) H1 → va_S A s.heap H1 locs1 → W p l e R s m args below meth c H1 locs1 cells slots Q (F0 m (pc + 3) ls rest)) : W p l e R s m args below meth c H locs cells slots Q (F0 m pc ls (.long v :: .ref (ad r) :: rest)) :=
  z_put hx hb hT hown hK ly_X2 tyX2 tyX2_ok nmX2 (T := TX2) (N := 7) rfl 6 (by decide) fl_X2_34 (fun _ h => h) rfl (ty := .long) (by decide +kernel) rfl rfl hP hD hS hr he hl hdg kk
theorem gf_X4_92 (hx : p.tables.exec = Jvm.exec) (hb : c.code = cc) (hT : ∀ w ∈ WS, w.before args s = true) (hown : s.vm.findClass RX4 = some m.cls) (hK : zK D ks s) {fs : List Value} {v : Value} (hat : va_at D vwCl (a, .inr (4, fs)) H) (hv : fs[0]? = some v) (hdg : decode cc pc = .ok (.getfield 92, 3)) (kk : W p l e R s m args below meth c H locs cells slots Q (F0 m (pc + 3) ls (v :: rest))) : W p l e R s m args below meth c H locs cells slots Q (F0 m pc ls (.ref a :: rest)) :=
  z_get hx hb hT hown hK ly_X4 (T := TX4) (N := 21) rfl 0 (by decide) fl_X4_92 (fun _ h => h) hat hv hdg kk
theorem pg_X4_92 (hx : p.tables.exec = Jvm.exec) (hb : c.code = cc) (hT : ∀ w ∈ WS, w.before args s = true) (hown : s.vm.findClass RX4 = some m.cls) (hK : zK D ks s) {g : Nat → va_E} (hP : zP D Rs ad g H) (hD : zD A Rs ad) (hS : va_S A s.heap H locs) {r : Nat} (hr : r ∈ Rs) {fs : List Value} {v : Int32} (he : g r = .inr (4, fs)) (hl : 0 < fs.length) (hdg : decode cc pc = .ok (.putfield 92, 3)) (kk : ∀ (H1 : Heap) (locs1 : List Loc), zP D Rs ad (va_up g r (.inr (4, fs.set 0 (.int v)))) H1 → va_S A s.heap H1 locs1 → W p l e R s m args below meth c H1 locs1 cells slots Q (F0 m (pc + 3) ls rest)) : W p l e R s m args below meth c H locs cells slots Q (F0 m pc ls (.int v :: .ref (ad r) :: rest)) :=
  z_put hx hb hT hown hK ly_X4 tyX4 tyX4_ok nmX4 (T := TX4) (N := 21) rfl 0 (by decide) fl_X4_92 (fun _ h => h) rfl (ty := .int) (by decide +kernel) rfl rfl hP hD hS hr he hl hdg kk
theorem gf_X4_7 (hx : p.tables.exec = Jvm.exec) (hb : c.code = cc) (hT : ∀ w ∈ WS, w.before args s = true) (hown : s.vm.findClass RX4 = some m.cls) (hK : zK D ks s) {fs : List Value} {v : Value} (hat : va_at D vwCl (a, .inr (4, fs)) H) (hv : fs[1]? = some v) (hdg : decode cc pc = .ok (.getfield 7, 3)) (kk : W p l e R s m args below meth c H locs cells slots Q (F0 m (pc + 3) ls (v :: rest))) : W p l e R s m args below meth c H locs cells slots Q (F0 m pc ls (.ref a :: rest)) :=
  z_get hx hb hT hown hK ly_X4 (T := TX4) (N := 21) rfl 1 (by decide) fl_X4_7 (fun _ h => h) hat hv hdg kk
theorem pg_X4_7 (hx : p.tables.exec = Jvm.exec) (hb : c.code = cc) (hT : ∀ w ∈ WS, w.before args s = true) (hown : s.vm.findClass RX4 = some m.cls) (hK : zK D ks s) {g : Nat → va_E} (hP : zP D Rs ad g H) (hD : zD A Rs ad) (hS : va_S A s.heap H locs) {r : Nat} (hr : r ∈ Rs) {fs : List Value} {v : Int32} (he : g r = .inr (4, fs)) (hl : 1 < fs.length) (hdg : decode cc pc = .ok (.putfield 7, 3)) (kk : ∀ (H1 : Heap) (locs1 : List Loc), zP D Rs ad (va_up g r (.inr (4, fs.set 1 (.int v)))) H1 → va_S A s.heap H1 locs1 → W p l e R s m args below meth c H1 locs1 cells slots Q (F0 m (pc + 3) ls rest)) : W p l e R s m args below meth c H locs cells slots Q (F0 m pc ls (.int v :: .ref (ad r) :: rest)) :=
  z_put hx hb hT hown hK ly_X4 tyX4 tyX4_ok nmX4 (T := TX4) (N := 21) rfl 1 (by decide) fl_X4_7 (fun _ h => h) rfl (ty := .int) (by decide +kernel) rfl rfl hP hD hS hr he hl hdg kk
theorem gf_X4_13 (hx : p.tables.exec = Jvm.exec) (hb : c.code = cc) (hT : ∀ w ∈ WS, w.before args s = true) (hown : s.vm.findClass RX4 = some m.cls) (hK : zK D ks s) {fs : List Value} {v : Value} (hat : va_at D vwCl (a, .inr (4, fs)) H) (hv : fs[2]? = some v) (hdg : decode cc pc = .ok (.getfield 13, 3)) (kk : W p l e R s m args below meth c H locs cells slots Q (F0 m (pc + 3) ls (v :: rest))) : W p l e R s m args below meth c H locs cells slots Q (F0 m pc ls (.ref a :: rest)) :=
  z_get hx hb hT hown hK ly_X4 (T := TX4) (N := 21) rfl 2 (by decide) fl_X4_13 (fun _ h => h) hat hv hdg kk
theorem pg_X4_13 (hx : p.tables.exec = Jvm.exec) (hb : c.code = cc) (hT : ∀ w ∈ WS, w.before args s = true) (hown : s.vm.findClass RX4 = some m.cls) (hK : zK D ks s) {g : Nat → va_E} (hP : zP D Rs ad g H) (hD : zD A Rs ad) (hS : va_S A s.heap H locs) {r : Nat} (hr : r ∈ Rs) {fs : List Value} {v : Int32} (he : g r = .inr (4, fs)) (hl : 2 < fs.length) (hdg : decode cc pc = .ok (.putfield 13, 3)) (kk : ∀ (H1 : Heap) (locs1 : List Loc), zP D Rs ad (va_up g r (.inr (4, fs.set 2 (.int v)))) H1 → va_S A s.heap H1 locs1 → W p l e R s m args below meth c H1 locs1 cells slots Q (F0 m (pc + 3) ls rest)) : W p l e R s m args below meth c H locs cells slots Q (F0 m pc ls (.int v :: .ref (ad r) :: rest)) :=
  z_put hx hb hT hown hK ly_X4 tyX4 tyX4_ok nmX4 (T := TX4) (N := 21) rfl 2 (by decide) fl_X4_13 (fun _ h => h) rfl (ty := .int) (by decide +kernel) rfl rfl hP hD hS hr he hl hdg kk
theorem gf_X4_16 (hx : p.tables.exec = Jvm.exec) (hb : c.code = cc) (hT : ∀ w ∈ WS, w.before args s = true) (hown : s.vm.findClass RX4 = some m.cls) (hK : zK D ks s) {fs : List Value} {v : Value} (hat : va_at D vwCl (a, .inr (4, fs)) H) (hv : fs[3]? = some v) (hdg : decode cc pc = .ok (.getfield 16, 3)) (kk : W p l e R s m args below meth c H locs cells slots Q (F0 m (pc + 3) ls (v :: rest))) : W p l e R s m args below meth c H locs cells slots Q (F0 m pc ls (.ref a :: rest)) :=
  z_get hx hb hT hown hK ly_X4 (T := TX4) (N := 21) rfl 3 (by decide) fl_X4_16 (fun _ h => h) hat hv hdg kk
theorem pg_X4_16 (hx : p.tables.exec = Jvm.exec) (hb : c.code = cc) (hT : ∀ w ∈ WS, w.before args s = true) (hown : s.vm.findClass RX4 = some m.cls) (hK : zK D ks s) {g : Nat → va_E} (hP : zP D Rs ad g H) (hD : zD A Rs ad) (hS : va_S A s.heap H locs) {r : Nat} (hr : r ∈ Rs) {fs : List Value} {v : Int32} (he : g r = .inr (4, fs)) (hl : 3 < fs.length) (hdg : decode cc pc = .ok (.putfield 16, 3)) (kk : ∀ (H1 : Heap) (locs1 : List Loc), zP D Rs ad (va_up g r (.inr (4, fs.set 3 (.int v)))) H1 → va_S A s.heap H1 locs1 → W p l e R s m args below meth c H1 locs1 cells slots Q (F0 m (pc + 3) ls rest)) : W p l e R s m args below meth c H locs cells slots Q (F0 m pc ls (.int v :: .ref (ad r) :: rest)) :=
  z_put hx hb hT hown hK ly_X4 tyX4 tyX4_ok nmX4 (T := TX4) (N := 21) rfl 3 (by decide) fl_X4_16 (fun _ h => h) rfl (ty := .int) (by decide +kernel) rfl rfl hP hD hS hr he hl hdg kk
theorem gf_X4_19 (hx : p.tables.exec = Jvm.exec) (hb : c.code = cc) (hT : ∀ w ∈ WS, w.before args s = true) (hown : s.vm.findClass RX4 = some m.cls) (hK : zK D ks s) {fs : List Value} {v : Value} (hat : va_at D vwCl (a, .inr (4, fs)) H) (hv : fs[4]? = some v) (hdg : decode cc pc = .ok (.getfield 19, 3)) (kk : W p l e R s m args below meth c H locs cells slots Q (F0 m (pc + 3) ls (v :: rest))) : W p l e R s m args below meth c H locs cells slots Q (F0 m pc ls (.ref a :: rest)) :=
  z_get hx hb hT hown hK ly_X4 (T := TX4) (N := 21) rfl 4 (by decide) fl_X4_19 (fun _ h => h) hat hv hdg kk
theorem pg_X4_19 (hx : p.tables.exec = Jvm.exec) (hb : c.code = cc) (hT : ∀ w ∈ WS, w.before args s = true) (hown : s.vm.findClass RX4 = some m.cls) (hK : zK D ks s) {g : Nat → va_E} (hP : zP D Rs ad g H) (hD : zD A Rs ad) (hS : va_S A s.heap H locs) {r : Nat} (hr : r ∈ Rs) {fs : List Value} {v : Int32} (he : g r = .inr (4, fs)) (hl : 4 < fs.length) (hdg : decode cc pc = .ok (.putfield 19, 3)) (kk : ∀ (H1 : Heap) (locs1 : List Loc), zP D Rs ad (va_up g r (.inr (4, fs.set 4 (.int v)))) H1 → va_S A s.heap H1 locs1 → W p l e R s m args below meth c H1 locs1 cells slots Q (F0 m (pc + 3) ls rest)) : W p l e R s m args below meth c H locs cells slots Q (F0 m pc ls (.int v :: .ref (ad r) :: rest)) :=
  z_put hx hb hT hown hK ly_X4 tyX4 tyX4_ok nmX4 (T := TX4) (N := 21) rfl 4 (by decide) fl_X4_19 (fun _ h => h) rfl (ty := .int) (by decide +kernel) rfl rfl hP hD hS hr he hl hdg kk
theorem gf_X4_22 (hx : p.tables.exec = Jvm.exec) (hb : c.code = cc) (hT : ∀ w ∈ WS, w.before args s = true) (hown : s.vm.findClass RX4 = some m.cls) (hK : zK D ks s) {fs : List Value} {v : Value} (hat : va_at D vwCl (a, .inr (4, fs)) H) (hv : fs[5]? = some v) (hdg : decode cc pc = .ok (.getfield 22, 3)) (kk : W p l e R s m args below meth c H locs cells slots Q (F0 m (pc + 3) ls (v :: rest))) : W p l e R s m args below meth c H locs cells slots Q (F0 m pc ls (.ref a :: rest)) :=
  z_get hx hb hT hown hK ly_X4 (T := TX4) (N := 21) rfl 5 (by decide) fl_X4_22 (fun _ h => h) hat hv hdg kk
theorem pg_X4_22 (hx : p.tables.exec = Jvm.exec) (hb : c.code = cc) (hT : ∀ w ∈ WS, w.before args s = true) (hown : s.vm.findClass RX4 = some m.cls) (hK : zK D ks s) {g : Nat → va_E} (hP : zP D Rs ad g H) (hD : zD A Rs ad) (hS : va_S A s.heap H locs) {r : Nat} (hr : r ∈ Rs) {fs : List Value} {v : Int32} (he : g r = .inr (4, fs)) (hl : 5 < fs.length) (hdg : decode cc pc = .ok (.putfield 22, 3)) (kk : ∀ (H1 : Heap) (locs1 : List Loc), zP D Rs ad (va_up g r (.inr (4, fs.set 5 (.int v)))) H1 → va_S A s.heap H1 locs1 → W p l e R s m args below meth c H1 locs1 cells slots Q (F0 m (pc + 3) ls rest)) : W p l e R s m args below meth c H locs cells slots Q (F0 m pc ls (.int v :: .ref (ad r) :: rest)) :=
  z_put hx hb hT hown hK ly_X4 tyX4 tyX4_ok nmX4 (T := TX4) (N := 21) rfl 5 (by decide) fl_X4_22 (fun _ h => h) rfl (ty := .int) (by decide +kernel) rfl rfl hP hD hS hr he hl hdg kk
theorem gf_X4_63 (hx : p.tables.exec = Jvm.exec) (hb : c.code = cc) (hT : ∀ w ∈ WS, w.before args s = true) (hown : s.vm.findClass RX4 = some m.cls) (hK : zK D ks s) {fs : List Value} {v : Value} (hat : va_at D vwCl (a, .inr (4, fs)) H) (hv : fs[6]? = some v) (hdg : decode cc pc = .ok (.getfield 63, 3)) (kk : W p l e R s m args below meth c H locs cells slots Q (F0 m (pc + 3) ls (v :: rest))) : W p l e R s m args below meth c H locs cells slots Q (F0 m pc ls (.ref a :: rest)) :=
  z_get hx hb hT hown hK ly_X4 (T := TX4) (N := 21) rfl 6 (by decide) fl_X4_63 (fun _ h => h) hat hv hdg kk
theorem pg_X4_63 (hx : p.tables.exec = Jvm.exec) (hb : c.code = cc) (hT : ∀ w ∈ WS, w.before args s = true) (hown : s.vm.findClass RX4 = some m.cls) (hK : zK D ks s) {g : Nat → va_E} (hP : zP D Rs ad g H) (hD : zD A Rs ad) (hS : va_S A s.heap H locs) {r : Nat} (hr : r ∈ Rs) {fs : List Value} {v : Int32} (he : g r = .inr (4, fs)) (hl : 6 < fs.length) (hdg : decode cc pc = .ok (.putfield 63, 3)) (kk : ∀ (H1 : Heap) (locs1 : List Loc), zP D Rs ad (va_up g r (.inr (4, fs.set 6 (.int v)))) H1 → va_S A s.heap H1 locs1 → W p l e R s m args below meth c H1 locs1 cells slots Q (F0 m (pc + 3) ls rest)) : W p l e R s m args below meth c H locs cells slots Q (F0 m pc ls (.int v :: .ref (ad r) :: rest)) :=
  z_put hx hb hT hown hK ly_X4 tyX4 tyX4_ok nmX4 (T := TX4) (N := 21) rfl 6 (by decide) fl_X4_63 (fun _ h => h) rfl (ty := .int) (by decide +kernel) rfl rfl hP hD hS hr he hl hdg kk
theorem gf_X4_25 (hx : p.tables.exec = Jvm.exec) (hb : c.code = cc) (hT : ∀ w ∈ WS, w.before args s = true) (hown : s.vm.findClass RX4 = some m.cls) (hK : zK D ks s) {fs : List Value} {v : Value} (hat : va_at D vwCl (a, .inr (4, fs)) H) (hv : fs[7]? = some v) (hdg : decode cc pc = .ok (.getfield 25, 3)) (kk : W p l e R s m args below meth c H locs cells slots Q (F0 m (pc + 3) ls (v :: rest))) : W p l e R s m args below meth c H locs cells slots Q (F0 m pc ls (.ref a :: rest)) :=
  z_get hx hb hT hown hK ly_X4 (T := TX4) (N := 21) rfl 7 (by decide) fl_X4_25 (fun _ h => h) hat hv hdg kk
theorem pg_X4_25 (hx : p.tables.exec = Jvm.exec) (hb : c.code = cc) (hT : ∀ w ∈ WS, w.before args s = true) (hown : s.vm.findClass RX4 = some m.cls) (hK : zK D ks s) (hin : meth.name = "<init>") {g : Nat → va_E} (hP : zP D Rs ad g H) (hD : zD A Rs ad) (hS : va_S A s.heap H locs) {r : Nat} (hr : r ∈ Rs) {fs : List Value} {v : Nat} (he : g r = .inr (4, fs)) (hl : 7 < fs.length) (hdg : decode cc pc = .ok (.putfield 25, 3)) (kk : ∀ (H1 : Heap) (locs1 : List Loc), zP D Rs ad (va_up g r (.inr (4, fs.set 7 (.ref v)))) H1 → va_S A s.heap H1 locs1 → W p l e R s m args below meth c H1 locs1 cells slots Q (F0 m (pc + 3) ls rest)) : W p l e R s m args below meth c H locs cells slots Q (F0 m pc ls (.ref v :: .ref (ad r) :: rest)) :=
  z_putF hx hb hT hown hK ly_X4 tyX4 tyX4_ok nmX4 (T := TX4) (N := 21) rfl 7 (by decide) fl_X4_25 (fun _ h => h) rfl hin rfl (ty := tyX4 7) (by decide +kernel) rfl rfl hP hD hS hr he hl hdg kk
theorem gf_X4_29 (hx : p.tables.exec = Jvm.exec) (hb : c.code = cc) (hT : ∀ w ∈ WS, w.before args s = true) (hown : s.vm.findClass RX4 = some m.cls) (hK : zK D ks s) {fs : List Value} {v : Value} (hat : va_at D vwCl (a, .inr (4, fs)) H) (hv : fs[8]? = some v) (hdg : decode cc pc = .ok (.getfield 29, 3)) (kk : W p l e R s m args below meth c H locs cells slots Q (F0 m (pc + 3) ls (v :: rest))) : W p l e R s m args below meth c H locs cells slots Q (F0 m pc ls (.ref a :: rest)) :=
  z_get hx hb hT hown hK ly_X4 (T := TX4) (N := 21) rfl 8 (by decide) fl_X4_29 (fun _ h => h) hat hv hdg kk
theorem pg_X4_29 (hx : p.tables.exec = Jvm.exec) (hb : c.code = cc) (hT : ∀ w ∈ WS, w.before args s = true) (hown : s.vm.findClass RX4 = some m.cls) (hK : zK D ks s) (hin : meth.name = "<init>") {g : Nat → va_E} (hP : zP D Rs ad g H) (hD : zD A Rs ad) (hS : va_S A s.heap H locs) {r : Nat} (hr : r ∈ Rs) {fs : List Value} {v : Nat} (he : g r = .inr (4, fs)) (hl : 8 < fs.length) (hdg : decode cc pc = .ok (.putfield 29, 3)) (kk : ∀ (H1 : Heap) (locs1 : List Loc), zP D Rs ad (va_up g r (.inr (4, fs.set 8 (.ref v)))) H1 → va_S A s.heap H1 locs1 → W p l e R s m args below meth c H1 locs1 cells slots Q (F0 m (pc + 3) ls rest)) : W p l e R s m args below meth c H locs cells slots Q (F0 m pc ls (.ref v :: .ref (ad r) :: rest)) :=
  z_putF hx hb hT hown hK ly_X4 tyX4 tyX4_ok nmX4 (T := TX4) (N := 21) rfl 8 (by decide) fl_X4_29 (fun _ h => h) rfl hin rfl (ty := tyX4 8) (by decide +kernel) rfl rfl hP hD hS hr he hl hdg kk
theorem gf_X4_32 (hx : p.tables.exec = Jvm.exec) (hb : c.code = cc) (hT : ∀ w ∈ WS, w.before args s = true) (hown : s.vm.findClass RX4 = some m.cls) (hK : zK D ks s) {fs : List Value} {v : Value} (hat : va_at D vwCl (a, .inr (4, fs)) H) (hv : fs[9]? = some v) (hdg : decode cc pc = .ok (.getfield 32, 3)) (kk : W p l e R s m args below meth c H locs cells slots Q (F0 m (pc + 3) ls (v :: rest))) : W p l e R s m args below meth c H locs cells slots Q (F0 m pc ls (.ref a :: rest)) :=
  z_get hx hb hT hown hK ly_X4 (T := TX4) (N := 21) rfl 9 (by decide) fl_X4_32 (fun _ h => h) hat hv hdg kk
theorem pg_X4_32 (hx : p.tables.exec = Jvm.exec) (hb : c.code = cc) (hT : ∀ w ∈ WS, w.before args s = true) (hown : s.vm.findClass RX4 = some m.cls) (hK : zK D ks s) (hin : meth.name = "<init>") {g : Nat → va_E} (hP : zP D Rs ad g H) (hD : zD A Rs ad) (hS : va_S A s.heap H locs) {r : Nat} (hr : r ∈ Rs) {fs : List Value} {v : Nat} (he : g r = .inr (4, fs)) (hl : 9 < fs.length) (hdg : decode cc pc = .ok (.putfield 32, 3)) (kk : ∀ (H1 : Heap) (locs1 : List Loc), zP D Rs ad (va_up g r (.inr (4, fs.set 9 (.ref v)))) H1 → va_S A s.heap H1 locs1 → W p l e R s m args below meth c H1 locs1 cells slots Q (F0 m (pc + 3) ls rest)) : W p l e R s m args below meth c H locs cells slots Q (F0 m pc ls (.ref v :: .ref (ad r) :: rest)) :=
  z_putF hx hb hT hown hK ly_X4 tyX4 tyX4_ok nmX4 (T := TX4) (N := 21) rfl 9 (by decide) fl_X4_32 (fun _ h => h) rfl hin rfl (ty := tyX4 9) (by decide +kernel) rfl rfl hP hD hS hr he hl hdg kk
theorem gf_X4_35 (hx : p.tables.exec = Jvm.exec) (hb : c.code = cc) (hT : ∀ w ∈ WS, w.before args s = true) (hown : s.vm.findClass RX4 = some m.cls) (hK : zK D ks s) {fs : List Value} {v : Value} (hat : va_at D vwCl (a, .inr (4, fs)) H) (hv : fs[10]? = some v) (hdg : decode cc pc = .ok (.getfield 35, 3)) (kk : W p l e R s m args below meth c H locs cells slots Q (F0 m (pc + 3) ls (v :: rest))) : W p l e R s m args below meth c H locs cells slots Q (F0 m pc ls (.ref a :: rest)) :=
  z_get hx hb hT hown hK ly_X4 (T := TX4) (N := 21) rfl 10 (by decide) fl_X4_35 (fun _ h => h) hat hv hdg kk
theorem pg_X4_35 (hx : p.tables.exec = Jvm.exec) (hb : c.code = cc) (hT : ∀ w ∈ WS, w.before args s = true) (hown : s.vm.findClass RX4 = some m.cls) (hK : zK D ks s) (hin : meth.name = "<init>") {g : Nat → va_E} (hP : zP D Rs ad g H) (hD : zD A Rs ad) (hS : va_S A s.heap H locs) {r : Nat} (hr : r ∈ Rs) {fs : List Value} {v : Nat} (he : g r = .inr (4, fs)) (hl : 10 < fs.length) (hdg : decode cc pc = .ok (.putfield 35, 3)) (kk : ∀ (H1 : Heap) (locs1 : List Loc), zP D Rs ad (va_up g r (.inr (4, fs.set 10 (.ref v)))) H1 → va_S A s.heap H1 locs1 → W p l e R s m args below meth c H1 locs1 cells slots Q (F0 m (pc + 3) ls rest)) : W p l e R s m args below meth c H locs cells slots Q (F0 m pc ls (.ref v :: .ref (ad r) :: rest)) :=
  z_putF hx hb hT hown hK ly_X4 tyX4 tyX4_ok nmX4 (T := TX4) (N := 21) rfl 10 (by decide) fl_X4_35 (fun _ h => h) rfl hin rfl (ty := tyX4 10) (by decide +kernel) rfl rfl hP hD hS hr he hl hdg kk
theorem gf_X4_38 (hx : p.tables.exec = Jvm.exec) (hb : c.code = cc) (hT : ∀ w ∈ WS, w.before args s = true) (hown : s.vm.findClass RX4 = some m.cls) (hK : zK D ks s) {fs : List Value} {v : Value} (hat : va_at D vwCl (a, .inr (4, fs)) H) (hv : fs[11]? = some v) (hdg : decode cc pc = .ok (.getfield 38, 3)) (kk : W p l e R s m args below meth c H locs cells slots Q (F0 m (pc + 3) ls (v :: rest))) : W p l e R s m args below meth c H locs cells slots Q (F0 m pc ls (.ref a :: rest)) :=
  z_get hx hb hT hown hK ly_X4 (T := TX4) (N := 21) rfl 11 (by decide) fl_X4_38 (fun _ h => h) hat hv hdg kk
theorem pg_X4_38 (hx : p.tables.exec = Jvm.exec) (hb : c.code = cc) (hT : ∀ w ∈ WS, w.before args s = true) (hown : s.vm.findClass RX4 = some m.cls) (hK : zK D ks s) (hin : meth.name = "<init>") {g : Nat → va_E} (hP : zP D Rs ad g H) (hD : zD A Rs ad) (hS : va_S A s.heap H locs) {r : Nat} (hr : r ∈ Rs) {fs : List Value} {v : Nat} (he : g r = .inr (4, fs)) (hl : 11 < fs.length) (hdg : decode cc pc = .ok (.putfield 38, 3)) (kk : ∀ (H1 : Heap) (locs1 : List Loc), zP D Rs ad (va_up g r (.inr (4, fs.set 11 (.ref v)))) H1 → va_S A s.heap H1 locs1 → W p l e R s m args below meth c H1 locs1 cells slots Q (F0 m (pc + 3) ls rest)) : W p l e R s m args below meth c H locs cells slots Q (F0 m pc ls (.ref v :: .ref (ad r) :: rest)) :=
  z_putF hx hb hT hown hK ly_X4 tyX4 tyX4_ok nmX4 (T := TX4) (N := 21) rfl 11 (by decide) fl_X4_38 (fun _ h => h) rfl hin rfl (ty := tyX4 11) (by decide +kernel) rfl rfl hP hD hS hr he hl hdg kk
theorem gf_X4_41 (hx : p.tables.exec = Jvm.exec) (hb : c.code = cc) (hT : ∀ w ∈ WS, w.before args s = true) (hown : s.vm.findClass RX4 = some m.cls) (hK : zK D ks s) {fs : List Value} {v : Value} (hat : va_at D vwCl (a, .inr (4, fs)) H) (hv : fs[12]? = some v) (hdg : decode cc pc = .ok (.getfield 41, 3)) (kk : W p l e R s m args below meth c H locs cells slots Q (F0 m (pc + 3) ls (v :: rest))) : W p l e R s m args below meth c H locs cells slots Q (F0 m pc ls (.ref a :: rest)) :=
  z_get hx hb hT hown hK ly_X4 (T := TX4) (N := 21) rfl 12 (by decide) fl_X4_41 (fun _ h => h) hat hv hdg kk
theorem pg_X4_41 (hx : p.tables.exec = Jvm.exec) (hb : c.code = cc) (hT : ∀ w ∈ WS, w.before args s = true) (hown : s.vm.findClass RX4 = some m.cls) (hK : zK D ks s) (hin : meth.name = "<init>") {g : Nat → va_E} (hP : zP D Rs ad g H) (hD : zD A Rs ad) (hS : va_S A s.heap H locs) {r : Nat} (hr : r ∈ Rs) {fs : List Value} {v : Nat} (he : g r = .inr (4, fs)) (hl : 12 < fs.length) (hdg : decode cc pc = .ok (.putfield 41, 3)) (kk : ∀ (H1 : Heap) (locs1 : List Loc), zP D Rs ad (va_up g r (.inr (4, fs.set 12 (.ref v)))) H1 → va_S A s.heap H1 locs1 → W p l e R s m args below meth c H1 locs1 cells slots Q (F0 m (pc + 3) ls rest)) : W p l e R s m args below meth c H locs cells slots Q (F0 m pc ls (.ref v :: .ref (ad r) :: rest)) :=
  z_putF hx hb hT hown hK ly_X4 tyX4 tyX4_ok nmX4 (T := TX4) (N := 21) rfl 12 (by decide) fl_X4_41 (fun _ h => h) rfl hin rfl (ty := tyX4 12) (by decide +kernel) rfl rfl hP hD hS hr he hl hdg kk
theorem gf_X4_44 (hx : p.tables.exec = Jvm.exec) (hb : c.code = cc) (hT : ∀ w ∈ WS, w.before args s = true) (hown : s.vm.findClass RX4 = some m.cls) (hK : zK D ks s) {fs : List Value} {v : Value} (hat : va_at D vwCl (a, .inr (4, fs)) H) (hv : fs[13]? = some v) (hdg : decode cc pc = .ok (.getfield 44, 3)) (kk : W p l e R s m args below meth c H locs cells slots Q (F0 m (pc + 3) ls (v :: rest))) : W p l e R s m args below meth c H locs cells slots Q (F0 m pc ls (.ref a :: rest)) :=
  z_get hx hb hT hown hK ly_X4 (T := TX4) (N := 21) rfl 13 (by decide) fl_X4_44 (fun _ h => h) hat hv hdg kk
theorem pg_X4_44 (hx : p.tables.exec = Jvm.exec) (hb : c.code = cc) (hT : ∀ w ∈ WS, w.before args s = true) (hown : s.vm.findClass RX4 = some m.cls) (hK : zK D ks s) (hin : meth.name = "<init>") {g : Nat → va_E} (hP : zP D Rs ad g H) (hD : zD A Rs ad) (hS : va_S A s.heap H locs) {r : Nat} (hr : r ∈ Rs) {fs : List Value} {v : Nat} (he : g r = .inr (4, fs)) (hl : 13 < fs.length) (hdg : decode cc pc = .ok (.putfield 44, 3)) (kk : ∀ (H1 : Heap) (locs1 : List Loc), zP D Rs ad (va_up g r (.inr (4, fs.set 13 (.ref v)))) H1 → va_S A s.heap H1 locs1 → W p l e R s m args below meth c H1 locs1 cells slots Q (F0 m (pc + 3) ls rest)) : W p l e R s m args below meth c H locs cells slots Q (F0 m pc ls (.ref v :: .ref (ad r) :: rest)) :=
  z_putF hx hb hT hown hK ly_X4 tyX4 tyX4_ok nmX4 (T := TX4) (N := 21) rfl 13 (by decide) fl_X4_44 (fun _ h => h) rfl hin rfl (ty := tyX4 13) (by decide +kernel) rfl rfl hP hD hS hr he hl hdg kk
theorem gf_X4_47 (hx : p.tables.exec = Jvm.exec) (hb : c.code = cc) (hT : ∀ w ∈ WS, w.before args s = true) (hown : s.vm.findClass RX4 = some m.cls) (hK : zK D ks s) {fs : List Value} {v : Value} (hat : va_at D vwCl (a, .inr (4, fs)) H) (hv : fs[14]? = some v) (hdg : decode cc pc = .ok (.getfield 47, 3)) (kk : W p l e R s m args below meth c H locs cells slots Q (F0 m (pc + 3) ls (v :: rest))) : W p l e R s m args below meth c H locs cells slots Q (F0 m pc ls (.ref a :: rest)) :=
  z_get hx hb hT hown hK ly_X4 (T := TX4) (N := 21) rfl 14 (by decide) fl_X4_47 (fun _ h => h) hat hv hdg kk
theorem pg_X4_47 (hx : p.tables.exec = Jvm.exec) (hb : c.code = cc) (hT : ∀ w ∈ WS, w.before args s = true) (hown : s.vm.findClass RX4 = some m.cls) (hK : zK D ks s) (hin : meth.name = "<init>") {g : Nat → va_E} (hP : zP D Rs ad g H) (hD : zD A Rs ad) (hS : va_S A s.heap H locs) {r : Nat} (hr : r ∈ Rs) {fs : List Value} {v : Nat} (he : g r = .inr (4, fs)) (hl : 14 < fs.length) (hdg : decode cc pc = .ok (.putfield 47, 3)) (kk : ∀ (H1 : Heap) (locs1 : List Loc), zP D Rs ad (va_up g r (.inr (4, fs.set 14 (.ref v)))) H1 → va_S A s.heap H1 locs1 → W p l e R s m args below meth c H1 locs1 cells slots Q (F0 m (pc + 3) ls rest)) : W p l e R s m args below meth c H locs cells slots Q (F0 m pc ls (.ref v :: .ref (ad r) :: rest)) :=
  z_putF hx hb hT hown hK ly_X4 tyX4 tyX4_ok nmX4 (T := TX4) (N := 21) rfl 14 (by decide) fl_X4_47 (fun _ h => h) rfl hin rfl (ty := tyX4 14) (by decide +kernel) rfl rfl hP hD hS hr he hl hdg kk
theorem gf_X4_51 (hx : p.tables.exec = Jvm.exec) (hb : c.code = cc) (hT : ∀ w ∈ WS, w.before args s = true) (hown : s.vm.findClass RX4 = some m.cls) (hK : zK D ks s) {fs : List Value} {v : Value} (hat : va_at D vwCl (a, .inr (4, fs)) H) (hv : fs[15]? = some v) (hdg : decode cc pc = .ok (.getfield 51, 3)) (kk : W p l e R s m args below meth c H locs cells slots Q (F0 m (pc + 3) ls (v :: rest))) : W p l e R s m args below meth c H locs cells slots Q (F0 m pc ls (.ref a :: rest)) :=
  z_get hx hb hT hown hK ly_X4 (T := TX4) (N := 21) rfl 15 (by decide) fl_X4_51 (fun _ h => h) hat hv hdg kk
theorem pg_X4_51 (hx : p.tables.exec = Jvm.exec) (hb : c.code = cc) (hT : ∀ w ∈ WS, w.before args s = true) (hown : s.vm.findClass RX4 = some m.cls) (hK : zK D ks s) (hin : meth.name = "<init>") {g : Nat → va_E} (hP : zP D Rs ad g H) (hD : zD A Rs ad) (hS : va_S A s.heap H locs) {r : Nat} (hr : r ∈ Rs) {fs : List Value} {v : Nat} (he : g r = .inr (4, fs)) (hl : 15 < fs.length) (hdg : decode cc pc = .ok (.putfield 51, 3)) (kk : ∀ (H1 : Heap) (locs1 : List Loc), zP D Rs ad (va_up g r (.inr (4, fs.set 15 (.ref v)))) H1 → va_S A s.heap H1 locs1 → W p l e R s m args below meth c H1 locs1 cells slots Q (F0 m (pc + 3) ls rest)) : W p l e R s m args below meth c H locs cells slots Q (F0 m pc ls (.ref v :: .ref (ad r) :: rest)) :=
  z_putF hx hb hT hown hK ly_X4 tyX4 tyX4_ok nmX4 (T := TX4) (N := 21) rfl 15 (by decide) fl_X4_51 (fun _ h => h) rfl hin rfl (ty := tyX4 15) (by decide +kernel) rfl rfl hP hD hS hr he hl hdg kk
theorem gf_X4_54 (hx : p.tables.exec = Jvm.exec) (hb : c.code = cc) (hT : ∀ w ∈ WS, w.before args s = true) (hown : s.vm.findClass RX4 = some m.cls) (hK : zK D ks s) {fs : List Value} {v : Value} (hat : va_at D vwCl (a, .inr (4, fs)) H) (hv : fs[16]? = some v) (hdg : decode cc pc = .ok (.getfield 54, 3)) (kk : W p l e R s m args below meth c H locs cells slots Q (F0 m (pc + 3) ls (v :: rest))) : W p l e R s m args below meth c H locs cells slots Q (F0 m pc ls (.ref a :: rest)) :=
  z_get hx hb hT hown hK ly_X4 (T := TX4) (N := 21) rfl 16 (by decide) fl_X4_54 (fun _ h => h) hat hv hdg kk
theorem pg_X4_54 (hx : p.tables.exec = Jvm.exec) (hb : c.code = cc) (hT : ∀ w ∈ WS, w.before args s = true) (hown : s.vm.findClass RX4 = some m.cls) (hK : zK D ks s) (hin : meth.name = "<init>") {g : Nat → va_E} (hP : zP D Rs ad g H) (hD : zD A Rs ad) (hS : va_S A s.heap H locs) {r : Nat} (hr : r ∈ Rs) {fs : List Value} {v : Nat} (he : g r = .inr (4, fs)) (hl : 16 < fs.length) (hdg : decode cc pc = .ok (.putfield 54, 3)) (kk : ∀ (H1 : Heap) (locs1 : List Loc), zP D Rs ad (va_up g r (.inr (4, fs.set 16 (.ref v)))) H1 → va_S A s.heap H1 locs1 → W p l e R s m args below meth c H1 locs1 cells slots Q (F0 m (pc + 3) ls rest)) : W p l e R s m args below meth c H locs cells slots Q (F0 m pc ls (.ref v :: .ref (ad r) :: rest)) :=
  z_putF hx hb hT hown hK ly_X4 tyX4 tyX4_ok nmX4 (T := TX4) (N := 21) rfl 16 (by decide) fl_X4_54 (fun _ h => h) rfl hin rfl (ty := tyX4 16) (by decide +kernel) rfl rfl hP hD hS hr he hl hdg kk
theorem gf_X4_57 (hx : p.tables.exec = Jvm.exec) (hb : c.code = cc) (hT : ∀ w ∈ WS, w.before args s = true) (hown : s.vm.findClass RX4 = some m.cls) (hK : zK D ks s) {fs : List Value} {v : Value} (hat : va_at D vwCl (a, .inr (4, fs)) H) (hv : fs[17]? = some v) (hdg : decode cc pc = .ok (.getfield 57, 3)) (kk : W p l e R s m args below meth c H locs cells slots Q (F0 m (pc + 3) ls (v :: rest))) : W p l e R s m args below meth c H locs cells slots Q (F0 m pc ls (.ref a :: rest)) :=
  z_get hx hb hT hown hK ly_X4 (T := TX4) (N := 21) rfl 17 (by decide) fl_X4_57 (fun _ h => h) hat hv hdg kk
theorem pg_X4_57 (hx : p.tables.exec = Jvm.exec) (hb : c.code = cc) (hT : ∀ w ∈ WS, w.before args s = true) (hown : s.vm.findClass RX4 = some m.cls) (hK : zK D ks s) (hin : meth.name = "<init>") {g : Nat → va_E} (hP : zP D Rs ad g H) (hD : zD A Rs ad) (hS : va_S A s.heap H locs) {r : Nat} (hr : r ∈ Rs) {fs : List Value} {v : Nat} (he : g r = .inr (4, fs)) (hl : 17 < fs.length) (hdg : decode cc pc = .ok (.putfield 57, 3)) (kk : ∀ (H1 : Heap) (locs1 : List Loc), zP D Rs ad (va_up g r (.inr (4, fs.set 17 (.ref v)))) H1 → va_S A s.heap H1 locs1 → W p l e R s m args below meth c H1 locs1 cells slots Q (F0 m (pc + 3) ls rest)) : W p l e R s m args below meth c H locs cells slots Q (F0 m pc ls (.ref v :: .ref (ad r) :: rest)) :=
  z_putF hx hb hT hown hK ly_X4 tyX4 tyX4_ok nmX4 (T := TX4) (N := 21) rfl 17 (by decide) fl_X4_57 (fun _ h => h) rfl hin rfl (ty := tyX4 17) (by decide +kernel) rfl rfl hP hD hS hr he hl hdg kk
theorem gf_X4_84 (hx : p.tables.exec = Jvm.exec) (hb : c.code = cc) (hT : ∀ w ∈ WS, w.before args s = true) (hown : s.vm.findClass RX4 = some m.cls) (hK : zK D ks s) {fs : List Value} {v : Value} (hat : va_at D vwCl (a, .inr (4, fs)) H) (hv : fs[18]? = some v) (hdg : decode cc pc = .ok (.getfield 84, 3)) (kk : W p l e R s m args below meth c H locs cells slots Q (F0 m (pc + 3) ls (v :: rest))) : W p l e R s m args below meth c H locs cells slots Q (F0 m pc ls (.ref a :: rest)) :=
  z_get hx hb hT hown hK ly_X4 (T := TX4) (N := 21) rfl 18 (by decide) fl_X4_84 (fun _ h => h) hat hv hdg kk
theorem pg_X4_84 (hx : p.tables.exec = Jvm.exec) (hb : c.code = cc) (hT : ∀ w ∈ WS, w.before args s = true) (hown : s.vm.findClass RX4 = some m.cls) (hK : zK D ks s) {g : Nat → va_E} (hP : zP D Rs ad g H) (hD : zD A Rs ad) (hS : va_S A s.heap H locs) {r : Nat} (hr : r ∈ Rs) {fs : List Value} {v : Int64} (he : g r = .inr (4, fs)) (hl : 18 < fs.length) (hdg : decode cc pc = .ok (.putfield 84, 3)) (kk : ∀ (H1 : Heap) (locs1 : List Loc), zP D Rs ad (va_up g r (.inr (4, fs.set 18 (.long v)))) H1 → va_S A s.heap H1 locs1 → W p l e R s m args below meth c H1 locs1 cells slots Q (F0 m (pc + 3) ls rest)) : W p l e R s m args below meth c H locs cells slots Q (F0 m pc ls (.long v :: .ref (ad r) :: rest)) :=
  z_put hx hb hT hown hK ly_X4 tyX4 tyX4_ok nmX4 (T := TX4) (N := 21) rfl 18 (by decide) fl_X4_84 (fun _ h => h) rfl (ty := .long) (by decide +kernel) rfl rfl hP hD hS hr he hl hdg kk
theorem gf_X4_88 (hx : p.tables.exec = Jvm.exec) (hb : c.code = cc) (hT : ∀ w ∈ WS, w.before args s = true) (hown : s.vm.findClass RX4 = some m.cls) (hK : zK D ks s) {fs : List Value} {v : Value} (hat : va_at D vwCl (a, .inr (4, fs)) H) (hv : fs[19]? = some v) (hdg : decode cc pc = .ok (.getfield 88, 3)) (kk : W p l e R s m args below meth c H locs cells slots Q (F0 m (pc + 3) ls (v :: rest))) : W p l e R s m args below meth c H locs cells slots Q (F0 m pc ls (.ref a :: rest)) :=
  z_get hx hb hT hown hK ly_X4 (T := TX4) (N := 21) rfl 19 (by decide) fl_X4_88 (fun _ h => h) hat hv hdg kk
theorem pg_X4_88 (hx : p.tables.exec = Jvm.exec) (hb : c.code = cc) (hT : ∀ w ∈ WS, w.before args s = true) (hown : s.vm.findClass RX4 = some m.cls) (hK : zK D ks s) {g : Nat → va_E} (hP : zP D Rs ad g H) (hD : zD A Rs ad) (hS : va_S A s.heap H locs) {r : Nat} (hr : r ∈ Rs) {fs : List Value} {v : Int64} (he : g r = .inr (4, fs)) (hl : 19 < fs.length) (hdg : decode cc pc = .ok (.putfield 88, 3)) (kk : ∀ (H1 : Heap) (locs1 : List Loc), zP D Rs ad (va_up g r (.inr (4, fs.set 19 (.long v)))) H1 → va_S A s.heap H1 locs1 → W p l e R s m args below meth c H1 locs1 cells slots Q (F0 m (pc + 3) ls rest)) : W p l e R s m args below meth c H locs cells slots Q (F0 m pc ls (.long v :: .ref (ad r) :: rest)) :=
  z_put hx hb hT hown hK ly_X4 tyX4 tyX4_ok nmX4 (T := TX4) (N := 21) rfl 19 (by decide) fl_X4_88 (fun _ h => h) rfl (ty := .long) (by decide +kernel) rfl rfl hP hD hS hr he hl hdg kk
theorem gf_X4_60 (hx : p.tables.exec = Jvm.exec) (hb : c.code = cc) (hT : ∀ w ∈ WS, w.before args s = true) (hown : s.vm.findClass RX4 = some m.cls) (hK : zK D ks s) {fs : List Value} {v : Value} (hat : va_at D vwCl (a, .inr (4, fs)) H) (hv : fs[20]? = some v) (hdg : decode cc pc = .ok (.getfield 60, 3)) (kk : W p l e R s m args below meth c H locs cells slots Q (F0 m (pc + 3) ls (v :: rest))) : W p l e R s m args below meth c H locs cells slots Q (F0 m pc ls (.ref a :: rest)) :=
  z_get hx hb hT hown hK ly_X4 (T := TX4) (N := 21) rfl 20 (by decide) fl_X4_60 (fun _ h => h) hat hv hdg kk
theorem pg_X4_60 (hx : p.tables.exec = Jvm.exec) (hb : c.code = cc) (hT : ∀ w ∈ WS, w.before args s = true) (hown : s.vm.findClass RX4 = some m.cls) (hK : zK D ks s) {g : Nat → va_E} (hP : zP D Rs ad g H) (hD : zD A Rs ad) (hS : va_S A s.heap H locs) {r : Nat} (hr : r ∈ Rs) {fs : List Value} {v : Int32} (he : g r = .inr (4, fs)) (hl : 20 < fs.length) (hdg : decode cc pc = .ok (.putfield 60, 3)) (kk : ∀ (H1 : Heap) (locs1 : List Loc), zP D Rs ad (va_up g r (.inr (4, fs.set 20 (.int v)))) H1 → va_S A s.heap H1 locs1 → W p l e R s m args below meth c H1 locs1 cells slots Q (F0 m (pc + 3) ls rest)) : W p l e R s m args below meth c H locs cells slots Q (F0 m pc ls (.int v :: .ref (ad r) :: rest)) :=
  z_put hx hb hT hown hK ly_X4 tyX4 tyX4_ok nmX4 (T := TX4) (N := 21) rfl 20 (by decide) fl_X4_60 (fun _ h => h) rfl (ty := .int) (by decide +kernel) rfl rfl hP hD hS hr he hl hdg kk
theorem gf_X1_23 (hx : p.tables.exec = Jvm.exec) (hb : c.code = cc) (hT : ∀ w ∈ WS, w.before args s = true) (hown : s.vm.findClass RX1 = some m.cls) (hK : zK D ks s) {fs : List Value} {v : Value} (hat : va_at D vwCl (a, .inr (0, fs)) H) (hv : fs[0]? = some v) (hdg : decode cc pc = .ok (.getfield 23, 3)) (kk : W p l e R s m args below meth c H locs cells slots Q (F0 m (pc + 3) ls (v :: rest))) : W p l e R s m args below meth c H locs cells slots Q (F0 m pc ls (.ref a :: rest)) :=
  z_getN hx hb hT hown hK ly_X0 (T := TX0) (N := 1) rfl 0 (by decide) nf_X1_23 (fun _ h => h) hat hv hdg kk
theorem pg_X1_23 (hx : p.tables.exec = Jvm.exec) (hb : c.code = cc) (hT : ∀ w ∈ WS, w.before args s = true) (hown : s.vm.findClass RX1 = some m.cls) (hK : zK D ks s) {g : Nat → va_E} (hP : zP D Rs ad g H) (hD : zD A Rs ad) (hS : va_S A s.heap H locs) {r : Nat} (hr : r ∈ Rs) {fs : List Value} {v : Int64} (he : g r = .inr (0, fs)) (hl : 0 < fs.length) (hdg : decode cc pc = .ok (.putfield 23, 3)) (kk : ∀ (H1 : Heap) (locs1 : List Loc), zP D Rs ad (va_up g r (.inr (0, fs.set 0 (.long v)))) H1 → va_S A s.heap H1 locs1 → W p l e R s m args below meth c H1 locs1 cells slots Q (F0 m (pc + 3) ls rest)) : W p l e R s m args below meth c H locs cells slots Q (F0 m pc ls (.long v :: .ref (ad r) :: rest)) :=
  z_putN hx hb hT hown hK ly_X0 tyX0 tyX0_ok nmX0 (T := TX0) (N := 1) rfl 0 (by decide) nf_X1_23 (fun _ h => h) rfl (ty := .long) (by decide +kernel) rfl rfl hP hD hS hr he hl hdg kk
theorem gf_X3_151 (hx : p.tables.exec = Jvm.exec) (hb : c.code = cc) (hT : ∀ w ∈ WS, w.before args s = true) (hown : s.vm.findClass RX3 = some m.cls) (hK : zK D ks s) {fs : List Value} {v : Value} (hat : va_at D vwCl (a, .inr (0, fs)) H) (hv : fs[0]? = some v) (hdg : decode cc pc = .ok (.getfield 151, 3)) (kk : W p l e R s m args below meth c H locs cells slots Q (F0 m (pc + 3) ls (v :: rest))) : W p l e R s m args below meth c H locs cells slots Q (F0 m pc ls (.ref a :: rest)) :=
  z_getN hx hb hT hown hK ly_X0 (T := TX0) (N := 1) rfl 0 (by decide) nf_X3_151 (fun _ h => h) hat hv hdg kk
theorem pg_X3_151 (hx : p.tables.exec = Jvm.exec) (hb : c.code = cc) (hT : ∀ w ∈ WS, w.before args s = true) (hown : s.vm.findClass RX3 = some m.cls) (hK : zK D ks s) {g : Nat → va_E} (hP : zP D Rs ad g H) (hD : zD A Rs ad) (hS : va_S A s.heap H locs) {r : Nat} (hr : r ∈ Rs) {fs : List Value} {v : Int64} (he : g r = .inr (0, fs)) (hl : 0 < fs.length) (hdg : decode cc pc = .ok (.putfield 151, 3)) (kk : ∀ (H1 : Heap) (locs1 : List Loc), zP D Rs ad (va_up g r (.inr (0, fs.set 0 (.long v)))) H1 → va_S A s.heap H1 locs1 → W p l e R s m args below meth c H1 locs1 cells slots Q (F0 m (pc + 3) ls rest)) : W p l e R s m args below meth c H locs cells slots Q (F0 m pc ls (.long v :: .ref (ad r) :: rest)) :=
  z_putN hx hb hT hown hK ly_X0 tyX0 tyX0_ok nmX0 (T := TX0) (N := 1) rfl 0 (by decide) nf_X3_151 (fun _ h => h) rfl (ty := .long) (by decide +kernel) rfl rfl hP hD hS hr he hl hdg kk
theorem gf_X3_196 (hx : p.tables.exec = Jvm.exec) (hb : c.code = cc) (hT : ∀ w ∈ WS, w.before args s = true) (hown : s.vm.findClass RX3 = some m.cls) (hK : zK D ks s) {fs : List Value} {v : Value} (hat : va_at D vwCl (a, .inr (1, fs)) H) (hv : fs[0]? = some v) (hdg : decode cc pc = .ok (.getfield 196, 3)) (kk : W p l e R s m args below meth c H locs cells slots Q (F0 m (pc + 3) ls (v :: rest))) : W p l e R s m args below meth c H locs cells slots Q (F0 m pc ls (.ref a :: rest)) :=
  z_getN hx hb hT hown hK ly_X1 (T := TX1) (N := 4) rfl 0 (by decide) nf_X3_196 (fun _ h => h) hat hv hdg kk
theorem gf_X3_199 (hx : p.tables.exec = Jvm.exec) (hb : c.code = cc) (hT : ∀ w ∈ WS, w.before args s = true) (hown : s.vm.findClass RX3 = some m.cls) (hK : zK D ks s) {fs : List Value} {v : Value} (hat : va_at D vwCl (a, .inr (1, fs)) H) (hv : fs[1]? = some v) (hdg : decode cc pc = .ok (.getfield 199, 3)) (kk : W p l e R s m args below meth c H locs cells slots Q (F0 m (pc + 3) ls (v :: rest))) : W p l e R s m args below meth c H locs cells slots Q (F0 m pc ls (.ref a :: rest)) :=
  z_getN hx hb hT hown hK ly_X1 (T := TX1) (N := 4) rfl 1 (by decide) nf_X3_199 (fun _ h => h) hat hv hdg kk
theorem gf_X3_161 (hx : p.tables.exec = Jvm.exec) (hb : c.code = cc) (hT : ∀ w ∈ WS, w.before args s = true) (hown : s.vm.findClass RX3 = some m.cls) (hK : zK D ks s) {fs : List Value} {v : Value} (hat : va_at D vwCl (a, .inr (1, fs)) H) (hv : fs[2]? = some v) (hdg : decode cc pc = .ok (.getfield 161, 3)) (kk : W p l e R s m args below meth c H locs cells slots Q (F0 m (pc + 3) ls (v :: rest))) : W p l e R s m args below meth c H locs cells slots Q (F0 m pc ls (.ref a :: rest)) :=
  z_getN hx hb hT hown hK ly_X1 (T := TX1) (N := 4) rfl 2 (by decide) nf_X3_161 (fun _ h => h) hat hv hdg kk
theorem gf_X3_208 (hx : p.tables.exec = Jvm.exec) (hb : c.code = cc) (hT : ∀ w ∈ WS, w.before args s = true) (hown : s.vm.findClass RX3 = some m.cls) (hK : zK D ks s) {fs : List Value} {v : Value} (hat : va_at D vwCl (a, .inr (1, fs)) H) (hv : fs[3]? = some v) (hdg : decode cc pc = .ok (.getfield 208, 3)) (kk : W p l e R s m args below meth c H locs cells slots Q (F0 m (pc + 3) ls (v :: rest))) : W p l e R s m args below meth c H locs cells slots Q (F0 m pc ls (.ref a :: rest)) :=
  z_getN hx hb hT hown hK ly_X1 (T := TX1) (N := 4) rfl 3 (by decide) nf_X3_208 (fun _ h => h) hat hv hdg kk
theorem pg_X3_208 (hx : p.tables.exec = Jvm.exec) (hb : c.code = cc) (hT : ∀ w ∈ WS, w.before args s = true) (hown : s.vm.findClass RX3 = some m.cls) (hK : zK D ks s) {g : Nat → va_E} (hP : zP D Rs ad g H) (hD : zD A Rs ad) (hS : va_S A s.heap H locs) {r : Nat} (hr : r ∈ Rs) {fs : List Value} {v : Int64} (he : g r = .inr (1, fs)) (hl : 3 < fs.length) (hdg : decode cc pc = .ok (.putfield 208, 3)) (kk : ∀ (H1 : Heap) (locs1 : List Loc), zP D Rs ad (va_up g r (.inr (1, fs.set 3 (.long v)))) H1 → va_S A s.heap H1 locs1 → W p l e R s m args below meth c H1 locs1 cells slots Q (F0 m (pc + 3) ls rest)) : W p l e R s m args below meth c H locs cells slots Q (F0 m pc ls (.long v :: .ref (ad r) :: rest)) :=
  z_putN hx hb hT hown hK ly_X1 tyX1 tyX1_ok nmX1 (T := TX1) (N := 4) rfl 3 (by decide) nf_X3_208 (fun _ h => h) rfl (ty := .long) (by decide +kernel) rfl rfl hP hD hS hr he hl hdg kk
theorem gf_X3_192 (hx : p.tables.exec = Jvm.exec) (hb : c.code = cc) (hT : ∀ w ∈ WS, w.before args s = true) (hown : s.vm.findClass RX3 = some m.cls) (hK : zK D ks s) {fs : List Value} {v : Value} (hat : va_at D vwCl (a, .inr (2, fs)) H) (hv : fs[0]? = some v) (hdg : decode cc pc = .ok (.getfield 192, 3)) (kk : W p l e R s m args below meth c H locs cells slots Q (F0 m (pc + 3) ls (v :: rest))) : W p l e R s m args below meth c H locs cells slots Q (F0 m pc ls (.ref a :: rest)) :=
  z_getN hx hb hT hown hK ly_X2 (T := TX2) (N := 7) rfl 0 (by decide) nf_X3_192 (fun _ h => h) hat hv hdg kk
theorem gf_X3_218 (hx : p.tables.exec = Jvm.exec) (hb : c.code = cc) (hT : ∀ w ∈ WS, w.before args s = true) (hown : s.vm.findClass RX3 = some m.cls) (hK : zK D ks s) {fs : List Value} {v : Value} (hat : va_at D vwCl (a, .inr (2, fs)) H) (hv : fs[1]? = some v) (hdg : decode cc pc = .ok (.getfield 218, 3)) (kk : W p l e R s m args below meth c H locs cells slots Q (F0 m (pc + 3) ls (v :: rest))) : W p l e R s m args below meth c H locs cells slots Q (F0 m pc ls (.ref a :: rest)) :=
  z_getN hx hb hT hown hK ly_X2 (T := TX2) (N := 7) rfl 1 (by decide) nf_X3_218 (fun _ h => h) hat hv hdg kk
theorem gf_X3_147 (hx : p.tables.exec = Jvm.exec) (hb : c.code = cc) (hT : ∀ w ∈ WS, w.before args s = true) (hown : s.vm.findClass RX3 = some m.cls) (hK : zK D ks s) {fs : List Value} {v : Value} (hat : va_at D vwCl (a, .inr (2, fs)) H) (hv : fs[3]? = some v) (hdg : decode cc pc = .ok (.getfield 147, 3)) (kk : W p l e R s m args below meth c H locs cells slots Q (F0 m (pc + 3) ls (v :: rest))) : W p l e R s m args below meth c H locs cells slots Q (F0 m pc ls (.ref a :: rest)) :=
  z_getN hx hb hT hown hK ly_X2 (T := TX2) (N := 7) rfl 3 (by decide) nf_X3_147 (fun _ h => h) hat hv hdg kk
theorem gf_X3_136 (hx : p.tables.exec = Jvm.exec) (hb : c.code = cc) (hT : ∀ w ∈ WS, w.before args s = true) (hown : s.vm.findClass RX3 = some m.cls) (hK : zK D ks s) {fs : List Value} {v : Value} (hat : va_at D vwCl (a, .inr (2, fs)) H) (hv : fs[4]? = some v) (hdg : decode cc pc = .ok (.getfield 136, 3)) (kk : W p l e R s m args below meth c H locs cells slots Q (F0 m (pc + 3) ls (v :: rest))) : W p l e R s m args below meth c H locs cells slots Q (F0 m pc ls (.ref a :: rest)) :=
  z_getN hx hb hT hown hK ly_X2 (T := TX2) (N := 7) rfl 4 (by decide) nf_X3_136 (fun _ h => h) hat hv hdg kk
theorem pg_X3_136 (hx : p.tables.exec = Jvm.exec) (hb : c.code = cc) (hT : ∀ w ∈ WS, w.before args s = true) (hown : s.vm.findClass RX3 = some m.cls) (hK : zK D ks s) {g : Nat → va_E} (hP : zP D Rs ad g H) (hD : zD A Rs ad) (hS : va_S A s.heap H locs) {r : Nat} (hr : r ∈ Rs) {fs : List Value} {v : Int64} (he : g r = .inr (2, fs)) (hl : 4 < fs.length) (hdg : decode cc pc = .ok (.putfield 136, 3)) (kk : ∀ (H1 : Heap) (locs1 : List Loc), zP D Rs ad (va_up g r (.inr (2, fs.set 4 (.long v)))) H1 → va_S A s.heap H1 locs1 → W p l e R s m args below meth c H1 locs1 cells slots Q (F0 m (pc + 3) ls rest)) : W p l e R s m args below meth c H locs cells slots Q (F0 m pc ls (.long v :: .ref (ad r) :: rest)) :=
  z_putN hx hb hT hown hK ly_X2 tyX2 tyX2_ok nmX2 (T := TX2) (N := 7) rfl 4 (by decide) nf_X3_136 (fun _ h => h) rfl (ty := .long) (by decide +kernel) rfl rfl hP hD hS hr he hl hdg kk
theorem gf_X3_133 (hx : p.tables.exec = Jvm.exec) (hb : c.code = cc) (hT : ∀ w ∈ WS, w.before args s = true) (hown : s.vm.findClass RX3 = some m.cls) (hK : zK D ks s) {fs : List Value} {v : Value} (hat : va_at D vwCl (a, .inr (2, fs)) H) (hv : fs[5]? = some v) (hdg : decode cc pc = .ok (.getfield 133, 3)) (kk : W p l e R s m args below meth c H locs cells slots Q (F0 m (pc + 3) ls (v :: rest))) : W p l e R s m args below meth c H locs cells slots Q (F0 m pc ls (.ref a :: rest)) :=
  z_getN hx hb hT hown hK ly_X2 (T := TX2) (N := 7) rfl 5 (by decide) nf_X3_133 (fun _ h => h) hat hv hdg kk
theorem pg_X3_133 (hx : p.tables.exec = Jvm.exec) (hb : c.code = cc) (hT : ∀ w ∈ WS, w.before args s = true) (hown : s.vm.findClass RX3 = some m.cls) (hK : zK D ks s) {g : Nat → va_E} (hP : zP D Rs ad g H) (hD : zD A Rs ad) (hS : va_S A s.heap H locs) {r : Nat} (hr : r ∈ Rs) {fs : List Value} {v : Int32} (he : g r = .inr (2, fs)) (hl : 5 < fs.length) (hdg : decode cc pc = .ok (.putfield 133, 3)) (kk : ∀ (H1 : Heap) (locs1 : List Loc), zP D Rs ad (va_up g r (.inr (2, fs.set 5 (.int v)))) H1 → va_S A s.heap H1 locs1 → W p l e R s m args below meth c H1 locs1 cells slots Q (F0 m (pc + 3) ls rest)) : W p l e R s m args below meth c H locs cells slots Q (F0 m pc ls (.int v :: .ref (ad r) :: rest)) :=
  z_putN hx hb hT hown hK ly_X2 tyX2 tyX2_ok nmX2 (T := TX2) (N := 7) rfl 5 (by decide) nf_X3_133 (fun _ h => h) rfl (ty := .int) (by decide +kernel) rfl rfl hP hD hS hr he hl hdg kk
theorem gf_X3_164 (hx : p.tables.exec = Jvm.exec) (hb : c.code = cc) (hT : ∀ w ∈ WS, w.before args s = true) (hown : s.vm.findClass RX3 = some m.cls) (hK : zK D ks s) {fs : List Value} {v : Value} (hat : va_at D vwCl (a, .inr (2, fs)) H) (hv : fs[6]? = some v) (hdg : decode cc pc = .ok (.getfield 164, 3)) (kk : W p l e R s m args below meth c H locs cells slots Q (F0 m (pc + 3) ls (v :: rest))) : W p l e R s m args below meth c H locs cells slots Q (F0 m pc ls (.ref a :: rest)) :=
  z_getN hx hb hT hown hK ly_X2 (T := TX2) (N := 7) rfl 6 (by decide) nf_X3_164 (fun _ h => h) hat hv hdg kk
theorem pg_X3_164 (hx : p.tables.exec = Jvm.exec) (hb : c.code = cc) (hT : ∀ w ∈ WS, w.before args s = true) (hown : s.vm.findClass RX3 = some m.cls) (hK : zK D ks s) {g : Nat → va_E} (hP : zP D Rs ad g H) (hD : zD A Rs ad) (hS : va_S A s.heap H locs) {r : Nat} (hr : r ∈ Rs) {fs : List Value} {v : Int64} (he : g r = .inr (2, fs)) (hl : 6 < fs.length) (hdg : decode cc pc = .ok (.putfield 164, 3)) (kk : ∀ (H1 : Heap) (locs1 : List Loc), zP D Rs ad (va_up g r (.inr (2, fs.set 6 (.long v)))) H1 → va_S A s.heap H1 locs1 → W p l e R s m args below meth c H1 locs1 cells slots Q (F0 m (pc + 3) ls rest)) : W p l e R s m args below meth c H locs cells slots Q (F0 m pc ls (.long v :: .ref (ad r) :: rest)) :=
  z_putN hx hb hT hown hK ly_X2 tyX2 tyX2_ok nmX2 (T := TX2) (N := 7) rfl 6 (by decide) nf_X3_164 (fun _ h => h) rfl (ty := .long) (by decide +kernel) rfl rfl hP hD hS hr he hl hdg kk
theorem pf_X3_62 (hx : p.tables.exec = Jvm.exec) (hb : c.code = cc) (hT : ∀ w ∈ WS, w.before args s = true) (hown : s.vm.findClass RX3 = some m.cls) (hK : zK D ks s) (hP : zP D Rs ad (gS ks ad np ng G MI MJ XI XJ) H) (hD : zD A Rs ad) (hS : va_S A s.heap H locs) (hr : 13 ∈ Rs) {v : Int32} (hdg : decode cc pc = .ok (.putfield 62, 3)) (kk : ∀ (H1 : Heap) (locs1 : List Loc), zP D Rs ad (gS ks ad np ng G MI MJ (u2 XI 10 0 v) XJ) H1 → va_S A s.heap H1 locs1 → W p l e R s m args below meth c H1 locs1 cells slots Q (F0 m (pc + 3) ls rest)) : W p l e R s m args below meth c H locs cells slots Q (F0 m pc ls (.int v :: .ref (ad (13)) :: rest)) :=
  pg_X3_62 hx hb hT hown hK hP hD hS hr (r := 13) (he := rfl) (Nat.le_of_ble_eq_true rfl) hdg (fun H1 locs1 hP1 hS1 => kk H1 locs1 (by rw [← gu_o4]; exact hP1) hS1)
theorem pf_X3_205 (hx : p.tables.exec = Jvm.exec) (hb : c.code = cc) (hT : ∀ w ∈ WS, w.before args s = true) (hown : s.vm.findClass RX3 = some m.cls) (hK : zK D ks s) (hP : zP D Rs ad (gS ks ad np ng G MI MJ XI XJ) H) (hD : zD A Rs ad) (hS : va_S A s.heap H locs) (hr : 13 ∈ Rs) {v : Int32} (hdg : decode cc pc = .ok (.putfield 205, 3)) (kk : ∀ (H1 : Heap) (locs1 : List Loc), zP D Rs ad (gS ks ad np ng G MI MJ (u2 XI 10 1 v) XJ) H1 → va_S A s.heap H1 locs1 → W p l e R s m args below meth c H1 locs1 cells slots Q (F0 m (pc + 3) ls rest)) : W p l e R s m args below meth c H locs cells slots Q (F0 m pc ls (.int v :: .ref (ad (13)) :: rest)) :=
  pg_X3_205 hx hb hT hown hK hP hD hS hr (r := 13) (he := rfl) (Nat.le_of_ble_eq_true rfl) hdg (fun H1 locs1 hP1 hS1 => kk H1 locs1 (by rw [← gu_o5]; exact hP1) hS1)
theorem pf_X3_110 (hx : p.tables.exec = Jvm.exec) (hb : c.code = cc) (hT : ∀ w ∈ WS, w.before args s = true) (hown : s.vm.findClass RX3 = some m.cls) (hK : zK D ks s) (hP : zP D Rs ad (gS ks ad np ng G MI MJ XI XJ) H) (hD : zD A Rs ad) (hS : va_S A s.heap H locs) (hr : 13 ∈ Rs) {v : Int32} (hdg : decode cc pc = .ok (.putfield 110, 3)) (kk : ∀ (H1 : Heap) (locs1 : List Loc), zP D Rs ad (gS ks ad np ng G MI MJ (u2 XI 10 2 v) XJ) H1 → va_S A s.heap H1 locs1 → W p l e R s m args below meth c H1 locs1 cells slots Q (F0 m (pc + 3) ls rest)) : W p l e R s m args below meth c H locs cells slots Q (F0 m pc ls (.int v :: .ref (ad (13)) :: rest)) :=
  pg_X3_110 hx hb hT hown hK hP hD hS hr (r := 13) (he := rfl) (Nat.le_of_ble_eq_true rfl) hdg (fun H1 locs1 hP1 hS1 => kk H1 locs1 (by rw [← gu_o6]; exact hP1) hS1)
theorem pf_X3_30 (hx : p.tables.exec = Jvm.exec) (hb : c.code = cc) (hT : ∀ w ∈ WS, w.before args s = true) (hown : s.vm.findClass RX3 = some m.cls) (hK : zK D ks s) (hP : zP D Rs ad (gS ks ad np ng G MI MJ XI XJ) H) (hD : zD A Rs ad) (hS : va_S A s.heap H locs) (hr : 13 ∈ Rs) {v : Int32} (hdg : decode cc pc = .ok (.putfield 30, 3)) (kk : ∀ (H1 : Heap) (locs1 : List Loc), zP D Rs ad (gS ks ad np ng G MI MJ (u2 XI 10 3 v) XJ) H1 → va_S A s.heap H1 locs1 → W p l e R s m args below meth c H1 locs1 cells slots Q (F0 m (pc + 3) ls rest)) : W p l e R s m args below meth c H locs cells slots Q (F0 m pc ls (.int v :: .ref (ad (13)) :: rest)) :=
  pg_X3_30 hx hb hT hown hK hP hD hS hr (r := 13) (he := rfl) (Nat.le_of_ble_eq_true rfl) hdg (fun H1 locs1 hP1 hS1 => kk H1 locs1 (by rw [← gu_o7]; exact hP1) hS1)
theorem pf_X3_34 (hx : p.tables.exec = Jvm.exec) (hb : c.code = cc) (hT : ∀ w ∈ WS, w.before args s = true) (hown : s.vm.findClass RX3 = some m.cls) (hK : zK D ks s) (hP : zP D Rs ad (gS ks ad np ng G MI MJ XI XJ) H) (hD : zD A Rs ad) (hS : va_S A s.heap H locs) (hr : 13 ∈ Rs) {v : Int32} (hdg : decode cc pc = .ok (.putfield 34, 3)) (kk : ∀ (H1 : Heap) (locs1 : List Loc), zP D Rs ad (gS ks ad np ng G MI MJ (u2 XI 10 4 v) XJ) H1 → va_S A s.heap H1 locs1 → W p l e R s m args below meth c H1 locs1 cells slots Q (F0 m (pc + 3) ls rest)) : W p l e R s m args below meth c H locs cells slots Q (F0 m pc ls (.int v :: .ref (ad (13)) :: rest)) :=
  pg_X3_34 hx hb hT hown hK hP hD hS hr (r := 13) (he := rfl) (Nat.le_of_ble_eq_true rfl) hdg (fun H1 locs1 hP1 hS1 => kk H1 locs1 (by rw [← gu_o8]; exact hP1) hS1)
theorem pf_X3_37 (hx : p.tables.exec = Jvm.exec) (hb : c.code = cc) (hT : ∀ w ∈ WS, w.before args s = true) (hown : s.vm.findClass RX3 = some m.cls) (hK : zK D ks s) (hP : zP D Rs ad (gS ks ad np ng G MI MJ XI XJ) H) (hD : zD A Rs ad) (hS : va_S A s.heap H locs) (hr : 13 ∈ Rs) {v : Int32} (hdg : decode cc pc = .ok (.putfield 37, 3)) (kk : ∀ (H1 : Heap) (locs1 : List Loc), zP D Rs ad (gS ks ad np ng G MI MJ (u2 XI 10 5 v) XJ) H1 → va_S A s.heap H1 locs1 → W p l e R s m args below meth c H1 locs1 cells slots Q (F0 m (pc + 3) ls rest)) : W p l e R s m args below meth c H locs cells slots Q (F0 m pc ls (.int v :: .ref (ad (13)) :: rest)) :=
  pg_X3_37 hx hb hT hown hK hP hD hS hr (r := 13) (he := rfl) (Nat.le_of_ble_eq_true rfl) hdg (fun H1 locs1 hP1 hS1 => kk H1 locs1 (by rw [← gu_o9]; exact hP1) hS1)
theorem pf_X3_40 (hx : p.tables.exec = Jvm.exec) (hb : c.code = cc) (hT : ∀ w ∈ WS, w.before args s = true) (hown : s.vm.findClass RX3 = some m.cls) (hK : zK D ks s) (hP : zP D Rs ad (gS ks ad np ng G MI MJ XI XJ) H) (hD : zD A Rs ad) (hS : va_S A s.heap H locs) (hr : 13 ∈ Rs) {v : Int32} (hdg : decode cc pc = .ok (.putfield 40, 3)) (kk : ∀ (H1 : Heap) (locs1 : List Loc), zP D Rs ad (gS ks ad np ng G MI MJ (u2 XI 10 6 v) XJ) H1 → va_S A s.heap H1 locs1 → W p l e R s m args below meth c H1 locs1 cells slots Q (F0 m (pc + 3) ls rest)) : W p l e R s m args below meth c H locs cells slots Q (F0 m pc ls (.int v :: .ref (ad (13)) :: rest)) :=
  pg_X3_40 hx hb hT hown hK hP hD hS hr (r := 13) (he := rfl) (Nat.le_of_ble_eq_true rfl) hdg (fun H1 locs1 hP1 hS1 => kk H1 locs1 (by rw [← gu_o10]; exact hP1) hS1)
theorem pf_X3_43 (hx : p.tables.exec = Jvm.exec) (hb : c.code = cc) (hT : ∀ w ∈ WS, w.before args s = true) (hown : s.vm.findClass RX3 = some m.cls) (hK : zK D ks s) (hP : zP D Rs ad (gS ks ad np ng G MI MJ XI XJ) H) (hD : zD A Rs ad) (hS : va_S A s.heap H locs) (hr : 13 ∈ Rs) {v : Int32} (hdg : decode cc pc = .ok (.putfield 43, 3)) (kk : ∀ (H1 : Heap) (locs1 : List Loc), zP D Rs ad (gS ks ad np ng G MI MJ (u2 XI 10 7 v) XJ) H1 → va_S A s.heap H1 locs1 → W p l e R s m args below meth c H1 locs1 cells slots Q (F0 m (pc + 3) ls rest)) : W p l e R s m args below meth c H locs cells slots Q (F0 m pc ls (.int v :: .ref (ad (13)) :: rest)) :=
  pg_X3_43 hx hb hT hown hK hP hD hS hr (r := 13) (he := rfl) (Nat.le_of_ble_eq_true rfl) hdg (fun H1 locs1 hP1 hS1 => kk H1 locs1 (by rw [← gu_o11]; exact hP1) hS1)
theorem pf_X3_101 (hx : p.tables.exec = Jvm.exec) (hb : c.code = cc) (hT : ∀ w ∈ WS, w.before args s = true) (hown : s.vm.findClass RX3 = some m.cls) (hK : zK D ks s) (hP : zP D Rs ad (gS ks ad np ng G MI MJ XI XJ) H) (hD : zD A Rs ad) (hS : va_S A s.heap H locs) (hr : 13 ∈ Rs) {v : Int64} (hdg : decode cc pc = .ok (.putfield 101, 3)) (kk : ∀ (H1 : Heap) (locs1 : List Loc), zP D Rs ad (gS ks ad np ng G MI MJ XI (u2 XJ 4 0 v)) H1 → va_S A s.heap H1 locs1 → W p l e R s m args below meth c H1 locs1 cells slots Q (F0 m (pc + 3) ls rest)) : W p l e R s m args below meth c H locs cells slots Q (F0 m pc ls (.long v :: .ref (ad (13)) :: rest)) :=
  pg_X3_101 hx hb hT hown hK hP hD hS hr (r := 13) (he := rfl) (Nat.le_of_ble_eq_true rfl) hdg (fun H1 locs1 hP1 hS1 => kk H1 locs1 (by rw [← gu_o12]; exact hP1) hS1)
theorem pf_X3_105 (hx : p.tables.exec = Jvm.exec) (hb : c.code = cc) (hT : ∀ w ∈ WS, w.before args s = true) (hown : s.vm.findClass RX3 = some m.cls) (hK : zK D ks s) (hP : zP D Rs ad (gS ks ad np ng G MI MJ XI XJ) H) (hD : zD A Rs ad) (hS : va_S A s.heap H locs) (hr : 13 ∈ Rs) {v : Int64} (hdg : decode cc pc = .ok (.putfield 105, 3)) (kk : ∀ (H1 : Heap) (locs1 : List Loc), zP D Rs ad (gS ks ad np ng G MI MJ XI (u2 XJ 4 1 v)) H1 → va_S A s.heap H1 locs1 → W p l e R s m args below meth c H1 locs1 cells slots Q (F0 m (pc + 3) ls rest)) : W p l e R s m args below meth c H locs cells slots Q (F0 m pc ls (.long v :: .ref (ad (13)) :: rest)) :=
  pg_X3_105 hx hb hT hown hK hP hD hS hr (r := 13) (he := rfl) (Nat.le_of_ble_eq_true rfl) hdg (fun H1 locs1 hP1 hS1 => kk H1 locs1 (by rw [← gu_o13]; exact hP1) hS1)
theorem pf_X1_27 (hx : p.tables.exec = Jvm.exec) (hb : c.code = cc) (hT : ∀ w ∈ WS, w.before args s = true) (hown : s.vm.findClass RX1 = some m.cls) (hK : zK D ks s) (hP : zP D Rs ad (gS ks ad np ng G MI MJ XI XJ) H) (hD : zD A Rs ad) (hS : va_S A s.heap H locs) {i : Nat} (hr : 20 + 4 * i ∈ Rs) {v : Int64} (hdg : decode cc pc = .ok (.putfield 27, 3)) (kk : ∀ (H1 : Heap) (locs1 : List Loc), zP D Rs ad (gS ks ad np ng G MI MJ XI (u2 XJ 7 i v)) H1 → va_S A s.heap H1 locs1 → W p l e R s m args below meth c H1 locs1 cells slots Q (F0 m (pc + 3) ls rest)) : W p l e R s m args below meth c H locs cells slots Q (F0 m pc ls (.long v :: .ref (ad (20 + 4 * i)) :: rest)) :=
  pg_X1_27 hx hb hT hown hK hP hD hS hr (r := 20 + 4 * i) (he := gS_0) (Nat.le_of_ble_eq_true rfl) hdg (fun H1 locs1 hP1 hS1 => kk H1 locs1 (by rw [← gu_gprem]; exact hP1) hS1)
theorem pf_X2_38 (hx : p.tables.exec = Jvm.exec) (hb : c.code = cc) (hT : ∀ w ∈ WS, w.before args s = true) (hown : s.vm.findClass RX2 = some m.cls) (hK : zK D ks s) (hP : zP D Rs ad (gS ks ad np ng G MI MJ XI XJ) H) (hD : zD A Rs ad) (hS : va_S A s.heap H locs) {i : Nat} (hr : 22 + 4 * i ∈ Rs) {v : Int64} (hdg : decode cc pc = .ok (.putfield 38, 3)) (kk : ∀ (H1 : Heap) (locs1 : List Loc), zP D Rs ad (gS ks ad np ng G MI MJ XI (u2 XJ 10 i v)) H1 → va_S A s.heap H1 locs1 → W p l e R s m args below meth c H1 locs1 cells slots Q (F0 m (pc + 3) ls rest)) : W p l e R s m args below meth c H locs cells slots Q (F0 m pc ls (.long v :: .ref (ad (22 + 4 * i)) :: rest)) :=
  pg_X2_38 hx hb hT hown hK hP hD hS hr (r := 22 + 4 * i) (he := gS_2) (Nat.le_of_ble_eq_true rfl) hdg (fun H1 locs1 hP1 hS1 => kk H1 locs1 (by rw [← gu_pbon]; exact hP1) hS1)
theorem pf_X2_29 (hx : p.tables.exec = Jvm.exec) (hb : c.code = cc) (hT : ∀ w ∈ WS, w.before args s = true) (hown : s.vm.findClass RX2 = some m.cls) (hK : zK D ks s) (hP : zP D Rs ad (gS ks ad np ng G MI MJ XI XJ) H) (hD : zD A Rs ad) (hS : va_S A s.heap H locs) {i : Nat} (hr : 22 + 4 * i ∈ Rs) {v : Int32} (hdg : decode cc pc = .ok (.putfield 29, 3)) (kk : ∀ (H1 : Heap) (locs1 : List Loc), zP D Rs ad (gS ks ad np ng G MI MJ (u2 XI 15 i v) XJ) H1 → va_S A s.heap H1 locs1 → W p l e R s m args below meth c H1 locs1 cells slots Q (F0 m (pc + 3) ls rest)) : W p l e R s m args below meth c H locs cells slots Q (F0 m pc ls (.int v :: .ref (ad (22 + 4 * i)) :: rest)) :=
  pg_X2_29 hx hb hT hown hK hP hD hS hr (r := 22 + 4 * i) (he := gS_2) (Nat.le_of_ble_eq_true rfl) hdg (fun H1 locs1 hP1 hS1 => kk H1 locs1 (by rw [← gu_pst]; exact hP1) hS1)
theorem pf_X2_34 (hx : p.tables.exec = Jvm.exec) (hb : c.code = cc) (hT : ∀ w ∈ WS, w.before args s = true) (hown : s.vm.findClass RX2 = some m.cls) (hK : zK D ks s) (hP : zP D Rs ad (gS ks ad np ng G MI MJ XI XJ) H) (hD : zD A Rs ad) (hS : va_S A s.heap H locs) {i : Nat} (hr : 22 + 4 * i ∈ Rs) {v : Int64} (hdg : decode cc pc = .ok (.putfield 34, 3)) (kk : ∀ (H1 : Heap) (locs1 : List Loc), zP D Rs ad (gS ks ad np ng G MI MJ XI (u2 XJ 11 i v)) H1 → va_S A s.heap H1 locs1 → W p l e R s m args below meth c H1 locs1 cells slots Q (F0 m (pc + 3) ls rest)) : W p l e R s m args below meth c H locs cells slots Q (F0 m pc ls (.long v :: .ref (ad (22 + 4 * i)) :: rest)) :=
  pg_X2_34 hx hb hT hown hK hP hD hS hr (r := 22 + 4 * i) (he := gS_2) (Nat.le_of_ble_eq_true rfl) hdg (fun H1 locs1 hP1 hS1 => kk H1 locs1 (by rw [← gu_ppaid]; exact hP1) hS1)
theorem pf_X4_92 (hx : p.tables.exec = Jvm.exec) (hb : c.code = cc) (hT : ∀ w ∈ WS, w.before args s = true) (hown : s.vm.findClass RX4 = some m.cls) (hK : zK D ks s) (hP : zP D Rs ad (gS ks ad np ng G MI MJ XI XJ) H) (hD : zD A Rs ad) (hS : va_S A s.heap H locs) (hr : 0 ∈ Rs) {v : Int32} (hdg : decode cc pc = .ok (.putfield 92, 3)) (kk : ∀ (H1 : Heap) (locs1 : List Loc), zP D Rs ad (gS ks ad np ng G (u2 MI 0 0 v) MJ XI XJ) H1 → va_S A s.heap H1 locs1 → W p l e R s m args below meth c H1 locs1 cells slots Q (F0 m (pc + 3) ls rest)) : W p l e R s m args below meth c H locs cells slots Q (F0 m pc ls (.int v :: .ref (ad (0)) :: rest)) :=
  pg_X4_92 hx hb hT hown hK hP hD hS hr (r := 0) (he := rfl) (Nat.le_of_ble_eq_true rfl) hdg (fun H1 locs1 hP1 hS1 => kk H1 locs1 (by rw [← gu_m0]; exact hP1) hS1)
theorem pf_X4_7 (hx : p.tables.exec = Jvm.exec) (hb : c.code = cc) (hT : ∀ w ∈ WS, w.before args s = true) (hown : s.vm.findClass RX4 = some m.cls) (hK : zK D ks s) (hP : zP D Rs ad (gS ks ad np ng G MI MJ XI XJ) H) (hD : zD A Rs ad) (hS : va_S A s.heap H locs) (hr : 0 ∈ Rs) {v : Int32} (hdg : decode cc pc = .ok (.putfield 7, 3)) (kk : ∀ (H1 : Heap) (locs1 : List Loc), zP D Rs ad (gS ks ad np ng G (u2 MI 0 1 v) MJ XI XJ) H1 → va_S A s.heap H1 locs1 → W p l e R s m args below meth c H1 locs1 cells slots Q (F0 m (pc + 3) ls rest)) : W p l e R s m args below meth c H locs cells slots Q (F0 m pc ls (.int v :: .ref (ad (0)) :: rest)) :=
  pg_X4_7 hx hb hT hown hK hP hD hS hr (r := 0) (he := rfl) (Nat.le_of_ble_eq_true rfl) hdg (fun H1 locs1 hP1 hS1 => kk H1 locs1 (by rw [← gu_m1]; exact hP1) hS1)
theorem pf_X4_13 (hx : p.tables.exec = Jvm.exec) (hb : c.code = cc) (hT : ∀ w ∈ WS, w.before args s = true) (hown : s.vm.findClass RX4 = some m.cls) (hK : zK D ks s) (hP : zP D Rs ad (gS ks ad np ng G MI MJ XI XJ) H) (hD : zD A Rs ad) (hS : va_S A s.heap H locs) (hr : 0 ∈ Rs) {v : Int32} (hdg : decode cc pc = .ok (.putfield 13, 3)) (kk : ∀ (H1 : Heap) (locs1 : List Loc), zP D Rs ad (gS ks ad np ng G (u2 MI 0 2 v) MJ XI XJ) H1 → va_S A s.heap H1 locs1 → W p l e R s m args below meth c H1 locs1 cells slots Q (F0 m (pc + 3) ls rest)) : W p l e R s m args below meth c H locs cells slots Q (F0 m pc ls (.int v :: .ref (ad (0)) :: rest)) :=
  pg_X4_13 hx hb hT hown hK hP hD hS hr (r := 0) (he := rfl) (Nat.le_of_ble_eq_true rfl) hdg (fun H1 locs1 hP1 hS1 => kk H1 locs1 (by rw [← gu_m2]; exact hP1) hS1)
theorem pf_X4_16 (hx : p.tables.exec = Jvm.exec) (hb : c.code = cc) (hT : ∀ w ∈ WS, w.before args s = true) (hown : s.vm.findClass RX4 = some m.cls) (hK : zK D ks s) (hP : zP D Rs ad (gS ks ad np ng G MI MJ XI XJ) H) (hD : zD A Rs ad) (hS : va_S A s.heap H locs) (hr : 0 ∈ Rs) {v : Int32} (hdg : decode cc pc = .ok (.putfield 16, 3)) (kk : ∀ (H1 : Heap) (locs1 : List Loc), zP D Rs ad (gS ks ad np ng G (u2 MI 0 3 v) MJ XI XJ) H1 → va_S A s.heap H1 locs1 → W p l e R s m args below meth c H1 locs1 cells slots Q (F0 m (pc + 3) ls rest)) : W p l e R s m args below meth c H locs cells slots Q (F0 m pc ls (.int v :: .ref (ad (0)) :: rest)) :=
  pg_X4_16 hx hb hT hown hK hP hD hS hr (r := 0) (he := rfl) (Nat.le_of_ble_eq_true rfl) hdg (fun H1 locs1 hP1 hS1 => kk H1 locs1 (by rw [← gu_m3]; exact hP1) hS1)
theorem pf_X4_19 (hx : p.tables.exec = Jvm.exec) (hb : c.code = cc) (hT : ∀ w ∈ WS, w.before args s = true) (hown : s.vm.findClass RX4 = some m.cls) (hK : zK D ks s) (hP : zP D Rs ad (gS ks ad np ng G MI MJ XI XJ) H) (hD : zD A Rs ad) (hS : va_S A s.heap H locs) (hr : 0 ∈ Rs) {v : Int32} (hdg : decode cc pc = .ok (.putfield 19, 3)) (kk : ∀ (H1 : Heap) (locs1 : List Loc), zP D Rs ad (gS ks ad np ng G (u2 MI 0 4 v) MJ XI XJ) H1 → va_S A s.heap H1 locs1 → W p l e R s m args below meth c H1 locs1 cells slots Q (F0 m (pc + 3) ls rest)) : W p l e R s m args below meth c H locs cells slots Q (F0 m pc ls (.int v :: .ref (ad (0)) :: rest)) :=
  pg_X4_19 hx hb hT hown hK hP hD hS hr (r := 0) (he := rfl) (Nat.le_of_ble_eq_true rfl) hdg (fun H1 locs1 hP1 hS1 => kk H1 locs1 (by rw [← gu_m4]; exact hP1) hS1)
theorem pf_X4_22 (hx : p.tables.exec = Jvm.exec) (hb : c.code = cc) (hT : ∀ w ∈ WS, w.before args s = true) (hown : s.vm.findClass RX4 = some m.cls) (hK : zK D ks s) (hP : zP D Rs ad (gS ks ad np ng G MI MJ XI XJ) H) (hD : zD A Rs ad) (hS : va_S A s.heap H locs) (hr : 0 ∈ Rs) {v : Int32} (hdg : decode cc pc = .ok (.putfield 22, 3)) (kk : ∀ (H1 : Heap) (locs1 : List Loc), zP D Rs ad (gS ks ad np ng G (u2 MI 0 5 v) MJ XI XJ) H1 → va_S A s.heap H1 locs1 → W p l e R s m args below meth c H1 locs1 cells slots Q (F0 m (pc + 3) ls rest)) : W p l e R s m args below meth c H locs cells slots Q (F0 m pc ls (.int v :: .ref (ad (0)) :: rest)) :=
  pg_X4_22 hx hb hT hown hK hP hD hS hr (r := 0) (he := rfl) (Nat.le_of_ble_eq_true rfl) hdg (fun H1 locs1 hP1 hS1 => kk H1 locs1 (by rw [← gu_m5]; exact hP1) hS1)
theorem pf_X4_63 (hx : p.tables.exec = Jvm.exec) (hb : c.code = cc) (hT : ∀ w ∈ WS, w.before args s = true) (hown : s.vm.findClass RX4 = some m.cls) (hK : zK D ks s) (hP : zP D Rs ad (gS ks ad np ng G MI MJ XI XJ) H) (hD : zD A Rs ad) (hS : va_S A s.heap H locs) (hr : 0 ∈ Rs) {v : Int32} (hdg : decode cc pc = .ok (.putfield 63, 3)) (kk : ∀ (H1 : Heap) (locs1 : List Loc), zP D Rs ad (gS ks ad np ng G (u2 MI 0 6 v) MJ XI XJ) H1 → va_S A s.heap H1 locs1 → W p l e R s m args below meth c H1 locs1 cells slots Q (F0 m (pc + 3) ls rest)) : W p l e R s m args below meth c H locs cells slots Q (F0 m pc ls (.int v :: .ref (ad (0)) :: rest)) :=
  pg_X4_63 hx hb hT hown hK hP hD hS hr (r := 0) (he := rfl) (Nat.le_of_ble_eq_true rfl) hdg (fun H1 locs1 hP1 hS1 => kk H1 locs1 (by rw [← gu_m6]; exact hP1) hS1)
theorem pf_X4_84 (hx : p.tables.exec = Jvm.exec) (hb : c.code = cc) (hT : ∀ w ∈ WS, w.before args s = true) (hown : s.vm.findClass RX4 = some m.cls) (hK : zK D ks s) (hP : zP D Rs ad (gS ks ad np ng G MI MJ XI XJ) H) (hD : zD A Rs ad) (hS : va_S A s.heap H locs) (hr : 0 ∈ Rs) {v : Int64} (hdg : decode cc pc = .ok (.putfield 84, 3)) (kk : ∀ (H1 : Heap) (locs1 : List Loc), zP D Rs ad (gS ks ad np ng G MI (u2 MJ 0 0 v) XI XJ) H1 → va_S A s.heap H1 locs1 → W p l e R s m args below meth c H1 locs1 cells slots Q (F0 m (pc + 3) ls rest)) : W p l e R s m args below meth c H locs cells slots Q (F0 m pc ls (.long v :: .ref (ad (0)) :: rest)) :=
  pg_X4_84 hx hb hT hown hK hP hD hS hr (r := 0) (he := rfl) (Nat.le_of_ble_eq_true rfl) hdg (fun H1 locs1 hP1 hS1 => kk H1 locs1 (by rw [← gu_m18]; exact hP1) hS1)
theorem pf_X4_88 (hx : p.tables.exec = Jvm.exec) (hb : c.code = cc) (hT : ∀ w ∈ WS, w.before args s = true) (hown : s.vm.findClass RX4 = some m.cls) (hK : zK D ks s) (hP : zP D Rs ad (gS ks ad np ng G MI MJ XI XJ) H) (hD : zD A Rs ad) (hS : va_S A s.heap H locs) (hr : 0 ∈ Rs) {v : Int64} (hdg : decode cc pc = .ok (.putfield 88, 3)) (kk : ∀ (H1 : Heap) (locs1 : List Loc), zP D Rs ad (gS ks ad np ng G MI (u2 MJ 0 1 v) XI XJ) H1 → va_S A s.heap H1 locs1 → W p l e R s m args below meth c H1 locs1 cells slots Q (F0 m (pc + 3) ls rest)) : W p l e R s m args below meth c H locs cells slots Q (F0 m pc ls (.long v :: .ref (ad (0)) :: rest)) :=
  pg_X4_88 hx hb hT hown hK hP hD hS hr (r := 0) (he := rfl) (Nat.le_of_ble_eq_true rfl) hdg (fun H1 locs1 hP1 hS1 => kk H1 locs1 (by rw [← gu_m19]; exact hP1) hS1)
theorem pf_X4_60 (hx : p.tables.exec = Jvm.exec) (hb : c.code = cc) (hT : ∀ w ∈ WS, w.before args s = true) (hown : s.vm.findClass RX4 = some m.cls) (hK : zK D ks s) (hP : zP D Rs ad (gS ks ad np ng G MI MJ XI XJ) H) (hD : zD A Rs ad) (hS : va_S A s.heap H locs) (hr : 0 ∈ Rs) {v : Int32} (hdg : decode cc pc = .ok (.putfield 60, 3)) (kk : ∀ (H1 : Heap) (locs1 : List Loc), zP D Rs ad (gS ks ad np ng G (u2 MI 0 7 v) MJ XI XJ) H1 → va_S A s.heap H1 locs1 → W p l e R s m args below meth c H1 locs1 cells slots Q (F0 m (pc + 3) ls rest)) : W p l e R s m args below meth c H locs cells slots Q (F0 m pc ls (.int v :: .ref (ad (0)) :: rest)) :=
  pg_X4_60 hx hb hT hown hK hP hD hS hr (r := 0) (he := rfl) (Nat.le_of_ble_eq_true rfl) hdg (fun H1 locs1 hP1 hS1 => kk H1 locs1 (by rw [← gu_m20]; exact hP1) hS1)
theorem pf_X1_23 (hx : p.tables.exec = Jvm.exec) (hb : c.code = cc) (hT : ∀ w ∈ WS, w.before args s = true) (hown : s.vm.findClass RX1 = some m.cls) (hK : zK D ks s) (hP : zP D Rs ad (gS ks ad np ng G MI MJ XI XJ) H) (hD : zD A Rs ad) (hS : va_S A s.heap H locs) {i : Nat} (hr : 21 + 4 * i ∈ Rs) {v : Int64} (hdg : decode cc pc = .ok (.putfield 23, 3)) (kk : ∀ (H1 : Heap) (locs1 : List Loc), zP D Rs ad (gS ks ad np ng G MI MJ XI (u2 XJ 8 i v)) H1 → va_S A s.heap H1 locs1 → W p l e R s m args below meth c H1 locs1 cells slots Q (F0 m (pc + 3) ls rest)) : W p l e R s m args below meth c H locs cells slots Q (F0 m pc ls (.long v :: .ref (ad (21 + 4 * i)) :: rest)) :=
  pg_X1_23 hx hb hT hown hK hP hD hS hr (r := 21 + 4 * i) (he := gS_1) (Nat.le_of_ble_eq_true rfl) hdg (fun H1 locs1 hP1 hS1 => kk H1 locs1 (by rw [← gu_gamt]; exact hP1) hS1)
theorem pp_X1_23 (hx : p.tables.exec = Jvm.exec) (hb : c.code = cc) (hT : ∀ w ∈ WS, w.before args s = true) (hown : s.vm.findClass RX1 = some m.cls) (hK : zK D ks s) (hP : zP D Rs ad (gS ks ad np ng G MI MJ XI XJ) H) (hD : zD A Rs ad) (hS : va_S A s.heap H locs) {i : Nat} (hr : 23 + 4 * i ∈ Rs) {v : Int64} (hdg : decode cc pc = .ok (.putfield 23, 3)) (kk : ∀ (H1 : Heap) (locs1 : List Loc), zP D Rs ad (gS ks ad np ng G MI MJ XI (u2 XJ 9 i v)) H1 → va_S A s.heap H1 locs1 → W p l e R s m args below meth c H1 locs1 cells slots Q (F0 m (pc + 3) ls rest)) : W p l e R s m args below meth c H locs cells slots Q (F0 m pc ls (.long v :: .ref (ad (23 + 4 * i)) :: rest)) :=
  pg_X1_23 hx hb hT hown hK hP hD hS hr (r := 23 + 4 * i) (he := gS_3) (Nat.le_of_ble_eq_true rfl) hdg (fun H1 locs1 hP1 hS1 => kk H1 locs1 (by rw [← gu_pamt]; exact hP1) hS1)
theorem pf_X3_151 (hx : p.tables.exec = Jvm.exec) (hb : c.code = cc) (hT : ∀ w ∈ WS, w.before args s = true) (hown : s.vm.findClass RX3 = some m.cls) (hK : zK D ks s) (hP : zP D Rs ad (gS ks ad np ng G MI MJ XI XJ) H) (hD : zD A Rs ad) (hS : va_S A s.heap H locs) {i : Nat} (hr : 21 + 4 * i ∈ Rs) {v : Int64} (hdg : decode cc pc = .ok (.putfield 151, 3)) (kk : ∀ (H1 : Heap) (locs1 : List Loc), zP D Rs ad (gS ks ad np ng G MI MJ XI (u2 XJ 8 i v)) H1 → va_S A s.heap H1 locs1 → W p l e R s m args below meth c H1 locs1 cells slots Q (F0 m (pc + 3) ls rest)) : W p l e R s m args below meth c H locs cells slots Q (F0 m pc ls (.long v :: .ref (ad (21 + 4 * i)) :: rest)) :=
  pg_X3_151 hx hb hT hown hK hP hD hS hr (r := 21 + 4 * i) (he := gS_1) (Nat.le_of_ble_eq_true rfl) hdg (fun H1 locs1 hP1 hS1 => kk H1 locs1 (by rw [← gu_gamt]; exact hP1) hS1)
theorem pp_X3_151 (hx : p.tables.exec = Jvm.exec) (hb : c.code = cc) (hT : ∀ w ∈ WS, w.before args s = true) (hown : s.vm.findClass RX3 = some m.cls) (hK : zK D ks s) (hP : zP D Rs ad (gS ks ad np ng G MI MJ XI XJ) H) (hD : zD A Rs ad) (hS : va_S A s.heap H locs) {i : Nat} (hr : 23 + 4 * i ∈ Rs) {v : Int64} (hdg : decode cc pc = .ok (.putfield 151, 3)) (kk : ∀ (H1 : Heap) (locs1 : List Loc), zP D Rs ad (gS ks ad np ng G MI MJ XI (u2 XJ 9 i v)) H1 → va_S A s.heap H1 locs1 → W p l e R s m args below meth c H1 locs1 cells slots Q (F0 m (pc + 3) ls rest)) : W p l e R s m args below meth c H locs cells slots Q (F0 m pc ls (.long v :: .ref (ad (23 + 4 * i)) :: rest)) :=
  pg_X3_151 hx hb hT hown hK hP hD hS hr (r := 23 + 4 * i) (he := gS_3) (Nat.le_of_ble_eq_true rfl) hdg (fun H1 locs1 hP1 hS1 => kk H1 locs1 (by rw [← gu_pamt]; exact hP1) hS1)
theorem pf_X3_208 (hx : p.tables.exec = Jvm.exec) (hb : c.code = cc) (hT : ∀ w ∈ WS, w.before args s = true) (hown : s.vm.findClass RX3 = some m.cls) (hK : zK D ks s) (hP : zP D Rs ad (gS ks ad np ng G MI MJ XI XJ) H) (hD : zD A Rs ad) (hS : va_S A s.heap H locs) {i : Nat} (hr : 20 + 4 * i ∈ Rs) {v : Int64} (hdg : decode cc pc = .ok (.putfield 208, 3)) (kk : ∀ (H1 : Heap) (locs1 : List Loc), zP D Rs ad (gS ks ad np ng G MI MJ XI (u2 XJ 7 i v)) H1 → va_S A s.heap H1 locs1 → W p l e R s m args below meth c H1 locs1 cells slots Q (F0 m (pc + 3) ls rest)) : W p l e R s m args below meth c H locs cells slots Q (F0 m pc ls (.long v :: .ref (ad (20 + 4 * i)) :: rest)) :=
  pg_X3_208 hx hb hT hown hK hP hD hS hr (r := 20 + 4 * i) (he := gS_0) (Nat.le_of_ble_eq_true rfl) hdg (fun H1 locs1 hP1 hS1 => kk H1 locs1 (by rw [← gu_gprem]; exact hP1) hS1)
theorem pf_X3_136 (hx : p.tables.exec = Jvm.exec) (hb : c.code = cc) (hT : ∀ w ∈ WS, w.before args s = true) (hown : s.vm.findClass RX3 = some m.cls) (hK : zK D ks s) (hP : zP D Rs ad (gS ks ad np ng G MI MJ XI XJ) H) (hD : zD A Rs ad) (hS : va_S A s.heap H locs) {i : Nat} (hr : 22 + 4 * i ∈ Rs) {v : Int64} (hdg : decode cc pc = .ok (.putfield 136, 3)) (kk : ∀ (H1 : Heap) (locs1 : List Loc), zP D Rs ad (gS ks ad np ng G MI MJ XI (u2 XJ 10 i v)) H1 → va_S A s.heap H1 locs1 → W p l e R s m args below meth c H1 locs1 cells slots Q (F0 m (pc + 3) ls rest)) : W p l e R s m args below meth c H locs cells slots Q (F0 m pc ls (.long v :: .ref (ad (22 + 4 * i)) :: rest)) :=
  pg_X3_136 hx hb hT hown hK hP hD hS hr (r := 22 + 4 * i) (he := gS_2) (Nat.le_of_ble_eq_true rfl) hdg (fun H1 locs1 hP1 hS1 => kk H1 locs1 (by rw [← gu_pbon]; exact hP1) hS1)
theorem pf_X3_133 (hx : p.tables.exec = Jvm.exec) (hb : c.code = cc) (hT : ∀ w ∈ WS, w.before args s = true) (hown : s.vm.findClass RX3 = some m.cls) (hK : zK D ks s) (hP : zP D Rs ad (gS ks ad np ng G MI MJ XI XJ) H) (hD : zD A Rs ad) (hS : va_S A s.heap H locs) {i : Nat} (hr : 22 + 4 * i ∈ Rs) {v : Int32} (hdg : decode cc pc = .ok (.putfield 133, 3)) (kk : ∀ (H1 : Heap) (locs1 : List Loc), zP D Rs ad (gS ks ad np ng G MI MJ (u2 XI 15 i v) XJ) H1 → va_S A s.heap H1 locs1 → W p l e R s m args below meth c H1 locs1 cells slots Q (F0 m (pc + 3) ls rest)) : W p l e R s m args below meth c H locs cells slots Q (F0 m pc ls (.int v :: .ref (ad (22 + 4 * i)) :: rest)) :=
  pg_X3_133 hx hb hT hown hK hP hD hS hr (r := 22 + 4 * i) (he := gS_2) (Nat.le_of_ble_eq_true rfl) hdg (fun H1 locs1 hP1 hS1 => kk H1 locs1 (by rw [← gu_pst]; exact hP1) hS1)
theorem pf_X3_164 (hx : p.tables.exec = Jvm.exec) (hb : c.code = cc) (hT : ∀ w ∈ WS, w.before args s = true) (hown : s.vm.findClass RX3 = some m.cls) (hK : zK D ks s) (hP : zP D Rs ad (gS ks ad np ng G MI MJ XI XJ) H) (hD : zD A Rs ad) (hS : va_S A s.heap H locs) {i : Nat} (hr : 22 + 4 * i ∈ Rs) {v : Int64} (hdg : decode cc pc = .ok (.putfield 164, 3)) (kk : ∀ (H1 : Heap) (locs1 : List Loc), zP D Rs ad (gS ks ad np ng G MI MJ XI (u2 XJ 11 i v)) H1 → va_S A s.heap H1 locs1 → W p l e R s m args below meth c H1 locs1 cells slots Q (F0 m (pc + 3) ls rest)) : W p l e R s m args below meth c H locs cells slots Q (F0 m pc ls (.long v :: .ref (ad (22 + 4 * i)) :: rest)) :=
  pg_X3_164 hx hb hT hown hK hP hD hS hr (r := 22 + 4 * i) (he := gS_2) (Nat.le_of_ble_eq_true rfl) hdg (fun H1 locs1 hP1 hS1 => kk H1 locs1 (by rw [← gu_ppaid]; exact hP1) hS1)
theorem as_1 (hx : p.tables.exec = Jvm.exec) (hb : c.code = cc) (hK : zK D ks s) (hP : zP D Rs ad (gS ks ad np ng G MI MJ XI XJ) H) (hD : zD A Rs ad) (hS : va_S A s.heap H locs) (hr : 1 ∈ Rs) {i : Int32} {v : Int32} (hin : vp_in i 30) (hdg : decode cc pc = .ok (.iastore, 1)) (kk : ∀ (H1 : Heap) (locs1 : List Loc), zP D Rs ad (gS ks ad np ng G (u2 MI 1 i.toNatClampNeg v) MJ XI XJ) H1 → va_S A s.heap H1 locs1 → W p l e R s m args below meth c H1 locs1 cells slots Q (F0 m (pc + 1) ls rest)) : W p l e R s m args below meth c H locs cells slots Q (F0 m pc ls (.int v :: .int i :: .ref (ad 1) :: rest)) :=
  z_iast hx hb hK hP hD hS hr (r := 1) (he := rfl) hin hdg (fun H1 locs1 hP1 hS1 => kk H1 locs1 (by rw [← gu_a1]; exact hP1) hS1)
theorem as_2 (hx : p.tables.exec = Jvm.exec) (hb : c.code = cc) (hK : zK D ks s) (hP : zP D Rs ad (gS ks ad np ng G MI MJ XI XJ) H) (hD : zD A Rs ad) (hS : va_S A s.heap H locs) (hr : 2 ∈ Rs) {i : Int32} {v : Int32} (hin : vp_in i 30) (hdg : decode cc pc = .ok (.iastore, 1)) (kk : ∀ (H1 : Heap) (locs1 : List Loc), zP D Rs ad (gS ks ad np ng G (u2 MI 2 i.toNatClampNeg v) MJ XI XJ) H1 → va_S A s.heap H1 locs1 → W p l e R s m args below meth c H1 locs1 cells slots Q (F0 m (pc + 1) ls rest)) : W p l e R s m args below meth c H locs cells slots Q (F0 m pc ls (.int v :: .int i :: .ref (ad 2) :: rest)) :=
  z_iast hx hb hK hP hD hS hr (r := 2) (he := rfl) hin hdg (fun H1 locs1 hP1 hS1 => kk H1 locs1 (by rw [← gu_a2]; exact hP1) hS1)
theorem as_3 (hx : p.tables.exec = Jvm.exec) (hb : c.code = cc) (hK : zK D ks s) (hP : zP D Rs ad (gS ks ad np ng G MI MJ XI XJ) H) (hD : zD A Rs ad) (hS : va_S A s.heap H locs) (hr : 3 ∈ Rs) {i : Int32} {v : Int32} (hin : vp_in i 30) (hdg : decode cc pc = .ok (.iastore, 1)) (kk : ∀ (H1 : Heap) (locs1 : List Loc), zP D Rs ad (gS ks ad np ng G (u2 MI 3 i.toNatClampNeg v) MJ XI XJ) H1 → va_S A s.heap H1 locs1 → W p l e R s m args below meth c H1 locs1 cells slots Q (F0 m (pc + 1) ls rest)) : W p l e R s m args below meth c H locs cells slots Q (F0 m pc ls (.int v :: .int i :: .ref (ad 3) :: rest)) :=
  z_iast hx hb hK hP hD hS hr (r := 3) (he := rfl) hin hdg (fun H1 locs1 hP1 hS1 => kk H1 locs1 (by rw [← gu_a3]; exact hP1) hS1)
theorem as_4 (hx : p.tables.exec = Jvm.exec) (hb : c.code = cc) (hK : zK D ks s) (hP : zP D Rs ad (gS ks ad np ng G MI MJ XI XJ) H) (hD : zD A Rs ad) (hS : va_S A s.heap H locs) (hr : 4 ∈ Rs) {i : Int32} {v : Int32} (hin : vp_in i 30) (hdg : decode cc pc = .ok (.iastore, 1)) (kk : ∀ (H1 : Heap) (locs1 : List Loc), zP D Rs ad (gS ks ad np ng G (u2 MI 4 i.toNatClampNeg v) MJ XI XJ) H1 → va_S A s.heap H1 locs1 → W p l e R s m args below meth c H1 locs1 cells slots Q (F0 m (pc + 1) ls rest)) : W p l e R s m args below meth c H locs cells slots Q (F0 m pc ls (.int v :: .int i :: .ref (ad 4) :: rest)) :=
  z_iast hx hb hK hP hD hS hr (r := 4) (he := rfl) hin hdg (fun H1 locs1 hP1 hS1 => kk H1 locs1 (by rw [← gu_a4]; exact hP1) hS1)
theorem as_5 (hx : p.tables.exec = Jvm.exec) (hb : c.code = cc) (hK : zK D ks s) (hP : zP D Rs ad (gS ks ad np ng G MI MJ XI XJ) H) (hD : zD A Rs ad) (hS : va_S A s.heap H locs) (hr : 5 ∈ Rs) {i : Int32} {v : Int32} (hin : vp_in i 30) (hdg : decode cc pc = .ok (.iastore, 1)) (kk : ∀ (H1 : Heap) (locs1 : List Loc), zP D Rs ad (gS ks ad np ng G (u2 MI 5 i.toNatClampNeg v) MJ XI XJ) H1 → va_S A s.heap H1 locs1 → W p l e R s m args below meth c H1 locs1 cells slots Q (F0 m (pc + 1) ls rest)) : W p l e R s m args below meth c H locs cells slots Q (F0 m pc ls (.int v :: .int i :: .ref (ad 5) :: rest)) :=
  z_iast hx hb hK hP hD hS hr (r := 5) (he := rfl) hin hdg (fun H1 locs1 hP1 hS1 => kk H1 locs1 (by rw [← gu_a5]; exact hP1) hS1)
theorem as_6 (hx : p.tables.exec = Jvm.exec) (hb : c.code = cc) (hK : zK D ks s) (hP : zP D Rs ad (gS ks ad np ng G MI MJ XI XJ) H) (hD : zD A Rs ad) (hS : va_S A s.heap H locs) (hr : 6 ∈ Rs) {i : Int32} {v : Int32} (hin : vp_in i 30) (hdg : decode cc pc = .ok (.iastore, 1)) (kk : ∀ (H1 : Heap) (locs1 : List Loc), zP D Rs ad (gS ks ad np ng G (u2 MI 6 i.toNatClampNeg v) MJ XI XJ) H1 → va_S A s.heap H1 locs1 → W p l e R s m args below meth c H1 locs1 cells slots Q (F0 m (pc + 1) ls rest)) : W p l e R s m args below meth c H locs cells slots Q (F0 m pc ls (.int v :: .int i :: .ref (ad 6) :: rest)) :=
  z_iast hx hb hK hP hD hS hr (r := 6) (he := rfl) hin hdg (fun H1 locs1 hP1 hS1 => kk H1 locs1 (by rw [← gu_a6]; exact hP1) hS1)
theorem as_7 (hx : p.tables.exec = Jvm.exec) (hb : c.code = cc) (hK : zK D ks s) (hP : zP D Rs ad (gS ks ad np ng G MI MJ XI XJ) H) (hD : zD A Rs ad) (hS : va_S A s.heap H locs) (hr : 7 ∈ Rs) {i : Int32} {v : Int32} (hin : vp_in i 30) (hdg : decode cc pc = .ok (.iastore, 1)) (kk : ∀ (H1 : Heap) (locs1 : List Loc), zP D Rs ad (gS ks ad np ng G (u2 MI 7 i.toNatClampNeg v) MJ XI XJ) H1 → va_S A s.heap H1 locs1 → W p l e R s m args below meth c H1 locs1 cells slots Q (F0 m (pc + 1) ls rest)) : W p l e R s m args below meth c H locs cells slots Q (F0 m pc ls (.int v :: .int i :: .ref (ad 7) :: rest)) :=
  z_iast hx hb hK hP hD hS hr (r := 7) (he := rfl) hin hdg (fun H1 locs1 hP1 hS1 => kk H1 locs1 (by rw [← gu_a7]; exact hP1) hS1)
theorem as_8 (hx : p.tables.exec = Jvm.exec) (hb : c.code = cc) (hK : zK D ks s) (hP : zP D Rs ad (gS ks ad np ng G MI MJ XI XJ) H) (hD : zD A Rs ad) (hS : va_S A s.heap H locs) (hr : 8 ∈ Rs) {i : Int32} {v : Int64} (hin : vp_in i 30) (hdg : decode cc pc = .ok (.lastore, 1)) (kk : ∀ (H1 : Heap) (locs1 : List Loc), zP D Rs ad (gS ks ad np ng G MI (u2 MJ 1 i.toNatClampNeg v) XI XJ) H1 → va_S A s.heap H1 locs1 → W p l e R s m args below meth c H1 locs1 cells slots Q (F0 m (pc + 1) ls rest)) : W p l e R s m args below meth c H locs cells slots Q (F0 m pc ls (.long v :: .int i :: .ref (ad 8) :: rest)) :=
  z_last hx hb hK hP hD hS hr (r := 8) (he := rfl) hin hdg (fun H1 locs1 hP1 hS1 => kk H1 locs1 (by rw [← gu_a8]; exact hP1) hS1)
theorem as_9 (hx : p.tables.exec = Jvm.exec) (hb : c.code = cc) (hK : zK D ks s) (hP : zP D Rs ad (gS ks ad np ng G MI MJ XI XJ) H) (hD : zD A Rs ad) (hS : va_S A s.heap H locs) (hr : 9 ∈ Rs) {i : Int32} {v : Int64} (hin : vp_in i 30) (hdg : decode cc pc = .ok (.lastore, 1)) (kk : ∀ (H1 : Heap) (locs1 : List Loc), zP D Rs ad (gS ks ad np ng G MI (u2 MJ 2 i.toNatClampNeg v) XI XJ) H1 → va_S A s.heap H1 locs1 → W p l e R s m args below meth c H1 locs1 cells slots Q (F0 m (pc + 1) ls rest)) : W p l e R s m args below meth c H locs cells slots Q (F0 m pc ls (.long v :: .int i :: .ref (ad 9) :: rest)) :=
  z_last hx hb hK hP hD hS hr (r := 9) (he := rfl) hin hdg (fun H1 locs1 hP1 hS1 => kk H1 locs1 (by rw [← gu_a9]; exact hP1) hS1)
theorem as_10 (hx : p.tables.exec = Jvm.exec) (hb : c.code = cc) (hK : zK D ks s) (hP : zP D Rs ad (gS ks ad np ng G MI MJ XI XJ) H) (hD : zD A Rs ad) (hS : va_S A s.heap H locs) (hr : 10 ∈ Rs) {i : Int32} {v : Int32} (hin : vp_in i 21) (hdg : decode cc pc = .ok (.iastore, 1)) (kk : ∀ (H1 : Heap) (locs1 : List Loc), zP D Rs ad (gS ks ad np ng G (u2 MI 8 i.toNatClampNeg v) MJ XI XJ) H1 → va_S A s.heap H1 locs1 → W p l e R s m args below meth c H1 locs1 cells slots Q (F0 m (pc + 1) ls rest)) : W p l e R s m args below meth c H locs cells slots Q (F0 m pc ls (.int v :: .int i :: .ref (ad 10) :: rest)) :=
  z_iast hx hb hK hP hD hS hr (r := 10) (he := rfl) hin hdg (fun H1 locs1 hP1 hS1 => kk H1 locs1 (by rw [← gu_a10]; exact hP1) hS1)
theorem as_11 (hx : p.tables.exec = Jvm.exec) (hb : c.code = cc) (hK : zK D ks s) (hP : zP D Rs ad (gS ks ad np ng G MI MJ XI XJ) H) (hD : zD A Rs ad) (hS : va_S A s.heap H locs) (hr : 11 ∈ Rs) {i : Int32} {v : Int32} (hin : vp_in i 21) (hdg : decode cc pc = .ok (.iastore, 1)) (kk : ∀ (H1 : Heap) (locs1 : List Loc), zP D Rs ad (gS ks ad np ng G (u2 MI 9 i.toNatClampNeg v) MJ XI XJ) H1 → va_S A s.heap H1 locs1 → W p l e R s m args below meth c H1 locs1 cells slots Q (F0 m (pc + 1) ls rest)) : W p l e R s m args below meth c H locs cells slots Q (F0 m pc ls (.int v :: .int i :: .ref (ad 11) :: rest)) :=
  z_iast hx hb hK hP hD hS hr (r := 11) (he := rfl) hin hdg (fun H1 locs1 hP1 hS1 => kk H1 locs1 (by rw [← gu_a11]; exact hP1) hS1)
theorem as_12 (hx : p.tables.exec = Jvm.exec) (hb : c.code = cc) (hK : zK D ks s) (hP : zP D Rs ad (gS ks ad np ng G MI MJ XI XJ) H) (hD : zD A Rs ad) (hS : va_S A s.heap H locs) (hr : 12 ∈ Rs) {i : Int32} {v : Int64} (hin : vp_in i 1) (hdg : decode cc pc = .ok (.lastore, 1)) (kk : ∀ (H1 : Heap) (locs1 : List Loc), zP D Rs ad (gS ks ad np ng G MI (u2 MJ 3 i.toNatClampNeg v) XI XJ) H1 → va_S A s.heap H1 locs1 → W p l e R s m args below meth c H1 locs1 cells slots Q (F0 m (pc + 1) ls rest)) : W p l e R s m args below meth c H locs cells slots Q (F0 m pc ls (.long v :: .int i :: .ref (ad 12) :: rest)) :=
  z_last hx hb hK hP hD hS hr (r := 12) (he := rfl) hin hdg (fun H1 locs1 hP1 hS1 => kk H1 locs1 (by rw [← gu_a12]; exact hP1) hS1)
theorem as_16 (hx : p.tables.exec = Jvm.exec) (hb : c.code = cc) (hK : zK D ks s) (hP : zP D Rs ad (gS ks ad np ng G MI MJ XI XJ) H) (hD : zD A Rs ad) (hS : va_S A s.heap H locs) (hr : 16 ∈ Rs) {i : Int32} {v : Int64} (hin : vp_in i 21) (hdg : decode cc pc = .ok (.lastore, 1)) (kk : ∀ (H1 : Heap) (locs1 : List Loc), zP D Rs ad (gS ks ad np ng G MI MJ XI (u2 XJ 5 i.toNatClampNeg v)) H1 → va_S A s.heap H1 locs1 → W p l e R s m args below meth c H1 locs1 cells slots Q (F0 m (pc + 1) ls rest)) : W p l e R s m args below meth c H locs cells slots Q (F0 m pc ls (.long v :: .int i :: .ref (ad 16) :: rest)) :=
  z_last hx hb hK hP hD hS hr (r := 16) (he := rfl) hin hdg (fun H1 locs1 hP1 hS1 => kk H1 locs1 (by rw [← gu_a16]; exact hP1) hS1)
theorem as_17 (hx : p.tables.exec = Jvm.exec) (hb : c.code = cc) (hK : zK D ks s) (hP : zP D Rs ad (gS ks ad np ng G MI MJ XI XJ) H) (hD : zD A Rs ad) (hS : va_S A s.heap H locs) (hr : 17 ∈ Rs) {i : Int32} {v : Int64} (hin : vp_in i 21) (hdg : decode cc pc = .ok (.lastore, 1)) (kk : ∀ (H1 : Heap) (locs1 : List Loc), zP D Rs ad (gS ks ad np ng G MI MJ XI (u2 XJ 6 i.toNatClampNeg v)) H1 → va_S A s.heap H1 locs1 → W p l e R s m args below meth c H1 locs1 cells slots Q (F0 m (pc + 1) ls rest)) : W p l e R s m args below meth c H locs cells slots Q (F0 m pc ls (.long v :: .int i :: .ref (ad 17) :: rest)) :=
  z_last hx hb hK hP hD hS hr (r := 17) (he := rfl) hin hdg (fun H1 locs1 hP1 hS1 => kk H1 locs1 (by rw [← gu_a17]; exact hP1) hS1)
end ZF
theorem k_L_61 : zcI RL 61 yX3_init cX3_init 2 0 := ⟨ml_L_61, im_yX3_init, in_X3, co_yX3_init, ⟨by decide, by decide, by decide +kernel⟩, rfl⟩
theorem k_L_92 : zcV RL 92 yX3_year cX3_year 1 ((some .int)) 0 := ⟨ml_L_92, im_yX3_year, se_yX3_year, in_X3, co_yX3_year, ⟨by decide, by decide, by decide +kernel⟩⟩
theorem k_L_96 : zcV RL 96 yX3_policies cX3_policies 1 ((some .int)) 0 := ⟨ml_L_96, im_yX3_policies, se_yX3_policies, in_X3, co_yX3_policies, ⟨by decide, by decide, by decide +kernel⟩⟩
theorem k_L_124 : zcV RL 124 yX3_estate cX3_estate 1 ((some .long)) 0 := ⟨ml_L_124, im_yX3_estate, se_yX3_estate, in_X3, co_yX3_estate, ⟨by decide, by decide, by decide +kernel⟩⟩
theorem k_L_129 : zcV RL 129 yX3_sharesAndEstate cX3_sharesAndEstate 5 ((some .long)) 0 := ⟨ml_L_129, im_yX3_sharesAndEstate, se_yX3_sharesAndEstate, in_X3, co_yX3_sharesAndEstate, ⟨by decide, by decide, by decide +kernel⟩⟩
theorem k_L_133 : zcV RL 133 yX3_assets cX3_assets 1 ((some .long)) 0 := ⟨ml_L_133, im_yX3_assets, se_yX3_assets, in_X3, co_yX3_assets, ⟨by decide, by decide, by decide +kernel⟩⟩
theorem k_L_137 : zcV RL 137 yX3_shortfall cX3_shortfall 5 ((some .int)) 0 := ⟨ml_L_137, im_yX3_shortfall, se_yX3_shortfall, in_X3, co_yX3_shortfall, ⟨by decide, by decide, by decide +kernel⟩⟩
theorem k_X2_41 : zcV RX2 41 yX2_isInForce cX2_isInForce 1 ((some .boolean)) 0 := ⟨ml_X2_41, im_yX2_isInForce, se_yX2_isInForce, in_X2, co_yX2_isInForce, ⟨by decide, by decide, by decide +kernel⟩⟩
theorem k_X3_176 : zcS RX3 176 yJ9_max_f86c9 cJ9_max_f86c9 4 ((some .long)) 2 := ⟨ml_X3_176, sm_yJ9_max_f86c9, in_J9, co_yJ9_max_f86c9, ⟨by decide, by decide, by decide +kernel⟩⟩
theorem k_L_7 : zcV RL 7 yX3_begin cX3_begin 5 ((some .int)) 3 := ⟨ml_L_7, im_yX3_begin, se_yX3_begin, in_X3, co_yX3_begin, ⟨by decide, by decide, by decide +kernel⟩⟩
theorem k_X3_46 : zcS RX3 46 yX3_isTerm cX3_isTerm 1 ((some .boolean)) 1 := ⟨ml_X3_46, sm_yX3_isTerm, in_X3, co_yX3_isTerm, ⟨by decide, by decide, by decide +kernel⟩⟩
theorem k_X3_50 : zcS RX3 50 yX3_isWithin cX3_isWithin 3 ((some .boolean)) 3 := ⟨ml_X3_50, sm_yX3_isWithin, in_X3, co_yX3_isWithin, ⟨by decide, by decide, by decide +kernel⟩⟩
theorem k_X3_70 : zcV RX3 70 yX3_joinGeneration cX3_joinGeneration 4 ((some (.object "ProfitsOffice$Generation"))) 2 := ⟨ml_X3_70, im_yX3_joinGeneration, se_yX3_joinGeneration, in_X3, co_yX3_joinGeneration, ⟨by decide, by decide, by decide +kernel⟩⟩
theorem k_X3_158 : zcV RX3 158 yX3_findGeneration cX3_findGeneration 5 ((some (.object "ProfitsOffice$Generation"))) 2 := ⟨ml_X3_158, im_yX3_findGeneration, se_yX3_findGeneration, in_X3, co_yX3_findGeneration, ⟨by decide, by decide, by decide +kernel⟩⟩
theorem k_L_17 : zcV RL 17 yX3_surrender cX3_surrender 5 ((some .int)) 1 := ⟨ml_L_17, im_yX3_surrender, se_yX3_surrender, in_X3, co_yX3_surrender, ⟨by decide, by decide, by decide +kernel⟩⟩
theorem k_X3_77 : zcV RX3 77 yX3_knownPolicy cX3_knownPolicy 3 ((some (.object "ProfitsOffice$Policy"))) 1 := ⟨ml_X3_77, im_yX3_knownPolicy, se_yX3_knownPolicy, in_X3, co_yX3_knownPolicy, ⟨by decide, by decide, by decide +kernel⟩⟩
theorem k_X3_81 : zcV RX3 81 yX3_checkSurrenderable cX3_checkSurrenderable 2 ((none : Option FieldType)) 1 := ⟨ml_X3_81, im_yX3_checkSurrenderable, se_yX3_checkSurrenderable, in_X3, co_yX3_checkSurrenderable, ⟨by decide, by decide, by decide +kernel⟩⟩
theorem k_X3_186 : zcV RX3 186 yX3_yearsRun cX3_yearsRun 2 ((some .int)) 1 := ⟨ml_X3_186, im_yX3_yearsRun, se_yX3_yearsRun, in_X3, co_yX3_yearsRun, ⟨by decide, by decide, by decide +kernel⟩⟩
theorem k_X3_85 : zcV RX3 85 yX3_surrenderWorth cX3_surrenderWorth 9 ((some .long)) 1 := ⟨ml_X3_85, im_yX3_surrenderWorth, se_yX3_surrenderWorth, in_X3, co_yX3_surrenderWorth, ⟨by decide, by decide, by decide +kernel⟩⟩
theorem k_X3_226 : zcS RX3 226 yX3_parted cX3_parted 4 ((some .long)) 2 := ⟨ml_X3_226, sm_yX3_parted, in_X3, co_yX3_parted, ⟨by decide, by decide, by decide +kernel⟩⟩
theorem k_X3_115 : zcS RX3 115 yX3_thousandths cX3_thousandths 4 ((some .long)) 2 := ⟨ml_X3_115, sm_yX3_thousandths, in_X3, co_yX3_thousandths, ⟨by decide, by decide, by decide +kernel⟩⟩
theorem k_X3_242 : zcS RX3 242 yJ9_floorDiv_f86c9 cJ9_floorDiv_f86c9 6 ((some .long)) 2 := ⟨ml_X3_242, sm_yJ9_floorDiv_f86c9, in_J9, co_yJ9_floorDiv_f86c9, ⟨by decide, by decide, by decide +kernel⟩⟩
theorem k_X3_89 : zcV RX3 89 yX3_close cX3_close 5 ((none : Option FieldType)) 3 := ⟨ml_X3_89, im_yX3_close, se_yX3_close, in_X3, co_yX3_close, ⟨by decide, by decide, by decide +kernel⟩⟩
theorem k_X1_36 : zcV RX1 36 yX1_shareFor cX1_shareFor 2 ((some .long)) 1 := ⟨ml_X1_36, im_yX1_shareFor, se_yX1_shareFor, in_X1, co_yX1_shareFor, ⟨by decide, by decide, by decide +kernel⟩⟩
theorem k_L_23 : zcV RL 23 yX3_setRates cX3_setRates 4 ((some .int)) 2 := ⟨ml_L_23, im_yX3_setRates, se_yX3_setRates, in_X3, co_yX3_setRates, ⟨by decide, by decide, by decide +kernel⟩⟩
theorem k_L_27 : zcV RL 27 yX3_setScale cX3_setScale 5 ((some .int)) 3 := ⟨ml_L_27, im_yX3_setScale, se_yX3_setScale, in_X3, co_yX3_setScale, ⟨by decide, by decide, by decide +kernel⟩⟩
theorem k_L_30 : zcV RL 30 yX3_endow cX3_endow 2 ((some .long)) 1 := ⟨ml_L_30, im_yX3_endow, se_yX3_endow, in_X3, co_yX3_endow, ⟨by decide, by decide, by decide +kernel⟩⟩
theorem k_L_34 : zcV RL 34 yX3_run cX3_run 5 ((some .int)) 1 := ⟨ml_L_34, im_yX3_run, se_yX3_run, in_X3, co_yX3_run, ⟨by decide, by decide, by decide +kernel⟩⟩
theorem k_X3_119 : zcV RX3 119 yX3_growGenerations cX3_growGenerations 4 ((none : Option FieldType)) 1 := ⟨ml_X3_119, im_yX3_growGenerations, se_yX3_growGenerations, in_X3, co_yX3_growGenerations, ⟨by decide, by decide, by decide +kernel⟩⟩
theorem k_X3_123 : zcV RX3 123 yX3_growPoliciesAlone cX3_growPoliciesAlone 4 ((none : Option FieldType)) 1 := ⟨ml_X3_123, im_yX3_growPoliciesAlone, se_yX3_growPoliciesAlone, in_X3, co_yX3_growPoliciesAlone, ⟨by decide, by decide, by decide +kernel⟩⟩
theorem k_X3_126 : zcV RX3 126 yX3_giveBonuses cX3_giveBonuses 3 ((none : Option FieldType)) 0 := ⟨ml_X3_126, im_yX3_giveBonuses, se_yX3_giveBonuses, in_X3, co_yX3_giveBonuses, ⟨by decide, by decide, by decide +kernel⟩⟩
theorem k_X3_129 : zcV RX3 129 yX3_maturePolicies cX3_maturePolicies 4 ((some .int)) 0 := ⟨ml_X3_129, im_yX3_maturePolicies, se_yX3_maturePolicies, in_X3, co_yX3_maturePolicies, ⟨by decide, by decide, by decide +kernel⟩⟩
theorem k_X3_169 : zcS RX3 169 yX3_ratioIn cX3_ratioIn 2 ((some .long)) 2 := ⟨ml_X3_169, sm_yX3_ratioIn, in_X3, co_yX3_ratioIn, ⟨by decide, by decide, by decide +kernel⟩⟩
theorem k_X3_221 : zcV RX3 221 yX3_mature cX3_mature 11 ((none : Option FieldType)) 1 := ⟨ml_X3_221, im_yX3_mature, se_yX3_mature, in_X3, co_yX3_mature, ⟨by decide, by decide, by decide +kernel⟩⟩
theorem k_X3_229 : zcV RX3 229 yX3_smooth cX3_smooth 7 ((some .long)) 2 := ⟨ml_X3_229, im_yX3_smooth, se_yX3_smooth, in_X3, co_yX3_smooth, ⟨by decide, by decide, by decide +kernel⟩⟩
theorem k_X3_232 : zcS RX3 232 yJ9_min_f86c9 cJ9_min_f86c9 4 ((some .long)) 2 := ⟨ml_X3_232, sm_yJ9_min_f86c9, in_J9, co_yJ9_min_f86c9, ⟨by decide, by decide, by decide +kernel⟩⟩
theorem k_L_37 : zcV RL 37 yX3_stateOf cX3_stateOf 2 ((some .int)) 1 := ⟨ml_L_37, im_yX3_stateOf, se_yX3_stateOf, in_X3, co_yX3_stateOf, ⟨by decide, by decide, by decide +kernel⟩⟩
theorem k_L_40 : zcV RL 40 yX3_bonuses cX3_bonuses 2 ((some .int)) 1 := ⟨ml_L_40, im_yX3_bonuses, se_yX3_bonuses, in_X3, co_yX3_bonuses, ⟨by decide, by decide, by decide +kernel⟩⟩
theorem k_L_43 : zcV RL 43 yX3_shareOf cX3_shareOf 2 ((some .int)) 1 := ⟨ml_L_43, im_yX3_shareOf, se_yX3_shareOf, in_X3, co_yX3_shareOf, ⟨by decide, by decide, by decide +kernel⟩⟩
theorem k_L_46 : zcV RL 46 yX3_shareAlone cX3_shareAlone 3 ((some .int)) 1 := ⟨ml_L_46, im_yX3_shareAlone, se_yX3_shareAlone, in_X3, co_yX3_shareAlone, ⟨by decide, by decide, by decide +kernel⟩⟩
theorem k_L_49 : zcV RL 49 yX3_generation cX3_generation 4 ((some .int)) 2 := ⟨ml_L_49, im_yX3_generation, se_yX3_generation, in_X3, co_yX3_generation, ⟨by decide, by decide, by decide +kernel⟩⟩
theorem k_L_52 : zcV RL 52 yX3_paid cX3_paid 2 ((some .int)) 1 := ⟨ml_L_52, im_yX3_paid, se_yX3_paid, in_X3, co_yX3_paid, ⟨by decide, by decide, by decide +kernel⟩⟩
theorem k_L_55 : zcV RL 55 yX3_worth cX3_worth 3 ((some .int)) 1 := ⟨ml_L_55, im_yX3_worth, se_yX3_worth, in_X3, co_yX3_worth, ⟨by decide, by decide, by decide +kernel⟩⟩
theorem k_L_58 : zcV RL 58 yX3_lastRatio cX3_lastRatio 2 ((some .int)) 1 := ⟨ml_L_58, im_yX3_lastRatio, se_yX3_lastRatio, in_X3, co_yX3_lastRatio, ⟨by decide, by decide, by decide +kernel⟩⟩
theorem k_L_64 : zcI RL 64 yX4_init cX4_init 1 0 := ⟨ml_L_64, im_yX4_init, in_X4, co_yX4_init, ⟨by decide, by decide, by decide +kernel⟩, rfl⟩
theorem k_L_71 : zcV RL 71 yX4_thrown cX4_thrown 1 ((some .int)) 0 := ⟨ml_L_71, im_yX4_thrown, se_yX4_thrown, in_X4, co_yX4_thrown, ⟨by decide, by decide, by decide +kernel⟩⟩
theorem k_L_70 : zcV RL 70 yX4_begin cX4_begin 4 ((some .int)) 3 := ⟨ml_L_70, im_yX4_begin, se_yX4_begin, in_X4, co_yX4_begin, ⟨by decide, by decide, by decide +kernel⟩⟩
theorem k_X4_66 : zcS RX4 66 yX4_in cX4_in 3 ((some .boolean)) 3 := ⟨ml_X4_66, sm_yX4_in, in_X4, co_yX4_in, ⟨by decide, by decide, by decide +kernel⟩⟩
theorem k_L_78 : zcV RL 78 yX4_surrender cX4_surrender 3 ((some .int)) 1 := ⟨ml_L_78, im_yX4_surrender, se_yX4_surrender, in_X4, co_yX4_surrender, ⟨by decide, by decide, by decide +kernel⟩⟩
theorem k_X4_111 : zcV RX4 111 yX4_canLeave cX4_canLeave 2 ((some .boolean)) 1 := ⟨ml_X4_111, im_yX4_canLeave, se_yX4_canLeave, in_X4, co_yX4_canLeave, ⟨by decide, by decide, by decide +kernel⟩⟩
theorem k_X4_107 : zcV RX4 107 yX4_isPolicy cX4_isPolicy 2 ((some .boolean)) 1 := ⟨ml_X4_107, im_yX4_isPolicy, se_yX4_isPolicy, in_X4, co_yX4_isPolicy, ⟨by decide, by decide, by decide +kernel⟩⟩
theorem k_X4_114 : zcV RX4 114 yX4_worthOf cX4_worthOf 7 ((some .long)) 1 := ⟨ml_X4_114, im_yX4_worthOf, se_yX4_worthOf, in_X4, co_yX4_worthOf, ⟨by decide, by decide, by decide +kernel⟩⟩
theorem k_X4_95 : zcV RX4 95 yX4_share cX4_share 2 ((some .long)) 1 := ⟨ml_X4_95, im_yX4_share, se_yX4_share, in_X4, co_yX4_share, ⟨by decide, by decide, by decide +kernel⟩⟩
theorem k_X4_76 : zcV RX4 76 yX4_home cX4_home 2 ((some .int)) 1 := ⟨ml_X4_76, im_yX4_home, se_yX4_home, in_X4, co_yX4_home, ⟨by decide, by decide, by decide +kernel⟩⟩
theorem k_X4_72 : zcV RX4 72 yX4_firstOf cX4_firstOf 5 ((some .int)) 2 := ⟨ml_X4_72, im_yX4_firstOf, se_yX4_firstOf, in_X4, co_yX4_firstOf, ⟨by decide, by decide, by decide +kernel⟩⟩
theorem k_X4_80 : zcV RX4 80 yX4_premiumsOf cX4_premiumsOf 6 ((some .long)) 2 := ⟨ml_X4_80, im_yX4_premiumsOf, se_yX4_premiumsOf, in_X4, co_yX4_premiumsOf, ⟨by decide, by decide, by decide +kernel⟩⟩
theorem k_X4_103 : zcS RX4 103 yX4_part cX4_part 8 ((some .long)) 2 := ⟨ml_X4_103, sm_yX4_part, in_X4, co_yX4_part, ⟨by decide, by decide, by decide +kernel⟩⟩
theorem k_X4_117 : zcV RX4 117 yX4_leaves cX4_leaves 7 ((none : Option FieldType)) 4 := ⟨ml_X4_117, im_yX4_leaves, se_yX4_leaves, in_X4, co_yX4_leaves, ⟨by decide, by decide, by decide +kernel⟩⟩
theorem k_L_82 : zcV RL 82 yX4_setRates cX4_setRates 4 ((some .int)) 2 := ⟨ml_L_82, im_yX4_setRates, se_yX4_setRates, in_X4, co_yX4_setRates, ⟨by decide, by decide, by decide +kernel⟩⟩
theorem k_L_85 : zcV RL 85 yX4_setScale cX4_setScale 5 ((some .int)) 3 := ⟨ml_L_85, im_yX4_setScale, se_yX4_setScale, in_X4, co_yX4_setScale, ⟨by decide, by decide, by decide +kernel⟩⟩
theorem k_L_88 : zcV RL 88 yX4_endow cX4_endow 2 ((some .long)) 1 := ⟨ml_L_88, im_yX4_endow, se_yX4_endow, in_X4, co_yX4_endow, ⟨by decide, by decide, by decide +kernel⟩⟩
theorem k_L_91 : zcV RL 91 yX4_run cX4_run 4 ((some .int)) 1 := ⟨ml_L_91, im_yX4_run, se_yX4_run, in_X4, co_yX4_run, ⟨by decide, by decide, by decide +kernel⟩⟩
theorem k_X4_123 : zcV RX4 123 yX4_grows cX4_grows 11 ((none : Option FieldType)) 1 := ⟨ml_X4_123, im_yX4_grows, se_yX4_grows, in_X4, co_yX4_grows, ⟨by decide, by decide, by decide +kernel⟩⟩
theorem k_X4_127 : zcV RX4 127 yX4_grants cX4_grants 5 ((none : Option FieldType)) 1 := ⟨ml_X4_127, im_yX4_grants, se_yX4_grants, in_X4, co_yX4_grants, ⟨by decide, by decide, by decide +kernel⟩⟩
theorem k_X4_130 : zcV RX4 130 yX4_matures cX4_matures 13 ((none : Option FieldType)) 1 := ⟨ml_X4_130, im_yX4_matures, se_yX4_matures, in_X4, co_yX4_matures, ⟨by decide, by decide, by decide +kernel⟩⟩
theorem k_L_95 : zcV RL 95 yX4_year cX4_year 1 ((some .int)) 0 := ⟨ml_L_95, im_yX4_year, se_yX4_year, in_X4, co_yX4_year, ⟨by decide, by decide, by decide +kernel⟩⟩
theorem k_L_99 : zcV RL 99 yX4_policies cX4_policies 1 ((some .int)) 0 := ⟨ml_L_99, im_yX4_policies, se_yX4_policies, in_X4, co_yX4_policies, ⟨by decide, by decide, by decide +kernel⟩⟩
theorem k_L_102 : zcV RL 102 yX4_stateOf cX4_stateOf 2 ((some .int)) 1 := ⟨ml_L_102, im_yX4_stateOf, se_yX4_stateOf, in_X4, co_yX4_stateOf, ⟨by decide, by decide, by decide +kernel⟩⟩
theorem k_L_105 : zcV RL 105 yX4_bonuses cX4_bonuses 2 ((some .int)) 1 := ⟨ml_L_105, im_yX4_bonuses, se_yX4_bonuses, in_X4, co_yX4_bonuses, ⟨by decide, by decide, by decide +kernel⟩⟩
theorem k_L_108 : zcV RL 108 yX4_shareOf cX4_shareOf 2 ((some .int)) 1 := ⟨ml_L_108, im_yX4_shareOf, se_yX4_shareOf, in_X4, co_yX4_shareOf, ⟨by decide, by decide, by decide +kernel⟩⟩
theorem k_L_111 : zcV RL 111 yX4_shareAlone cX4_shareAlone 2 ((some .int)) 1 := ⟨ml_L_111, im_yX4_shareAlone, se_yX4_shareAlone, in_X4, co_yX4_shareAlone, ⟨by decide, by decide, by decide +kernel⟩⟩
theorem k_L_114 : zcV RL 114 yX4_generation cX4_generation 4 ((some .int)) 2 := ⟨ml_L_114, im_yX4_generation, se_yX4_generation, in_X4, co_yX4_generation, ⟨by decide, by decide, by decide +kernel⟩⟩
theorem k_L_117 : zcV RL 117 yX4_paid cX4_paid 2 ((some .int)) 1 := ⟨ml_L_117, im_yX4_paid, se_yX4_paid, in_X4, co_yX4_paid, ⟨by decide, by decide, by decide +kernel⟩⟩
theorem k_L_120 : zcV RL 120 yX4_worth cX4_worth 2 ((some .int)) 1 := ⟨ml_L_120, im_yX4_worth, se_yX4_worth, in_X4, co_yX4_worth, ⟨by decide, by decide, by decide +kernel⟩⟩
theorem k_L_123 : zcV RL 123 yX4_lastRatio cX4_lastRatio 2 ((some .int)) 1 := ⟨ml_L_123, im_yX4_lastRatio, se_yX4_lastRatio, in_X4, co_yX4_lastRatio, ⟨by decide, by decide, by decide +kernel⟩⟩
theorem k_L_128 : zcV RL 128 yX4_estate cX4_estate 1 ((some .long)) 0 := ⟨ml_L_128, im_yX4_estate, se_yX4_estate, in_X4, co_yX4_estate, ⟨by decide, by decide, by decide +kernel⟩⟩
theorem k_L_132 : zcV RL 132 yX4_sharesAndEstate cX4_sharesAndEstate 4 ((some .long)) 0 := ⟨ml_L_132, im_yX4_sharesAndEstate, se_yX4_sharesAndEstate, in_X4, co_yX4_sharesAndEstate, ⟨by decide, by decide, by decide +kernel⟩⟩
theorem k_L_136 : zcV RL 136 yX4_assets cX4_assets 1 ((some .long)) 0 := ⟨ml_L_136, im_yX4_assets, se_yX4_assets, in_X4, co_yX4_assets, ⟨by decide, by decide, by decide +kernel⟩⟩
theorem k_L_140 : zcV RL 140 yX4_shortfall cX4_shortfall 6 ((some .int)) 0 := ⟨ml_L_140, im_yX4_shortfall, se_yX4_shortfall, in_X4, co_yX4_shortfall, ⟨by decide, by decide, by decide +kernel⟩⟩
theorem k_X3_143 : zcVN RX3 143 yX2_isInForce cX2_isInForce 1 ((some .boolean)) 0 := ⟨nm_X3_143, im_yX2_isInForce, se_yX2_isInForce, in_X2, co_yX2_isInForce, ⟨by decide, by decide, by decide +kernel⟩⟩
theorem k_X3_173 : zcVN RX3 173 yX2_guaranteed cX2_guaranteed 1 ((some .long)) 0 := ⟨nm_X3_173, im_yX2_guaranteed, se_yX2_guaranteed, in_X2, co_yX2_guaranteed, ⟨by decide, by decide, by decide +kernel⟩⟩
theorem k_X3_139 : zcVN RX3 139 yX2_assetShare cX2_assetShare 1 ((some .long)) 0 := ⟨nm_X3_139, im_yX2_assetShare, se_yX2_assetShare, in_X2, co_yX2_assetShare, ⟨by decide, by decide, by decide +kernel⟩⟩
theorem k_X2_45 : zcVN RX2 45 yX1_shareFor cX1_shareFor 2 ((some .long)) 1 := ⟨nm_X2_45, im_yX1_shareFor, se_yX1_shareFor, in_X1, co_yX1_shareFor, ⟨by decide, by decide, by decide +kernel⟩⟩
theorem k_X1_30 : zcSN RX1 30 yX3_parted cX3_parted 4 ((some .long)) 2 := ⟨nm_X1_30, sm_yX3_parted, in_X3, co_yX3_parted, ⟨by decide, by decide, by decide +kernel⟩⟩
theorem k_X3_202 : zcIN RX3 202 yX1_init cX1_init 3 2 := ⟨nm_X3_202, im_yX1_init, in_X1, co_yX1_init, ⟨by decide, by decide, by decide +kernel⟩, rfl⟩
theorem k_X1_18 : zcIN RX1 18 yX0_init cX0_init 1 0 := ⟨nm_X1_18, im_yX0_init, in_X0, co_yX0_init, ⟨by decide, by decide, by decide +kernel⟩, rfl⟩
theorem k_X3_74 : zcIN RX3 74 yX2_init cX2_init 4 3 := ⟨nm_X3_74, im_yX2_init, in_X2, co_yX2_init, ⟨by decide, by decide, by decide +kernel⟩, rfl⟩
theorem k_X2_24 : zcIN RX2 24 yX0_init cX0_init 1 0 := ⟨nm_X2_24, im_yX0_init, in_X0, co_yX0_init, ⟨by decide, by decide, by decide +kernel⟩, rfl⟩
theorem k_X3_239 : zcVN RX3 239 yX1_release cX1_release 4 ((some .long)) 1 := ⟨nm_X3_239, im_yX1_release, se_yX1_release, in_X1, co_yX1_release, ⟨by decide, by decide, by decide +kernel⟩⟩
theorem k_X3_211 : zcVN RX3 211 yX0_earn cX0_earn 4 ((some .long)) 1 := ⟨nm_X3_211, im_yX0_earn, se_yX0_earn, in_X0, co_yX0_earn, ⟨by decide, by decide, by decide +kernel⟩⟩
theorem k_X0_13 : zcSN RX0 13 yX3_thousandths cX3_thousandths 4 ((some .long)) 2 := ⟨nm_X0_13, sm_yX3_thousandths, in_X3, co_yX3_thousandths, ⟨by decide, by decide, by decide +kernel⟩⟩
theorem k_X3_215 : zcVN RX3 215 yX0_takeCharge cX0_takeCharge 4 ((some .long)) 1 := ⟨nm_X3_215, im_yX0_takeCharge, se_yX0_takeCharge, in_X0, co_yX0_takeCharge, ⟨by decide, by decide, by decide +kernel⟩⟩
end
section
/-! rows at a counted index -/
section ZN
variable {p : Program} {l : Launch} {e : Env} {R : Room} {s : State} {m : MethodId} {args : Array Value} {below : List Frame} {meth : Method} {c : Code} {H : Heap} {locs : List Loc} {cells slots : Nat} {Q : State → Prop}
variable {cc : ByteArray} {pc : Nat} {ls : Array Slot} {rest : List Value} {D : va_G} {A : Nat → Prop} {a : Nat} {Rs : List Nat}
variable {ks : Nat → ClassId} {ad : Nat → Nat} {np ng : Nat} {G : Nat → Nat} {MI : Nat → Nat → Int32} {MJ : Nat → Nat → Int64} {XI : Nat → Nat → Int32} {XJ : Nat → Nat → Int64}
theorem z_ialdN (hx : p.tables.exec = Jvm.exec) (hb : c.code = cc) (hK : zK D ks s) {n : Nat} {f : Nat → Int32} (hat : va_at D vwCl (a, .inl (ks 0, n, .inl f)) H) {j : Nat} (hj : j < n) (hn : n < 2 ^ 31) {v : Int32} (hv : f j = v) (hdg : decode cc pc = .ok (.iaload, 1)) (kk : W p l e R s m args below meth c H locs cells slots Q (F0 m (pc + 1) ls (.int v :: rest))) : W p l e R s m args below meth c H locs cells slots Q (F0 m pc ls (.int (nI j) :: .ref a :: rest)) :=
  z_iald hx hb hK hat (vp_in_nI hj hn) hdg (by rw [nI_clamp (Nat.lt_trans hj hn), hv]; exact kk)
theorem z_laldN (hx : p.tables.exec = Jvm.exec) (hb : c.code = cc) (hK : zK D ks s) {n : Nat} {f : Nat → Int64} (hat : va_at D vwCl (a, .inl (ks 1, n, .inr (.inl f))) H) {j : Nat} (hj : j < n) (hn : n < 2 ^ 31) {v : Int64} (hv : f j = v) (hdg : decode cc pc = .ok (.laload, 1)) (kk : W p l e R s m args below meth c H locs cells slots Q (F0 m (pc + 1) ls (.long v :: rest))) : W p l e R s m args below meth c H locs cells slots Q (F0 m pc ls (.int (nI j) :: .ref a :: rest)) :=
  z_lald hx hb hK hat (vp_in_nI hj hn) hdg (by rw [nI_clamp (Nat.lt_trans hj hn), hv]; exact kk)
theorem z_galdN (hx : p.tables.exec = Jvm.exec) (hb : c.code = cc) (hK : zK D ks s) {n : Nat} {f : Nat → Option Nat} (hat : va_at D vwCl (a, .inl (ks 2, n, .inr (.inr (.inr (.inr f))))) H) {j : Nat} (hj : j < n) (hn : n < 2 ^ 31) {v : Option Nat} (hv : f j = v) (hdg : decode cc pc = .ok (.aaload, 1)) (kk : W p l e R s m args below meth c H locs cells slots Q (F0 m (pc + 1) ls (va_rf v :: rest))) : W p l e R s m args below meth c H locs cells slots Q (F0 m pc ls (.int (nI j) :: .ref a :: rest)) :=
  z_gald hx hb hK hat (vp_in_nI hj hn) hdg (by rw [nI_clamp (Nat.lt_trans hj hn), hv]; exact kk)
theorem z_paldN (hx : p.tables.exec = Jvm.exec) (hb : c.code = cc) (hK : zK D ks s) {n : Nat} {f : Nat → Option Nat} (hat : va_at D vwCl (a, .inl (ks 3, n, .inr (.inr (.inr (.inr f))))) H) {j : Nat} (hj : j < n) (hn : n < 2 ^ 31) {v : Option Nat} (hv : f j = v) (hdg : decode cc pc = .ok (.aaload, 1)) (kk : W p l e R s m args below meth c H locs cells slots Q (F0 m (pc + 1) ls (va_rf v :: rest))) : W p l e R s m args below meth c H locs cells slots Q (F0 m pc ls (.int (nI j) :: .ref a :: rest)) :=
  z_pald hx hb hK hat (vp_in_nI hj hn) hdg (by rw [nI_clamp (Nat.lt_trans hj hn), hv]; exact kk)
theorem as_1N (hx : p.tables.exec = Jvm.exec) (hb : c.code = cc) (hK : zK D ks s) (hP : zP D Rs ad (gS ks ad np ng G MI MJ XI XJ) H) (hD : zD A Rs ad) (hS : va_S A s.heap H locs) (hr : 1 ∈ Rs) {j : Nat} {v : Int32} (hj : j < 30) (hdg : decode cc pc = .ok (.iastore, 1)) (kk : ∀ (H1 : Heap) (locs1 : List Loc), zP D Rs ad (gS ks ad np ng G (u2 MI 1 j v) MJ XI XJ) H1 → va_S A s.heap H1 locs1 → W p l e R s m args below meth c H1 locs1 cells slots Q (F0 m (pc + 1) ls rest)) : W p l e R s m args below meth c H locs cells slots Q (F0 m pc ls (.int v :: .int (nI j) :: .ref (ad 1) :: rest)) :=
  as_1 hx hb hK hP hD hS hr (vp_in_nI hj (by decide)) hdg (by rw [nI_clamp (Nat.lt_trans hj (by decide))]; exact kk)
theorem as_2N (hx : p.tables.exec = Jvm.exec) (hb : c.code = cc) (hK : zK D ks s) (hP : zP D Rs ad (gS ks ad np ng G MI MJ XI XJ) H) (hD : zD A Rs ad) (hS : va_S A s.heap H locs) (hr : 2 ∈ Rs) {j : Nat} {v : Int32} (hj : j < 30) (hdg : decode cc pc = .ok (.iastore, 1)) (kk : ∀ (H1 : Heap) (locs1 : List Loc), zP D Rs ad (gS ks ad np ng G (u2 MI 2 j v) MJ XI XJ) H1 → va_S A s.heap H1 locs1 → W p l e R s m args below meth c H1 locs1 cells slots Q (F0 m (pc + 1) ls rest)) : W p l e R s m args below meth c H locs cells slots Q (F0 m pc ls (.int v :: .int (nI j) :: .ref (ad 2) :: rest)) :=
  as_2 hx hb hK hP hD hS hr (vp_in_nI hj (by decide)) hdg (by rw [nI_clamp (Nat.lt_trans hj (by decide))]; exact kk)
theorem as_3N (hx : p.tables.exec = Jvm.exec) (hb : c.code = cc) (hK : zK D ks s) (hP : zP D Rs ad (gS ks ad np ng G MI MJ XI XJ) H) (hD : zD A Rs ad) (hS : va_S A s.heap H locs) (hr : 3 ∈ Rs) {j : Nat} {v : Int32} (hj : j < 30) (hdg : decode cc pc = .ok (.iastore, 1)) (kk : ∀ (H1 : Heap) (locs1 : List Loc), zP D Rs ad (gS ks ad np ng G (u2 MI 3 j v) MJ XI XJ) H1 → va_S A s.heap H1 locs1 → W p l e R s m args below meth c H1 locs1 cells slots Q (F0 m (pc + 1) ls rest)) : W p l e R s m args below meth c H locs cells slots Q (F0 m pc ls (.int v :: .int (nI j) :: .ref (ad 3) :: rest)) :=
  as_3 hx hb hK hP hD hS hr (vp_in_nI hj (by decide)) hdg (by rw [nI_clamp (Nat.lt_trans hj (by decide))]; exact kk)
theorem as_4N (hx : p.tables.exec = Jvm.exec) (hb : c.code = cc) (hK : zK D ks s) (hP : zP D Rs ad (gS ks ad np ng G MI MJ XI XJ) H) (hD : zD A Rs ad) (hS : va_S A s.heap H locs) (hr : 4 ∈ Rs) {j : Nat} {v : Int32} (hj : j < 30) (hdg : decode cc pc = .ok (.iastore, 1)) (kk : ∀ (H1 : Heap) (locs1 : List Loc), zP D Rs ad (gS ks ad np ng G (u2 MI 4 j v) MJ XI XJ) H1 → va_S A s.heap H1 locs1 → W p l e R s m args below meth c H1 locs1 cells slots Q (F0 m (pc + 1) ls rest)) : W p l e R s m args below meth c H locs cells slots Q (F0 m pc ls (.int v :: .int (nI j) :: .ref (ad 4) :: rest)) :=
  as_4 hx hb hK hP hD hS hr (vp_in_nI hj (by decide)) hdg (by rw [nI_clamp (Nat.lt_trans hj (by decide))]; exact kk)
theorem as_5N (hx : p.tables.exec = Jvm.exec) (hb : c.code = cc) (hK : zK D ks s) (hP : zP D Rs ad (gS ks ad np ng G MI MJ XI XJ) H) (hD : zD A Rs ad) (hS : va_S A s.heap H locs) (hr : 5 ∈ Rs) {j : Nat} {v : Int32} (hj : j < 30) (hdg : decode cc pc = .ok (.iastore, 1)) (kk : ∀ (H1 : Heap) (locs1 : List Loc), zP D Rs ad (gS ks ad np ng G (u2 MI 5 j v) MJ XI XJ) H1 → va_S A s.heap H1 locs1 → W p l e R s m args below meth c H1 locs1 cells slots Q (F0 m (pc + 1) ls rest)) : W p l e R s m args below meth c H locs cells slots Q (F0 m pc ls (.int v :: .int (nI j) :: .ref (ad 5) :: rest)) :=
  as_5 hx hb hK hP hD hS hr (vp_in_nI hj (by decide)) hdg (by rw [nI_clamp (Nat.lt_trans hj (by decide))]; exact kk)
theorem as_6N (hx : p.tables.exec = Jvm.exec) (hb : c.code = cc) (hK : zK D ks s) (hP : zP D Rs ad (gS ks ad np ng G MI MJ XI XJ) H) (hD : zD A Rs ad) (hS : va_S A s.heap H locs) (hr : 6 ∈ Rs) {j : Nat} {v : Int32} (hj : j < 30) (hdg : decode cc pc = .ok (.iastore, 1)) (kk : ∀ (H1 : Heap) (locs1 : List Loc), zP D Rs ad (gS ks ad np ng G (u2 MI 6 j v) MJ XI XJ) H1 → va_S A s.heap H1 locs1 → W p l e R s m args below meth c H1 locs1 cells slots Q (F0 m (pc + 1) ls rest)) : W p l e R s m args below meth c H locs cells slots Q (F0 m pc ls (.int v :: .int (nI j) :: .ref (ad 6) :: rest)) :=
  as_6 hx hb hK hP hD hS hr (vp_in_nI hj (by decide)) hdg (by rw [nI_clamp (Nat.lt_trans hj (by decide))]; exact kk)
theorem as_7N (hx : p.tables.exec = Jvm.exec) (hb : c.code = cc) (hK : zK D ks s) (hP : zP D Rs ad (gS ks ad np ng G MI MJ XI XJ) H) (hD : zD A Rs ad) (hS : va_S A s.heap H locs) (hr : 7 ∈ Rs) {j : Nat} {v : Int32} (hj : j < 30) (hdg : decode cc pc = .ok (.iastore, 1)) (kk : ∀ (H1 : Heap) (locs1 : List Loc), zP D Rs ad (gS ks ad np ng G (u2 MI 7 j v) MJ XI XJ) H1 → va_S A s.heap H1 locs1 → W p l e R s m args below meth c H1 locs1 cells slots Q (F0 m (pc + 1) ls rest)) : W p l e R s m args below meth c H locs cells slots Q (F0 m pc ls (.int v :: .int (nI j) :: .ref (ad 7) :: rest)) :=
  as_7 hx hb hK hP hD hS hr (vp_in_nI hj (by decide)) hdg (by rw [nI_clamp (Nat.lt_trans hj (by decide))]; exact kk)
theorem as_8N (hx : p.tables.exec = Jvm.exec) (hb : c.code = cc) (hK : zK D ks s) (hP : zP D Rs ad (gS ks ad np ng G MI MJ XI XJ) H) (hD : zD A Rs ad) (hS : va_S A s.heap H locs) (hr : 8 ∈ Rs) {j : Nat} {v : Int64} (hj : j < 30) (hdg : decode cc pc = .ok (.lastore, 1)) (kk : ∀ (H1 : Heap) (locs1 : List Loc), zP D Rs ad (gS ks ad np ng G MI (u2 MJ 1 j v) XI XJ) H1 → va_S A s.heap H1 locs1 → W p l e R s m args below meth c H1 locs1 cells slots Q (F0 m (pc + 1) ls rest)) : W p l e R s m args below meth c H locs cells slots Q (F0 m pc ls (.long v :: .int (nI j) :: .ref (ad 8) :: rest)) :=
  as_8 hx hb hK hP hD hS hr (vp_in_nI hj (by decide)) hdg (by rw [nI_clamp (Nat.lt_trans hj (by decide))]; exact kk)
theorem as_9N (hx : p.tables.exec = Jvm.exec) (hb : c.code = cc) (hK : zK D ks s) (hP : zP D Rs ad (gS ks ad np ng G MI MJ XI XJ) H) (hD : zD A Rs ad) (hS : va_S A s.heap H locs) (hr : 9 ∈ Rs) {j : Nat} {v : Int64} (hj : j < 30) (hdg : decode cc pc = .ok (.lastore, 1)) (kk : ∀ (H1 : Heap) (locs1 : List Loc), zP D Rs ad (gS ks ad np ng G MI (u2 MJ 2 j v) XI XJ) H1 → va_S A s.heap H1 locs1 → W p l e R s m args below meth c H1 locs1 cells slots Q (F0 m (pc + 1) ls rest)) : W p l e R s m args below meth c H locs cells slots Q (F0 m pc ls (.long v :: .int (nI j) :: .ref (ad 9) :: rest)) :=
  as_9 hx hb hK hP hD hS hr (vp_in_nI hj (by decide)) hdg (by rw [nI_clamp (Nat.lt_trans hj (by decide))]; exact kk)
theorem as_10N (hx : p.tables.exec = Jvm.exec) (hb : c.code = cc) (hK : zK D ks s) (hP : zP D Rs ad (gS ks ad np ng G MI MJ XI XJ) H) (hD : zD A Rs ad) (hS : va_S A s.heap H locs) (hr : 10 ∈ Rs) {j : Nat} {v : Int32} (hj : j < 21) (hdg : decode cc pc = .ok (.iastore, 1)) (kk : ∀ (H1 : Heap) (locs1 : List Loc), zP D Rs ad (gS ks ad np ng G (u2 MI 8 j v) MJ XI XJ) H1 → va_S A s.heap H1 locs1 → W p l e R s m args below meth c H1 locs1 cells slots Q (F0 m (pc + 1) ls rest)) : W p l e R s m args below meth c H locs cells slots Q (F0 m pc ls (.int v :: .int (nI j) :: .ref (ad 10) :: rest)) :=
  as_10 hx hb hK hP hD hS hr (vp_in_nI hj (by decide)) hdg (by rw [nI_clamp (Nat.lt_trans hj (by decide))]; exact kk)
theorem as_11N (hx : p.tables.exec = Jvm.exec) (hb : c.code = cc) (hK : zK D ks s) (hP : zP D Rs ad (gS ks ad np ng G MI MJ XI XJ) H) (hD : zD A Rs ad) (hS : va_S A s.heap H locs) (hr : 11 ∈ Rs) {j : Nat} {v : Int32} (hj : j < 21) (hdg : decode cc pc = .ok (.iastore, 1)) (kk : ∀ (H1 : Heap) (locs1 : List Loc), zP D Rs ad (gS ks ad np ng G (u2 MI 9 j v) MJ XI XJ) H1 → va_S A s.heap H1 locs1 → W p l e R s m args below meth c H1 locs1 cells slots Q (F0 m (pc + 1) ls rest)) : W p l e R s m args below meth c H locs cells slots Q (F0 m pc ls (.int v :: .int (nI j) :: .ref (ad 11) :: rest)) :=
  as_11 hx hb hK hP hD hS hr (vp_in_nI hj (by decide)) hdg (by rw [nI_clamp (Nat.lt_trans hj (by decide))]; exact kk)
theorem as_12N (hx : p.tables.exec = Jvm.exec) (hb : c.code = cc) (hK : zK D ks s) (hP : zP D Rs ad (gS ks ad np ng G MI MJ XI XJ) H) (hD : zD A Rs ad) (hS : va_S A s.heap H locs) (hr : 12 ∈ Rs) {j : Nat} {v : Int64} (hj : j < 1) (hdg : decode cc pc = .ok (.lastore, 1)) (kk : ∀ (H1 : Heap) (locs1 : List Loc), zP D Rs ad (gS ks ad np ng G MI (u2 MJ 3 j v) XI XJ) H1 → va_S A s.heap H1 locs1 → W p l e R s m args below meth c H1 locs1 cells slots Q (F0 m (pc + 1) ls rest)) : W p l e R s m args below meth c H locs cells slots Q (F0 m pc ls (.long v :: .int (nI j) :: .ref (ad 12) :: rest)) :=
  as_12 hx hb hK hP hD hS hr (vp_in_nI hj (by decide)) hdg (by rw [nI_clamp (Nat.lt_trans hj (by decide))]; exact kk)
theorem as_16N (hx : p.tables.exec = Jvm.exec) (hb : c.code = cc) (hK : zK D ks s) (hP : zP D Rs ad (gS ks ad np ng G MI MJ XI XJ) H) (hD : zD A Rs ad) (hS : va_S A s.heap H locs) (hr : 16 ∈ Rs) {j : Nat} {v : Int64} (hj : j < 21) (hdg : decode cc pc = .ok (.lastore, 1)) (kk : ∀ (H1 : Heap) (locs1 : List Loc), zP D Rs ad (gS ks ad np ng G MI MJ XI (u2 XJ 5 j v)) H1 → va_S A s.heap H1 locs1 → W p l e R s m args below meth c H1 locs1 cells slots Q (F0 m (pc + 1) ls rest)) : W p l e R s m args below meth c H locs cells slots Q (F0 m pc ls (.long v :: .int (nI j) :: .ref (ad 16) :: rest)) :=
  as_16 hx hb hK hP hD hS hr (vp_in_nI hj (by decide)) hdg (by rw [nI_clamp (Nat.lt_trans hj (by decide))]; exact kk)
theorem as_17N (hx : p.tables.exec = Jvm.exec) (hb : c.code = cc) (hK : zK D ks s) (hP : zP D Rs ad (gS ks ad np ng G MI MJ XI XJ) H) (hD : zD A Rs ad) (hS : va_S A s.heap H locs) (hr : 17 ∈ Rs) {j : Nat} {v : Int64} (hj : j < 21) (hdg : decode cc pc = .ok (.lastore, 1)) (kk : ∀ (H1 : Heap) (locs1 : List Loc), zP D Rs ad (gS ks ad np ng G MI MJ XI (u2 XJ 6 j v)) H1 → va_S A s.heap H1 locs1 → W p l e R s m args below meth c H1 locs1 cells slots Q (F0 m (pc + 1) ls rest)) : W p l e R s m args below meth c H locs cells slots Q (F0 m pc ls (.long v :: .int (nI j) :: .ref (ad 17) :: rest)) :=
  as_17 hx hb hK hP hD hS hr (vp_in_nI hj (by decide)) hdg (by rw [nI_clamp (Nat.lt_trans hj (by decide))]; exact kk)
theorem z_ilen (hx : p.tables.exec = Jvm.exec) (hb : c.code = cc) (hK : zK D ks s) {n : Nat} {f : Nat → Int32} (hat : va_at D vwCl (a, .inl (ks 0, n, .inl f)) H) {v : Int32} (hv : Int32.ofNat n = v) (hdg : decode cc pc = .ok (.arraylength, 1)) (kk : W p l e R s m args below meth c H locs cells slots Q (F0 m (pc + 1) ls (.int v :: rest))) : W p l e R s m args below meth c H locs cells slots Q (F0 m pc ls (.ref a :: rest)) := va_alen hx hb hK.1 (z1P hat) 0 0 rfl rfl hv hdg kk
theorem zi_m1 (x : Int32) : x + Int32.ofInt (-1) = x - 1 := by rw [Int32.sub_eq_add_neg]; rfl
theorem z_vpin {t N : Int32} {n : Nat} (h0 : ¬ t < 0) (h1 : ¬ N ≤ t) (hN : N.toInt = n) : vp_in t n := by
  rw [vp_in_iff]
  have a1 := Int32.le_iff_toInt_le.mp (Int32.not_lt.mp h0)
  have a2 := Int32.lt_iff_toInt_lt.mp (Int32.not_le.mp h1)
  have a3 : (0 : Int32).toInt = 0 := rfl
  omega
theorem z_lcmp_gt (hx : p.tables.exec = Jvm.exec) (hb : c.code = cc) {x y : Int64} {off : Int} {tgt : Nat} (h1 : decode cc pc = .ok (.lcmp, 1)) (h2 : decode cc (pc + 1) = .ok (.ifCond .gt off, 3)) (ht : ((pc + 1 : Nat) : Int) + off = (tgt : Int))
    (kt : y < x → W p l e R s m args below meth c H locs cells slots Q (F0 m tgt ls rest)) (kf : ¬ y < x → W p l e R s m args below meth c H locs cells slots Q (F0 m (pc + 4) ls rest)) : W p l e R s m args below meth c H locs cells slots Q (F0 m pc ls (.long y :: .long x :: rest)) := by
  refine W.lcmp hx hb h1 (lv_if_gt hx hb h2 ht (fun q => kt ?_) (fun q => kf fun q2 => ?_))
  · by_cases z : y < x
    · exact z
    · exact absurd q (by by_cases z2 : x = y <;> simp [lg_cmp, z, z2])
  · exact q (by simp [lg_cmp, q2])
theorem z_lcmp_lt (hx : p.tables.exec = Jvm.exec) (hb : c.code = cc) {x y : Int64} {off : Int} {tgt : Nat} (h1 : decode cc pc = .ok (.lcmp, 1)) (h2 : decode cc (pc + 1) = .ok (.ifCond .lt off, 3)) (ht : ((pc + 1 : Nat) : Int) + off = (tgt : Int))
    (kt : x < y → W p l e R s m args below meth c H locs cells slots Q (F0 m tgt ls rest)) (kf : ¬ x < y → W p l e R s m args below meth c H locs cells slots Q (F0 m (pc + 4) ls rest)) : W p l e R s m args below meth c H locs cells slots Q (F0 m pc ls (.long y :: .long x :: rest)) := by
  refine W.lcmp hx hb h1 (lv_if_lt hx hb h2 ht (fun q => kt ?_) (fun q => kf fun q2 => ?_))
  · by_cases z : y < x
    · exact absurd q (by simp [lg_cmp, z])
    · by_cases z2 : x = y
      · exact absurd q (by simp [lg_cmp, z2])
      · rcases Int64.lt_or_eq_of_le (Int64.not_lt.mp z) with h | h
        · exact h
        · exact absurd h z2
  · have a1 : ¬ y < x := fun h => Int64.lt_irrefl (Int64.lt_trans h q2)
    have a2 : ¬ x = y := fun h => by subst h; exact Int64.lt_irrefl q2
    exact q (by simp [lg_cmp, a1, a2])
end ZN
end
section
/-! the static functions -/
section ZS
def fFloor (x y : Int64) : Int64 := if (x ^^^ y) < 0 then (if x / y * y = x then x / y else x / y - 1) else x / y
def fThou (a b : Int64) : Int64 := fFloor (a * b) 1000
def fParted (a d : Int64) : Int64 := if 0 < d then a / d else 0
def fIn (v lo hi : Int32) : Int32 := if lo ≤ v ∧ v ≤ hi then 1 else 0
theorem fIn_nar {v lo hi : Int32} : narrow .boolean (.int (fIn v lo hi)) = .int (fIn v lo hi) := by unfold fIn; split <;> rfl
abbrev fMax (x y : Int64) : Int64 := if y < x then x else y
abbrev fMin (x y : Int64) : Int64 := if y < x then y else x
def fPart (a b : Int64) : Int64 := if a * b < 0 then (if a * b / 1000 * 1000 = a * b then a * b / 1000 else a * b / 1000 - 1) else a * b / 1000
set_option maxHeartbeats 4000000 in
set_option maxRecDepth 100000 in
theorem c_J9_floorDiv_f86c9 (l : Launch) (D : va_G) (ks : Nat → ClassId) (x : Int64) (y : Int64) (hy : ¬ y = 0) : zMR l yJ9_floorDiv_f86c9 cJ9_floorDiv_f86c9 6 ((some .long)) 0 0 D ks [.long x, .long y] (fun _ => True) (some (.long (fFloor x y))) := by
  refine zMR.ofF (by decide +kernel) (Nat.le_of_ble_eq_true rfl) ?_
  intro p e s m below meth c ls hx hb hr hml hown hlk hT _ hK hl
  have hl : lv_has ls 6 [(0, .long x), (2, .long y)] := hl
  refine lv_lload_n hx hb dJ9_floorDiv_f86c9_0 rfl (lv_at hl 0 rfl) ?_
  refine lv_lload_n hx hb dJ9_floorDiv_f86c9_1 rfl (lv_at hl 1 rfl) ?_
  refine lv_ldiv hx hb dJ9_floorDiv_f86c9_2 (hy) ?_
  refine lv_lstore (lv' := [(4, .long (x / y)), (0, .long x), (2, .long y)]) hx hb dJ9_floorDiv_f86c9_3 hl (by decide) rfl (fun ls hl => ?_)
  refine lv_lload_n hx hb dJ9_floorDiv_f86c9_5 rfl (lv_at hl 1 rfl) ?_
  refine lv_lload_n hx hb dJ9_floorDiv_f86c9_6 rfl (lv_at hl 2 rfl) ?_
  refine lv_lxor hx hb dJ9_floorDiv_f86c9_7 ?_
  refine lv_lconst (v := 0) hx hb dJ9_floorDiv_f86c9_8 (by decide) ?_
  refine z_lcmp_ge (tgt := 27) hx hb dJ9_floorDiv_f86c9_9 dJ9_floorDiv_f86c9_10 (by decide) (fun c_1 => ?_) (fun c_1 => ?_)
  · refine lv_lload hx hb dJ9_floorDiv_f86c9_27 (lv_at hl 0 rfl) ?_
    exact zR_l hx hb hr hlk dJ9_floorDiv_f86c9_29 (by unfold fFloor; first | rfl | (simp only [c_1, if_true, if_false, and_true, true_and, and_false, false_and, not_true_eq_false, not_false_eq_true]; done) | (rw [if_pos (by assumption)]; done) | (split <;> first | rfl | (exfalso; simp_all; done) | simp_all))
  · refine lv_lload hx hb dJ9_floorDiv_f86c9_13 (lv_at hl 0 rfl) ?_
    refine lv_lload_n hx hb dJ9_floorDiv_f86c9_15 rfl (lv_at hl 2 rfl) ?_
    refine lv_lmul hx hb dJ9_floorDiv_f86c9_16 ?_
    refine lv_lload_n hx hb dJ9_floorDiv_f86c9_17 rfl (lv_at hl 1 rfl) ?_
    refine z_lcmp_eq (tgt := 27) hx hb dJ9_floorDiv_f86c9_18 dJ9_floorDiv_f86c9_19 (by decide) (fun c_2 => ?_) (fun c_2 => ?_)
    · refine lv_lload hx hb dJ9_floorDiv_f86c9_27 (lv_at hl 0 rfl) ?_
      exact zR_l hx hb hr hlk dJ9_floorDiv_f86c9_29 (by unfold fFloor; first | rfl | (simp only [c_1, c_2, if_true, if_false, and_true, true_and, and_false, false_and, not_true_eq_false, not_false_eq_true]; done) | (rw [if_pos (by assumption)]; done) | (split <;> first | rfl | (exfalso; simp_all; done) | simp_all))
    · refine lv_lload hx hb dJ9_floorDiv_f86c9_22 (lv_at hl 0 rfl) ?_
      refine lv_lconst (v := 1) hx hb dJ9_floorDiv_f86c9_24 (by decide) ?_
      refine lv_lsub hx hb dJ9_floorDiv_f86c9_25 ?_
      exact zR_l hx hb hr hlk dJ9_floorDiv_f86c9_26 (by unfold fFloor; first | rfl | (simp only [c_1, c_2, if_true, if_false, and_true, true_and, and_false, false_and, not_true_eq_false, not_false_eq_true]; done) | (rw [if_pos (by assumption)]; done) | (split <;> first | rfl | (exfalso; simp_all; done) | simp_all))
set_option maxHeartbeats 4000000 in
set_option maxRecDepth 100000 in
theorem c_X3_thousandths (l : Launch) (D : va_G) (ks : Nat → ClassId) (a : Int64) (b : Int64) : zMR l yX3_thousandths cX3_thousandths 4 ((some .long)) 1 25 D ks [.long a, .long b] (fun _ => True) (some (.long (fThou a b))) := by
  refine zMR.of (by decide +kernel) (Nat.le_of_ble_eq_true rfl) ?_
  intro p e s m below meth c ls hx hb hr hml hown hlk hT _ hK hl
  have hl : lv_has ls 4 [(0, .long a), (2, .long b)] := hl
  refine lv_lload_n hx hb dX3_thousandths_0 rfl (lv_at hl 0 rfl) ?_
  refine lv_lload_n hx hb dX3_thousandths_1 rfl (lv_at hl 1 rfl) ?_
  refine lv_lmul hx hb dX3_thousandths_2 ?_
  refine lv_ldc2 (v := 1000) hx hb hown (hT _ kl_X3_224) dX3_thousandths_3 ?_
  refine z_backR1 (z_runS ⟨hx, hb, hml, hown, hT⟩ (rest := []) (As := [.long (a * b), .long 1000]) (c_J9_floorDiv_f86c9 l D ks (a * b) 1000 (by decide)) k_X3_242 (z_preR hK trivial) rfl ⟨Nat.le_of_ble_eq_true rfl, Nat.le_of_ble_eq_true rfl⟩ hl.1 rfl (Nat.le_of_ble_eq_true rfl) dX3_thousandths_6 ⟨Nat.le_of_ble_eq_true rfl, Nat.le_of_ble_eq_true rfl⟩) ?_
  exact zR_l hx hb hr hlk dX3_thousandths_9 (rfl)
set_option maxHeartbeats 4000000 in
set_option maxRecDepth 100000 in
theorem c_X3_parted (l : Launch) (D : va_G) (ks : Nat → ClassId) (a : Int64) (d : Int64) : zMR l yX3_parted cX3_parted 4 ((some .long)) 0 0 D ks [.long a, .long d] (fun _ => True) (some (.long (fParted a d))) := by
  refine zMR.of (by decide +kernel) (Nat.le_of_ble_eq_true rfl) ?_
  intro p e s m below meth c ls hx hb hr hml hown hlk hT _ hK hl
  have hl : lv_has ls 4 [(0, .long a), (2, .long d)] := hl
  refine lv_lload_n hx hb dX3_parted_0 rfl (lv_at hl 1 rfl) ?_
  refine lv_lconst (v := 0) hx hb dX3_parted_1 (by decide) ?_
  refine z_lcmp_le (tgt := 12) hx hb dX3_parted_2 dX3_parted_3 (by decide) (fun c_1 => ?_) (fun c_1 => ?_)
  · refine lv_lconst (v := 0) hx hb dX3_parted_12 (by decide) ?_
    exact zR_l hx hb hr hlk dX3_parted_13 (by unfold fParted; first | rfl | (simp only [c_1, if_true, if_false, and_true, true_and, and_false, false_and, not_true_eq_false, not_false_eq_true]; done) | (rw [if_pos (by assumption)]; done) | (split <;> first | rfl | (exfalso; simp_all; done) | simp_all))
  · refine lv_lload_n hx hb dX3_parted_6 rfl (lv_at hl 0 rfl) ?_
    refine lv_lload_n hx hb dX3_parted_7 rfl (lv_at hl 1 rfl) ?_
    refine lv_ldiv hx hb dX3_parted_8 (fun h => by subst h; exact absurd c_1 (by decide)) ?_
    refine lv_goto (tgt := 13) hx hb dX3_parted_9 (by decide) ?_
    exact zR_l hx hb hr hlk dX3_parted_13 (by unfold fParted; first | rfl | (simp only [c_1, if_true, if_false, and_true, true_and, and_false, false_and, not_true_eq_false, not_false_eq_true]; done) | (rw [if_pos (by assumption)]; done) | (split <;> first | rfl | (exfalso; simp_all; done) | simp_all))
set_option maxHeartbeats 4000000 in
set_option maxRecDepth 100000 in
theorem c_X3_isWithin (l : Launch) (D : va_G) (ks : Nat → ClassId) (v : Int32) (lo : Int32) (hi : Int32) : zMR l yX3_isWithin cX3_isWithin 3 ((some .boolean)) 0 0 D ks [.int v, .int lo, .int hi] (fun _ => True) (some (.int (fIn v lo hi))) := by
  refine zMR.of (by decide +kernel) (Nat.le_of_ble_eq_true rfl) ?_
  intro p e s m below meth c ls hx hb hr hml hown hlk hT _ hK hl
  have hl : lv_has ls 3 [(0, .int v), (1, .int lo), (2, .int hi)] := hl
  refine lv_iload_n hx hb dX3_isWithin_0 rfl (lv_at hl 0 rfl) ?_
  refine lv_iload_n hx hb dX3_isWithin_1 rfl (lv_at hl 1 rfl) ?_
  refine lv_icmp_lt (tgt := 14) hx hb dX3_isWithin_2 (by decide) (fun c_1 => ?_) (fun c_1 => ?_)
  · refine lv_iconst (v := 0) hx hb dX3_isWithin_14 (by decide) ?_
    exact zR_z hx hb hr hlk dX3_isWithin_15 (rfl) ((if_neg (fun h => absurd h.1 (Int32.not_le.mpr c_1))).symm)
  · refine lv_iload_n hx hb dX3_isWithin_5 rfl (lv_at hl 0 rfl) ?_
    refine lv_iload_n hx hb dX3_isWithin_6 rfl (lv_at hl 2 rfl) ?_
    refine lv_icmp_gt (tgt := 14) hx hb dX3_isWithin_7 (by decide) (fun c_2 => ?_) (fun c_2 => ?_)
    · refine lv_iconst (v := 0) hx hb dX3_isWithin_14 (by decide) ?_
      exact zR_z hx hb hr hlk dX3_isWithin_15 (rfl) ((if_neg (fun h => absurd h.2 (Int32.not_le.mpr c_2))).symm)
    · refine lv_iconst (v := 1) hx hb dX3_isWithin_10 (by decide) ?_
      refine lv_goto (tgt := 15) hx hb dX3_isWithin_11 (by decide) ?_
      exact zR_z hx hb hr hlk dX3_isWithin_15 (rfl) ((if_pos ⟨Int32.not_lt.mp c_1, Int32.not_lt.mp c_2⟩).symm)
set_option maxHeartbeats 4000000 in
set_option maxRecDepth 100000 in
theorem c_X3_isTerm (l : Launch) (D : va_G) (ks : Nat → ClassId) (t : Int32) : zMR l yX3_isTerm cX3_isTerm 1 ((some .boolean)) 1 22 D ks [.int t] (fun _ => True) (some (.int (fIn t 2 20))) := by
  refine zMR.of (by decide +kernel) (Nat.le_of_ble_eq_true rfl) ?_
  intro p e s m below meth c ls hx hb hr hml hown hlk hT _ hK hl
  have hl : lv_has ls 1 [(0, .int t)] := hl
  refine lv_iload_n hx hb dX3_isTerm_0 rfl (lv_at hl 0 rfl) ?_
  refine lv_iconst (v := 2) hx hb dX3_isTerm_1 (by decide) ?_
  refine lv_bipush (v := 20) hx hb dX3_isTerm_2 (by decide) ?_
  refine z_backR1 (z_runS ⟨hx, hb, hml, hown, hT⟩ (rest := []) (As := [.int t, .int 2, .int 20]) (c_X3_isWithin l D ks t 2 20 ) k_X3_50 (z_preR hK trivial) rfl ⟨Nat.le_of_ble_eq_true rfl, Nat.le_of_ble_eq_true rfl⟩ hl.1 rfl (Nat.le_of_ble_eq_true rfl) dX3_isTerm_4 ⟨Nat.le_of_ble_eq_true rfl, Nat.le_of_ble_eq_true rfl⟩) ?_
  exact zR_z hx hb hr hlk dX3_isTerm_7 (fIn_nar) (rfl)
set_option maxHeartbeats 4000000 in
set_option maxRecDepth 100000 in
theorem c_X4_in (l : Launch) (D : va_G) (ks : Nat → ClassId) (v : Int32) (lo : Int32) (hi : Int32) : zMR l yX4_in cX4_in 3 ((some .boolean)) 0 0 D ks [.int v, .int lo, .int hi] (fun _ => True) (some (.int (fIn v lo hi))) := by
  refine zMR.of (by decide +kernel) (Nat.le_of_ble_eq_true rfl) ?_
  intro p e s m below meth c ls hx hb hr hml hown hlk hT _ hK hl
  have hl : lv_has ls 3 [(0, .int v), (1, .int lo), (2, .int hi)] := hl
  refine lv_iload_n hx hb dX4_in_0 rfl (lv_at hl 0 rfl) ?_
  refine lv_iload_n hx hb dX4_in_1 rfl (lv_at hl 1 rfl) ?_
  refine lv_icmp_lt (tgt := 14) hx hb dX4_in_2 (by decide) (fun c_1 => ?_) (fun c_1 => ?_)
  · refine lv_iconst (v := 0) hx hb dX4_in_14 (by decide) ?_
    exact zR_z hx hb hr hlk dX4_in_15 (rfl) ((if_neg (fun h => absurd h.1 (Int32.not_le.mpr c_1))).symm)
  · refine lv_iload_n hx hb dX4_in_5 rfl (lv_at hl 0 rfl) ?_
    refine lv_iload_n hx hb dX4_in_6 rfl (lv_at hl 2 rfl) ?_
    refine lv_icmp_gt (tgt := 14) hx hb dX4_in_7 (by decide) (fun c_2 => ?_) (fun c_2 => ?_)
    · refine lv_iconst (v := 0) hx hb dX4_in_14 (by decide) ?_
      exact zR_z hx hb hr hlk dX4_in_15 (rfl) ((if_neg (fun h => absurd h.2 (Int32.not_le.mpr c_2))).symm)
    · refine lv_iconst (v := 1) hx hb dX4_in_10 (by decide) ?_
      refine lv_goto (tgt := 15) hx hb dX4_in_11 (by decide) ?_
      exact zR_z hx hb hr hlk dX4_in_15 (rfl) ((if_pos ⟨Int32.not_lt.mp c_1, Int32.not_lt.mp c_2⟩).symm)
set_option maxHeartbeats 4000000 in
set_option maxRecDepth 100000 in
theorem c_X4_part (l : Launch) (D : va_G) (ks : Nat → ClassId) (a : Int64) (b : Int64) : zMR l yX4_part cX4_part 8 ((some .long)) 0 0 D ks [.long a, .long b] (fun _ => True) (some (.long (fPart a b))) := by
  refine zMR.of (by decide +kernel) (Nat.le_of_ble_eq_true rfl) ?_
  intro p e s m below meth c ls hx hb hr hml hown hlk hT _ hK hl
  have hl : lv_has ls 8 [(0, .long a), (2, .long b)] := hl
  refine lv_lload_n hx hb dX4_part_0 rfl (lv_at hl 0 rfl) ?_
  refine lv_lload_n hx hb dX4_part_1 rfl (lv_at hl 1 rfl) ?_
  refine lv_lmul hx hb dX4_part_2 ?_
  refine lv_lstore (lv' := [(4, .long (a * b)), (0, .long a), (2, .long b)]) hx hb dX4_part_3 hl (by decide) rfl (fun ls hl => ?_)
  refine lv_lload hx hb dX4_part_5 (lv_at hl 0 rfl) ?_
  refine lv_ldc2 (v := 1000) hx hb hown (hT _ kl_X4_70) dX4_part_7 ?_
  refine lv_ldiv hx hb dX4_part_10 (by decide) ?_
  refine lv_lstore (lv' := [(6, .long ((a * b) / 1000)), (4, .long (a * b)), (0, .long a), (2, .long b)]) hx hb dX4_part_11 hl (by decide) rfl (fun ls hl => ?_)
  refine lv_lload hx hb dX4_part_13 (lv_at hl 1 rfl) ?_
  refine lv_lconst (v := 0) hx hb dX4_part_15 (by decide) ?_
  refine z_lcmp_ge (tgt := 39) hx hb dX4_part_16 dX4_part_17 (by decide) (fun c_1 => ?_) (fun c_1 => ?_)
  · refine lv_lload hx hb dX4_part_39 (lv_at hl 0 rfl) ?_
    exact zR_l hx hb hr hlk dX4_part_41 (by unfold fPart; first | rfl | (simp only [c_1, if_true, if_false, and_true, true_and, and_false, false_and, not_true_eq_false, not_false_eq_true]; done) | (rw [if_pos (by assumption)]; done) | (split <;> first | rfl | (exfalso; simp_all; done) | simp_all))
  · refine lv_lload hx hb dX4_part_20 (lv_at hl 0 rfl) ?_
    refine lv_ldc2 (v := 1000) hx hb hown (hT _ kl_X4_70) dX4_part_22 ?_
    refine lv_lmul hx hb dX4_part_25 ?_
    refine lv_lload hx hb dX4_part_26 (lv_at hl 1 rfl) ?_
    refine z_lcmp_eq (tgt := 39) hx hb dX4_part_28 dX4_part_29 (by decide) (fun c_2 => ?_) (fun c_2 => ?_)
    · refine lv_lload hx hb dX4_part_39 (lv_at hl 0 rfl) ?_
      exact zR_l hx hb hr hlk dX4_part_41 (by unfold fPart; first | rfl | (simp only [c_1, c_2, if_true, if_false, and_true, true_and, and_false, false_and, not_true_eq_false, not_false_eq_true]; done) | (rw [if_pos (by assumption)]; done) | (split <;> first | rfl | (exfalso; simp_all; done) | simp_all))
    · refine lv_lload hx hb dX4_part_32 (lv_at hl 0 rfl) ?_
      refine lv_lconst (v := 1) hx hb dX4_part_34 (by decide) ?_
      refine lv_lsub hx hb dX4_part_35 ?_
      refine lv_goto (tgt := 41) hx hb dX4_part_36 (by decide) ?_
      exact zR_l hx hb hr hlk dX4_part_41 (by unfold fPart; first | rfl | (simp only [c_1, c_2, if_true, if_false, and_true, true_and, and_false, false_and, not_true_eq_false, not_false_eq_true]; done) | (rw [if_pos (by assumption)]; done) | (split <;> first | rfl | (exfalso; simp_all; done) | simp_all))
end ZS
end
section
/-! the office: what is read -/
section ZX1
variable {D : va_G} {ks : Nat → ClassId} {ad : Nat → Nat} {np ng : Nat} {G : Nat → Nat} {MI : Nat → Nat → Int32} {MJ : Nat → Nat → Int64} {XI : Nat → Nat → Int32} {XJ : Nat → Nat → Int64} {Rs : List Nat}
def fShare (a : Int64) (p : Int32) (P : Int64) : Int64 := fParted (a * Int32.toInt64 p) P
def fAsset (st : Int32) (a : Int64) (p : Int32) (P : Int64) : Int64 := if st = 0 then fShare a p P else 0
def fForce (st : Int32) : Int32 := if st = 0 then 1 else 0
theorem fForce_nar {st : Int32} : narrow .boolean (.int (fForce st)) = .int (fForce st) := by unfold fForce; split <;> rfl
def fSmooth (r la : Int64) (st : Int32) : Int64 := if la = -1 then r else fMin (fMax r (la - fThou la (Int32.toInt64 st))) (la + fThou la (Int32.toInt64 st))
def fWorth (years term : Int32) (sh : Int64) (pr fl : Int32) : Int64 := fMax 0 (fMax (fThou sh (600 + fParted (400 * Int32.toInt64 years) (Int32.toInt64 term))) (fThou (Int32.toInt64 years * Int32.toInt64 pr) (Int32.toInt64 fl)))
def fRat (f : Nat → Int64) (t : Int32) : Int64 := if 0 ≤ t ∧ t < 21 then f t.toNatClampNeg else -1
set_option maxHeartbeats 4000000 in
set_option maxRecDepth 100000 in
theorem c_X1_shareFor (l : Launch) (hI : zIn Rs np ng) (i : Nat) (p0 : Int32) (hi : i < ng) : zMR l yX1_shareFor cX1_shareFor 2 ((some .long)) 1 (23) D ks [.ref (ad (20 + 4 * i)), .int p0] (zP D Rs ad (gS ks ad np ng G MI MJ XI XJ)) (some (.long (fShare (XJ 8 i) p0 (XJ 7 i)))) := by
  refine zMR.of (by decide +kernel) (Nat.le_of_ble_eq_true rfl) ?_
  intro p e s m below meth c ls hx hb hr hml hown hlk hT hP hK hl
  have hl : lv_has ls 2 [(0, .ref (ad (20 + 4 * i))), (1, .int p0)] := hl
  refine lv_aload_n hx hb dX1_shareFor_0 rfl (lv_at hl 0 rfl) ?_
  refine gf_X1_19 hx hb hT hown hK (hP.at (hI.2.1 i hi).1 gS_0) rfl dX1_shareFor_1 ?_
  refine gf_X1_23 hx hb hT hown hK (hP.at (hI.2.1 i hi).2 gS_1) rfl dX1_shareFor_4 ?_
  refine lv_iload_n hx hb dX1_shareFor_7 rfl (lv_at hl 1 rfl) ?_
  refine lv_i2l hx hb dX1_shareFor_8 rfl ?_
  refine lv_lmul hx hb dX1_shareFor_9 ?_
  refine lv_aload_n hx hb dX1_shareFor_10 rfl (lv_at hl 0 rfl) ?_
  refine gf_X1_27 hx hb hT hown hK (hP.at (hI.2.1 i hi).1 gS_0) rfl dX1_shareFor_11 ?_
  refine z_backR1 (z_runSN ⟨hx, hb, hml, hown, hT⟩ hK (rest := []) (As := [.long ((XJ 8 i) * (Int32.toInt64 p0)), .long (XJ 7 i)]) (c_X3_parted l D ks ((XJ 8 i) * (Int32.toInt64 p0)) (XJ 7 i) ) k_X1_30 (z_preR hK trivial) rfl ⟨Nat.le_of_ble_eq_true rfl, Nat.le_of_ble_eq_true rfl⟩ hl.1 rfl (Nat.le_of_ble_eq_true rfl) dX1_shareFor_14 ⟨Nat.le_of_ble_eq_true rfl, Nat.le_of_ble_eq_true rfl⟩) ?_
  exact zR_l hx hb hr hlk dX1_shareFor_17 (rfl)
set_option maxHeartbeats 4000000 in
set_option maxRecDepth 100000 in
theorem c_X2_isInForce (l : Launch) (hI : zIn Rs np ng) (j : Nat) (hj : j < np) : zMR l yX2_isInForce cX2_isInForce 1 ((some .boolean)) 0 (0) D ks [.ref (ad (22 + 4 * j))] (zP D Rs ad (gS ks ad np ng G MI MJ XI XJ)) (some (.int (fForce (XI 15 j)))) := by
  refine zMR.of (by decide +kernel) (Nat.le_of_ble_eq_true rfl) ?_
  intro p e s m below meth c ls hx hb hr hml hown hlk hT hP hK hl
  have hl : lv_has ls 1 [(0, .ref (ad (22 + 4 * j)))] := hl
  refine lv_aload_n hx hb dX2_isInForce_0 rfl (lv_at hl 0 rfl) ?_
  refine gf_X2_29 hx hb hT hown hK (hP.at (hI.2.2 j hj).1 gS_2) rfl dX2_isInForce_1 ?_
  refine lv_if_ne (tgt := 11) hx hb dX2_isInForce_4 (by decide) (fun c_1 => ?_) (fun c_1 => ?_)
  · refine lv_iconst (v := 0) hx hb dX2_isInForce_11 (by decide) ?_
    exact zR_z hx hb hr hlk dX2_isInForce_12 (rfl) ((if_neg c_1).symm)
  · refine lv_iconst (v := 1) hx hb dX2_isInForce_7 (by decide) ?_
    refine lv_goto (tgt := 12) hx hb dX2_isInForce_8 (by decide) ?_
    exact zR_z hx hb hr hlk dX2_isInForce_12 (rfl) ((if_pos c_1).symm)
set_option maxHeartbeats 4000000 in
set_option maxRecDepth 100000 in
theorem c_X2_guaranteed (l : Launch) (hI : zIn Rs np ng) (j : Nat) (hj : j < np) : zMR l yX2_guaranteed cX2_guaranteed 1 ((some .long)) 0 (0) D ks [.ref (ad (22 + 4 * j))] (zP D Rs ad (gS ks ad np ng G MI MJ XI XJ)) (some (.long (Int32.toInt64 (XI 14 j) + XJ 10 j))) := by
  refine zMR.of (by decide +kernel) (Nat.le_of_ble_eq_true rfl) ?_
  intro p e s m below meth c ls hx hb hr hml hown hlk hT hP hK hl
  have hl : lv_has ls 1 [(0, .ref (ad (22 + 4 * j)))] := hl
  refine lv_aload_n hx hb dX2_guaranteed_0 rfl (lv_at hl 0 rfl) ?_
  refine gf_X2_19 hx hb hT hown hK (hP.at (hI.2.2 j hj).1 gS_2) rfl dX2_guaranteed_1 ?_
  refine lv_i2l hx hb dX2_guaranteed_4 rfl ?_
  refine lv_aload_n hx hb dX2_guaranteed_5 rfl (lv_at hl 0 rfl) ?_
  refine gf_X2_38 hx hb hT hown hK (hP.at (hI.2.2 j hj).1 gS_2) rfl dX2_guaranteed_6 ?_
  refine lv_ladd hx hb dX2_guaranteed_9 ?_
  exact zR_l hx hb hr hlk dX2_guaranteed_10 (rfl)
set_option maxHeartbeats 4000000 in
set_option maxRecDepth 100000 in
theorem c_X2_assetShare (l : Launch) (hI : zIn Rs np ng) (j : Nat) (hj : j < np) (hG : G j < ng) : zMR l yX2_assetShare cX2_assetShare 1 ((some .long)) 2 (44) D ks [.ref (ad (22 + 4 * j))] (zP D Rs ad (gS ks ad np ng G MI MJ XI XJ)) (some (.long (fAsset (XI 15 j) (XJ 8 (G j)) (XI 13 j) (XJ 7 (G j))))) := by
  refine zMR.of (by decide +kernel) (Nat.le_of_ble_eq_true rfl) ?_
  intro p e s m below meth c ls hx hb hr hml hown hlk hT hP hK hl
  have hl : lv_has ls 1 [(0, .ref (ad (22 + 4 * j)))] := hl
  refine lv_aload_n hx hb dX2_assetShare_0 rfl (lv_at hl 0 rfl) ?_
  refine z_backR1 (z_runV ⟨hx, hb, hml, hown, hT⟩ (rest := []) (As := []) (c_X2_isInForce (MI := MI) (MJ := MJ) (XI := XI) (XJ := XJ) l hI j (hj)) k_X2_41 (z_preRV hK hP (hP.at (hI.2.2 j hj).1 gS_2) rfl) rfl ⟨Nat.le_of_ble_eq_true rfl, Nat.le_of_ble_eq_true rfl⟩ hl.1 rfl (Nat.le_of_ble_eq_true rfl) dX2_assetShare_1 ⟨Nat.le_of_ble_eq_true rfl, Nat.le_of_ble_eq_true rfl⟩) ?_
  refine lv_if_eq (tgt := 21) hx hb dX2_assetShare_4 (by decide) (fun c_1 => ?_) (fun c_1 => ?_)
  · refine lv_lconst (v := 0) hx hb dX2_assetShare_21 (by decide) ?_
    exact zR_l hx hb hr hlk dX2_assetShare_22 ((if_neg (fun h => absurd ((if_pos h).symm.trans c_1 : (1 : Int32) = 0) (by decide))).symm)
  · refine lv_aload_n hx hb dX2_assetShare_7 rfl (lv_at hl 0 rfl) ?_
    refine gf_X2_9 hx hb hT hown hK (hP.at (hI.2.2 j hj).1 gS_2) rfl dX2_assetShare_8 ?_
    refine lv_aload_n hx hb dX2_assetShare_11 rfl (lv_at hl 0 rfl) ?_
    refine gf_X2_15 hx hb hT hown hK (hP.at (hI.2.2 j hj).1 gS_2) rfl dX2_assetShare_12 ?_
    refine z_backR1 (z_runVN ⟨hx, hb, hml, hown, hT⟩ hK (rest := []) (As := [.int (XI 13 j)]) (c_X1_shareFor (MI := MI) (MJ := MJ) (XI := XI) (XJ := XJ) l hI (G j) (XI 13 j) (hG)) k_X2_45 (z_preRV hK hP (hP.at (hI.2.1 (G j) hG).1 gS_0) rfl) rfl ⟨Nat.le_of_ble_eq_true rfl, Nat.le_of_ble_eq_true rfl⟩ hl.1 rfl (Nat.le_of_ble_eq_true rfl) dX2_assetShare_15 ⟨Nat.le_of_ble_eq_true rfl, Nat.le_of_ble_eq_true rfl⟩) ?_
    refine lv_goto (tgt := 22) hx hb dX2_assetShare_18 (by decide) ?_
    exact zR_l hx hb hr hlk dX2_assetShare_22 ((if_pos (Decidable.byContradiction fun h => c_1 (if_neg h))).symm)
set_option maxHeartbeats 4000000 in
set_option maxRecDepth 100000 in
theorem c_X3_yearsRun (l : Launch) (hI : zIn Rs np ng) (j : Nat) (hj : j < np) (hG : G j < ng) : zMR l yX3_yearsRun cX3_yearsRun 2 ((some .int)) 0 (0) D ks [.ref (ad 13), .ref (ad (22 + 4 * j))] (zP D Rs ad (gS ks ad np ng G MI MJ XI XJ)) (some (.int (XI 10 2 - XI 11 (G j)))) := by
  refine zMR.of (by decide +kernel) (Nat.le_of_ble_eq_true rfl) ?_
  intro p e s m below meth c ls hx hb hr hml hown hlk hT hP hK hl
  have hl : lv_has ls 2 [(0, .ref (ad 13)), (1, .ref (ad (22 + 4 * j)))] := hl
  refine lv_aload_n hx hb dX3_yearsRun_0 rfl (lv_at hl 0 rfl) ?_
  refine gf_X3_110 hx hb hT hown hK (hP.at (hI.1 13 (by decide)) rfl) rfl dX3_yearsRun_1 ?_
  refine lv_aload_n hx hb dX3_yearsRun_4 rfl (lv_at hl 1 rfl) ?_
  refine gf_X3_192 hx hb hT hown hK (hP.at (hI.2.2 j hj).1 gS_2) rfl dX3_yearsRun_5 ?_
  refine gf_X3_196 hx hb hT hown hK (hP.at (hI.2.1 (G j) hG).1 gS_0) rfl dX3_yearsRun_8 ?_
  refine lv_isub hx hb dX3_yearsRun_11 ?_
  exact zR_i hx hb hr hlk dX3_yearsRun_12 (rfl)
set_option maxHeartbeats 4000000 in
set_option maxRecDepth 100000 in
theorem c_X3_smooth (l : Launch) (hI : zIn Rs np ng) (r : Int64) (la : Int64) : zMR l yX3_smooth cX3_smooth 7 ((some .long)) 2 (48) D ks [.ref (ad 13), .long r, .long la] (zP D Rs ad (gS ks ad np ng G MI MJ XI XJ)) (some (.long (fSmooth r la (XI 10 6)))) := by
  refine zMR.of (by decide +kernel) (Nat.le_of_ble_eq_true rfl) ?_
  intro p e s m below meth c ls hx hb hr hml hown hlk hT hP hK hl
  have hl : lv_has ls 7 [(0, .ref (ad 13)), (1, .long r), (3, .long la)] := hl
  refine lv_lload_n hx hb dX3_smooth_0 rfl (lv_at hl 2 rfl) ?_
  refine lv_ldc2 (v := (-1)) hx hb hown (hT _ kl_X3_28) dX3_smooth_1 ?_
  refine z_lcmp_ne (tgt := 10) hx hb dX3_smooth_4 dX3_smooth_5 (by decide) (fun c_1 => ?_) (fun c_1 => ?_)
  · refine lv_lload_n hx hb dX3_smooth_10 rfl (lv_at hl 2 rfl) ?_
    refine lv_aload_n hx hb dX3_smooth_11 rfl (lv_at hl 0 rfl) ?_
    refine gf_X3_40 hx hb hT hown hK (hP.at (hI.1 13 (by decide)) rfl) rfl dX3_smooth_12 ?_
    refine lv_i2l hx hb dX3_smooth_15 rfl ?_
    refine z_backR1 (z_runS ⟨hx, hb, hml, hown, hT⟩ (rest := []) (As := [.long la, .long (Int32.toInt64 (XI 10 6))]) (c_X3_thousandths l D ks la (Int32.toInt64 (XI 10 6)) ) k_X3_115 (z_preR hK trivial) rfl ⟨Nat.le_of_ble_eq_true rfl, Nat.le_of_ble_eq_true rfl⟩ hl.1 rfl (Nat.le_of_ble_eq_true rfl) dX3_smooth_16 ⟨Nat.le_of_ble_eq_true rfl, Nat.le_of_ble_eq_true rfl⟩) ?_
    refine lv_lstore (lv' := [(5, .long (fThou la (Int32.toInt64 (XI 10 6)))), (0, .ref (ad 13)), (1, .long r), (3, .long la)]) hx hb dX3_smooth_19 hl (by decide) rfl (fun ls hl => ?_)
    refine lv_lload_n hx hb dX3_smooth_21 rfl (lv_at hl 2 rfl) ?_
    refine lv_lload_n hx hb dX3_smooth_22 rfl (lv_at hl 3 rfl) ?_
    refine lv_lload hx hb dX3_smooth_23 (lv_at hl 0 rfl) ?_
    refine lv_lsub hx hb dX3_smooth_25 ?_
    refine va_mmax_long hx hb (hml.trans hl.1.symm) hown (hT _ ml_X3_176) (hT _ sm_yJ9_max_f86c9) (hT _ in_J9) (hT _ co_yJ9_max_f86c9) (Nat.le_of_ble_eq_true rfl) (Nat.le_of_ble_eq_true rfl) (Nat.le_of_ble_eq_true rfl) (Nat.le_of_ble_eq_true rfl) dX3_smooth_26 ?_
    refine lv_lload_n hx hb dX3_smooth_29 rfl (lv_at hl 3 rfl) ?_
    refine lv_lload hx hb dX3_smooth_30 (lv_at hl 0 rfl) ?_
    refine lv_ladd hx hb dX3_smooth_32 ?_
    refine va_mmin_long hx hb (hml.trans hl.1.symm) hown (hT _ ml_X3_232) (hT _ sm_yJ9_min_f86c9) (hT _ in_J9) (hT _ co_yJ9_min_f86c9) (Nat.le_of_ble_eq_true rfl) (Nat.le_of_ble_eq_true rfl) (Nat.le_of_ble_eq_true rfl) (Nat.le_of_ble_eq_true rfl) dX3_smooth_33 ?_
    exact zR_l hx hb hr hlk dX3_smooth_36 ((if_neg c_1).symm)
  · refine lv_lload_n hx hb dX3_smooth_8 rfl (lv_at hl 1 rfl) ?_
    exact zR_l hx hb hr hlk dX3_smooth_9 ((if_pos c_1).symm)
set_option maxHeartbeats 4000000 in
set_option maxRecDepth 100000 in
theorem c_X3_surrenderWorth (l : Launch) (hI : zIn Rs np ng) (j : Nat) (hj : j < np) (hG : G j < ng) : zMR l yX3_surrenderWorth cX3_surrenderWorth 9 ((some .long)) 3 (64) D ks [.ref (ad 13), .ref (ad (22 + 4 * j))] (zP D Rs ad (gS ks ad np ng G MI MJ XI XJ)) (some (.long (fWorth (XI 10 2 - XI 11 (G j)) (XI 12 (G j)) (fAsset (XI 15 j) (XJ 8 (G j)) (XI 13 j) (XJ 7 (G j))) (XI 13 j) (XI 10 7)))) := by
  refine zMR.of (by decide +kernel) (Nat.le_of_ble_eq_true rfl) ?_
  intro p e s m below meth c ls hx hb hr hml hown hlk hT hP hK hl
  have hl : lv_has ls 9 [(0, .ref (ad 13)), (1, .ref (ad (22 + 4 * j)))] := hl
  refine lv_aload_n hx hb dX3_surrenderWorth_0 rfl (lv_at hl 0 rfl) ?_
  refine lv_aload_n hx hb dX3_surrenderWorth_1 rfl (lv_at hl 1 rfl) ?_
  refine z_backR1 (z_runV ⟨hx, hb, hml, hown, hT⟩ (rest := []) (As := [.ref (ad (22 + 4 * j))]) (c_X3_yearsRun (MI := MI) (MJ := MJ) (XI := XI) (XJ := XJ) l hI j (hj) (hG)) k_X3_186 (z_preRV hK hP (hP.at (hI.1 13 (by decide)) rfl) rfl) rfl ⟨Nat.le_of_ble_eq_true rfl, Nat.le_of_ble_eq_true rfl⟩ hl.1 rfl (Nat.le_of_ble_eq_true rfl) dX3_surrenderWorth_2 ⟨Nat.le_of_ble_eq_true rfl, Nat.le_of_ble_eq_true rfl⟩) ?_
  refine lv_istore_n (lv' := [(2, .int (XI 10 2 - XI 11 (G j))), (0, .ref (ad 13)), (1, .ref (ad (22 + 4 * j)))]) hx hb dX3_surrenderWorth_5 rfl hl (by decide) rfl (fun ls hl => ?_)
  refine lv_ldc2 (v := 600) hx hb hown (hT _ kl_X3_235) dX3_surrenderWorth_6 ?_
  refine lv_ldc2 (v := 400) hx hb hown (hT _ kl_X3_237) dX3_surrenderWorth_9 ?_
  refine lv_iload_n hx hb dX3_surrenderWorth_12 rfl (lv_at hl 0 rfl) ?_
  refine lv_i2l hx hb dX3_surrenderWorth_13 rfl ?_
  refine lv_lmul hx hb dX3_surrenderWorth_14 ?_
  refine lv_aload_n hx hb dX3_surrenderWorth_15 rfl (lv_at hl 2 rfl) ?_
  refine gf_X3_192 hx hb hT hown hK (hP.at (hI.2.2 j hj).1 gS_2) rfl dX3_surrenderWorth_16 ?_
  refine gf_X3_199 hx hb hT hown hK (hP.at (hI.2.1 (G j) hG).1 gS_0) rfl dX3_surrenderWorth_19 ?_
  refine lv_i2l hx hb dX3_surrenderWorth_22 rfl ?_
  refine z_backR1 (z_runS ⟨hx, hb, hml, hown, hT⟩ (rest := [.long 600]) (As := [.long (400 * (Int32.toInt64 (XI 10 2 - XI 11 (G j)))), .long (Int32.toInt64 (XI 12 (G j)))]) (c_X3_parted l D ks (400 * (Int32.toInt64 (XI 10 2 - XI 11 (G j)))) (Int32.toInt64 (XI 12 (G j))) ) k_X3_226 (z_preR hK trivial) rfl ⟨Nat.le_of_ble_eq_true rfl, Nat.le_of_ble_eq_true rfl⟩ hl.1 rfl (Nat.le_of_ble_eq_true rfl) dX3_surrenderWorth_23 ⟨Nat.le_of_ble_eq_true rfl, Nat.le_of_ble_eq_true rfl⟩) ?_
  refine lv_ladd hx hb dX3_surrenderWorth_26 ?_
  refine lv_topl (fun v1 ev1 => ?_)
  refine lv_lstore_n (lv' := [(3, .long v1), (2, .int (XI 10 2 - XI 11 (G j))), (0, .ref (ad 13)), (1, .ref (ad (22 + 4 * j)))]) hx hb dX3_surrenderWorth_27 rfl hl (by decide) rfl (fun ls hl => ?_)
  refine lv_aload_n hx hb dX3_surrenderWorth_28 rfl (lv_at hl 3 rfl) ?_
  refine z_backR1 (z_runVN ⟨hx, hb, hml, hown, hT⟩ hK (rest := []) (As := []) (c_X2_assetShare (MI := MI) (MJ := MJ) (XI := XI) (XJ := XJ) l hI j (hj) (hG)) k_X3_139 (z_preRV hK hP (hP.at (hI.2.2 j hj).1 gS_2) rfl) rfl ⟨Nat.le_of_ble_eq_true rfl, Nat.le_of_ble_eq_true rfl⟩ hl.1 rfl (Nat.le_of_ble_eq_true rfl) dX3_surrenderWorth_29 ⟨Nat.le_of_ble_eq_true rfl, Nat.le_of_ble_eq_true rfl⟩) ?_
  refine lv_lload_n hx hb dX3_surrenderWorth_32 rfl (lv_at hl 0 rfl) ?_
  refine z_backR1 (z_runS ⟨hx, hb, hml, hown, hT⟩ (rest := []) (As := [.long (fAsset (XI 15 j) (XJ 8 (G j)) (XI 13 j) (XJ 7 (G j))), .long v1]) (c_X3_thousandths l D ks (fAsset (XI 15 j) (XJ 8 (G j)) (XI 13 j) (XJ 7 (G j))) v1 ) k_X3_115 (z_preR hK trivial) rfl ⟨Nat.le_of_ble_eq_true rfl, Nat.le_of_ble_eq_true rfl⟩ hl.1 rfl (Nat.le_of_ble_eq_true rfl) dX3_surrenderWorth_33 ⟨Nat.le_of_ble_eq_true rfl, Nat.le_of_ble_eq_true rfl⟩) ?_
  refine lv_topl (fun v2 ev2 => ?_)
  refine lv_lstore (lv' := [(5, .long v2), (3, .long v1), (2, .int (XI 10 2 - XI 11 (G j))), (0, .ref (ad 13)), (1, .ref (ad (22 + 4 * j)))]) hx hb dX3_surrenderWorth_36 hl (by decide) rfl (fun ls hl => ?_)
  refine lv_iload_n hx hb dX3_surrenderWorth_38 rfl (lv_at hl 2 rfl) ?_
  refine lv_i2l hx hb dX3_surrenderWorth_39 rfl ?_
  refine lv_aload_n hx hb dX3_surrenderWorth_40 rfl (lv_at hl 4 rfl) ?_
  refine gf_X3_218 hx hb hT hown hK (hP.at (hI.2.2 j hj).1 gS_2) rfl dX3_surrenderWorth_41 ?_
  refine lv_i2l hx hb dX3_surrenderWorth_44 rfl ?_
  refine lv_lmul hx hb dX3_surrenderWorth_45 ?_
  refine lv_aload_n hx hb dX3_surrenderWorth_46 rfl (lv_at hl 3 rfl) ?_
  refine gf_X3_43 hx hb hT hown hK (hP.at (hI.1 13 (by decide)) rfl) rfl dX3_surrenderWorth_47 ?_
  refine lv_i2l hx hb dX3_surrenderWorth_50 rfl ?_
  refine z_backR1 (z_runS ⟨hx, hb, hml, hown, hT⟩ (rest := []) (As := [.long ((Int32.toInt64 (XI 10 2 - XI 11 (G j))) * (Int32.toInt64 (XI 13 j))), .long (Int32.toInt64 (XI 10 7))]) (c_X3_thousandths l D ks ((Int32.toInt64 (XI 10 2 - XI 11 (G j))) * (Int32.toInt64 (XI 13 j))) (Int32.toInt64 (XI 10 7)) ) k_X3_115 (z_preR hK trivial) rfl ⟨Nat.le_of_ble_eq_true rfl, Nat.le_of_ble_eq_true rfl⟩ hl.1 rfl (Nat.le_of_ble_eq_true rfl) dX3_surrenderWorth_51 ⟨Nat.le_of_ble_eq_true rfl, Nat.le_of_ble_eq_true rfl⟩) ?_
  refine lv_topl (fun v3 ev3 => ?_)
  refine lv_lstore (lv' := [(7, .long v3), (5, .long v2), (3, .long v1), (2, .int (XI 10 2 - XI 11 (G j))), (0, .ref (ad 13)), (1, .ref (ad (22 + 4 * j)))]) hx hb dX3_surrenderWorth_54 hl (by decide) rfl (fun ls hl => ?_)
  refine lv_lconst (v := 0) hx hb dX3_surrenderWorth_56 (by decide) ?_
  refine lv_lload hx hb dX3_surrenderWorth_57 (lv_at hl 1 rfl) ?_
  refine lv_lload hx hb dX3_surrenderWorth_59 (lv_at hl 0 rfl) ?_
  refine va_mmax_long hx hb (hml.trans hl.1.symm) hown (hT _ ml_X3_176) (hT _ sm_yJ9_max_f86c9) (hT _ in_J9) (hT _ co_yJ9_max_f86c9) (Nat.le_of_ble_eq_true rfl) (Nat.le_of_ble_eq_true rfl) (Nat.le_of_ble_eq_true rfl) (Nat.le_of_ble_eq_true rfl) dX3_surrenderWorth_61 ?_
  refine va_mmax_long hx hb (hml.trans hl.1.symm) hown (hT _ ml_X3_176) (hT _ sm_yJ9_max_f86c9) (hT _ in_J9) (hT _ co_yJ9_max_f86c9) (Nat.le_of_ble_eq_true rfl) (Nat.le_of_ble_eq_true rfl) (Nat.le_of_ble_eq_true rfl) (Nat.le_of_ble_eq_true rfl) dX3_surrenderWorth_64 ?_
  exact zR_l hx hb hr hlk dX3_surrenderWorth_67 (by rw [ev3, ev2, ev1]; rfl)
end ZX1
end
section
/-! the reference: what is read; the office: searching -/
section ZM1
variable {D : va_G} {ks : Nat → ClassId} {ad : Nat → Nat} {np ng : Nat} {G : Nat → Nat} {MI : Nat → Nat → Int32} {MJ : Nat → Nat → Int64} {XI : Nat → Nat → Int32} {XJ : Nat → Nat → Int64} {Rs : List Nat}
def mF (b t : Nat → Int32) (y te : Int32) : Nat → Int32 → Int32
  | 0, f => f
  | k + 1, f => mF b t y te k (if b k = y ∧ t k = te then nI k else f)
def hF (b t : Nat → Int32) (y te : Int32) : Nat → Nat → Nat
  | 0, f => f
  | k + 1, f => hF b t y te k (if b k = y ∧ t k = te then k else f)
def mP (b t st pr : Nat → Int32) (y te : Int32) : Nat → Int64
  | 0 => 0
  | k + 1 => mP b t st pr y te k + (if b k = y ∧ t k = te ∧ st k = 0 then Int32.toInt64 (pr k) else 0)
def hm (MI : Nat → Nat → Int32) (np j : Nat) : Nat := hF (MI 1) (MI 2) (MI 1 j) (MI 2 j) np 0
def mPr (MI : Nat → Nat → Int32) (np j : Nat) : Int64 := mP (MI 1) (MI 2) (MI 5) (MI 3) (MI 1 j) (MI 2 j) np
theorem mF_nI {b t : Nat → Int32} {y te : Int32} : ∀ (n d : Nat), mF b t y te n (nI d) = nI (hF b t y te n d) := by
  intro n
  induction n with
  | zero => intro d; rfl
  | succ n ih =>
    intro d
    simp only [mF, hF]
    split
    · exact ih n
    · exact ih d
theorem mF_hF {b t : Nat → Int32} {y te : Int32} : ∀ (n : Nat) (f : Int32) (d j : Nat), j < n → b j = y → t j = te → mF b t y te n f = nI (hF b t y te n d) ∧ hF b t y te n d ≤ j := by
  intro n
  induction n with
  | zero => intro f d j h; exact absurd h (Nat.not_lt_zero _)
  | succ n ih =>
    intro f d j h hb ht
    simp only [mF, hF]
    by_cases hj : j < n
    · split
      · exact ih (nI n) n j hj hb ht
      · exact ih f d j hj hb ht
    · have e : j = n := by omega
      subst e
      rw [if_pos ⟨hb, ht⟩, if_pos ⟨hb, ht⟩]
      refine ⟨mF_nI j j, ?_⟩
      have key : ∀ (m d : Nat), m ≤ d → hF b t y te m d ≤ d := by
        intro m
        induction m with
        | zero => intro d _; exact Nat.le_refl _
        | succ m ihm =>
          intro d hd
          simp only [hF]
          split
          · exact Nat.le_trans (ihm m (Nat.le_refl _)) (by omega)
          · exact ihm d (by omega)
      exact key j j (Nat.le_refl _)
theorem hm_eq {MI : Nat → Nat → Int32} {np j : Nat} (hj : j < np) (f : Int32) : mF (MI 1) (MI 2) (MI 1 j) (MI 2 j) np f = nI (hm MI np j) := (mF_hF np f 0 j hj rfl rfl).1
theorem hm_le {MI : Nat → Nat → Int32} {np j : Nat} (hj : j < np) : hm MI np j ≤ j := (mF_hF (b := MI 1) (t := MI 2) np 0 0 j hj rfl rfl).2
def mShare (MI : Nat → Nat → Int32) (MJ : Nat → Nat → Int64) (np j : Nat) : Int64 := if MI 5 j = 0 then MJ 2 (hm MI np j) * Int32.toInt64 (MI 3 j) / mPr MI np j else 0
def fMore (x y : Int64) : Int64 := if y < x then x else y
def mWorth (MI : Nat → Nat → Int32) (MJ : Nat → Nat → Int64) (np j : Nat) : Int64 := fMore (fPart (mShare MI MJ np j) (600 + 400 * Int32.toInt64 (MI 0 0 - MI 1 j) / Int32.toInt64 (MI 2 j))) (fPart (Int32.toInt64 (MI 0 0 - MI 1 j) * Int32.toInt64 (MI 3 j)) (Int32.toInt64 (MI 0 5)))
/-- the first of the generations from k on that is of the year and the term -/
def xF (b t : Nat → Int32) (y te : Int32) : Nat → Nat → Option Nat
  | 0, _ => none
  | n + 1, k => if b k = y ∧ t k = te then some k else xF b t y te n (k + 1)
set_option maxHeartbeats 4000000 in
set_option maxRecDepth 100000 in
theorem c_X4_firstOf (l : Launch) (hI : zIn Rs np ng) (y : Int32) (te : Int32) (hnp : MI 0 6 = nI np) (hN : np ≤ 30) : zMR l yX4_firstOf cX4_firstOf 5 ((some .int)) 0 (0) D ks [.ref (ad 0), .int y, .int te] (zP D Rs ad (gS ks ad np ng G MI MJ XI XJ)) (some (.int (mF (MI 1) (MI 2) y te np (-1)))) := by
  refine zMR.of (by decide +kernel) (Nat.le_of_ble_eq_true rfl) ?_
  intro p e s m below meth c ls hx hb hr hml hown hlk hT hP hK hl
  have hl : lv_has ls 5 [(0, .ref (ad 0)), (1, .int y), (2, .int te)] := hl
  have L : ∀ (k : Nat) (f : Int32) (ls : Array Slot), k ≤ np → mF (MI 1) (MI 2) y te k f = mF (MI 1) (MI 2) y te np (-1) → lv_has ls 5 [(4, .int (nI k - 1)), (3, .int f), (0, .ref (ad 0)), (1, .int y), (2, .int te)] → W p l e (zRm 0 (0) 0 0) s m ([.ref (ad 0), .int y, .int te] : List Value).toArray below meth c s.heap [] 0 0 (MQ below (zQR (some (.int (mF (MI 1) (MI 2) y te np (-1))))) ([.ref (ad 0), .int y, .int te] : List Value).toArray s 0 0 (fun _ => False)) (F0 m 10 ls []) := by
    intro k
    induction k with
    | zero =>
      intro f ls _ hv hl
      refine lv_iload hx hb dX4_firstOf_10 (lv_at hl 0 rfl) ?_
      refine lv_if_lt (tgt := 50) hx hb dX4_firstOf_12 (by decide) (fun c_1 => ?_) (fun c_1 => ?_)
      · refine lv_iload_n hx hb dX4_firstOf_50 rfl (lv_at hl 1 rfl) ?_
        exact zR_i hx hb hr hlk dX4_firstOf_51 (hv)
      · exact absurd (by decide) c_1
    | succ k ih =>
      intro f ls hk hv hl
      have e1 : nI (k + 1) - 1 = nI k := nI_pred k
      rw [e1] at hl
      refine lv_iload hx hb dX4_firstOf_10 (lv_at hl 0 rfl) ?_
      refine lv_if_lt (tgt := 50) hx hb dX4_firstOf_12 (by decide) (fun c_2 => ?_) (fun c_2 => ?_)
      · exact absurd c_2 (nI_pos (by omega))
      · refine lv_aload_n hx hb dX4_firstOf_15 rfl (lv_at hl 2 rfl) ?_
        refine gf_X4_25 hx hb hT hown hK (hP.at (hI.1 0 (by decide)) rfl) rfl dX4_firstOf_16 ?_
        refine lv_iload hx hb dX4_firstOf_19 (lv_at hl 0 rfl) ?_
        refine z_ialdN hx hb hK (hP.at (hI.1 1 (by decide)) rfl) (by omega) (by decide) (v := MI 1 k) (rfl) dX4_firstOf_21 ?_
        refine lv_iload_n hx hb dX4_firstOf_22 rfl (lv_at hl 3 rfl) ?_
        refine lv_icmp_ne (tgt := 42) hx hb dX4_firstOf_23 (by decide) (fun c_3 => ?_) (fun c_3 => ?_)
        · refine lv_iload_n hx hb dX4_firstOf_42 rfl (lv_at hl 1 rfl) ?_
          refine lv_istore_n (lv' := [(3, .int f), (4, .int (nI k)), (0, .ref (ad 0)), (1, .int y), (2, .int te)]) hx hb dX4_firstOf_43 rfl hl (by decide) rfl (fun ls hl => ?_)
          refine lv_iinc (v := (nI k) - 1) (lv' := [(4, .int ((nI k) - 1)), (3, .int f), (0, .ref (ad 0)), (1, .int y), (2, .int te)]) hx hb dX4_firstOf_44 hl (k := 1) rfl (zi_m1 (nI k)) (by decide) rfl (fun ls hl => ?_)
          refine lv_goto (tgt := 10) hx hb dX4_firstOf_47 (by decide) ?_
          exact ih f _ (by omega) (by rw [← hv]; simp only [mF]; rw [if_neg (fun h => c_3 h.1)]) (lv_sub hl [0, 1, 2, 3, 4] rfl)
        · refine lv_aload_n hx hb dX4_firstOf_26 rfl (lv_at hl 2 rfl) ?_
          refine gf_X4_29 hx hb hT hown hK (hP.at (hI.1 0 (by decide)) rfl) rfl dX4_firstOf_27 ?_
          refine lv_iload hx hb dX4_firstOf_30 (lv_at hl 0 rfl) ?_
          refine z_ialdN hx hb hK (hP.at (hI.1 2 (by decide)) rfl) (by omega) (by decide) (v := MI 2 k) (rfl) dX4_firstOf_32 ?_
          refine lv_iload_n hx hb dX4_firstOf_33 rfl (lv_at hl 4 rfl) ?_
          refine lv_icmp_ne (tgt := 42) hx hb dX4_firstOf_34 (by decide) (fun c_4 => ?_) (fun c_4 => ?_)
          · refine lv_iload_n hx hb dX4_firstOf_42 rfl (lv_at hl 1 rfl) ?_
            refine lv_istore_n (lv' := [(3, .int f), (4, .int (nI k)), (0, .ref (ad 0)), (1, .int y), (2, .int te)]) hx hb dX4_firstOf_43 rfl hl (by decide) rfl (fun ls hl => ?_)
            refine lv_iinc (v := (nI k) - 1) (lv' := [(4, .int ((nI k) - 1)), (3, .int f), (0, .ref (ad 0)), (1, .int y), (2, .int te)]) hx hb dX4_firstOf_44 hl (k := 1) rfl (zi_m1 (nI k)) (by decide) rfl (fun ls hl => ?_)
            refine lv_goto (tgt := 10) hx hb dX4_firstOf_47 (by decide) ?_
            exact ih f _ (by omega) (by rw [← hv]; simp only [mF]; rw [if_neg (fun h => c_4 h.2)]) (lv_sub hl [0, 1, 2, 3, 4] rfl)
          · refine lv_iload hx hb dX4_firstOf_37 (lv_at hl 0 rfl) ?_
            refine lv_goto (tgt := 43) hx hb dX4_firstOf_39 (by decide) ?_
            refine lv_istore_n (lv' := [(3, .int (nI k)), (4, .int (nI k)), (0, .ref (ad 0)), (1, .int y), (2, .int te)]) hx hb dX4_firstOf_43 rfl hl (by decide) rfl (fun ls hl => ?_)
            refine lv_iinc (v := (nI k) - 1) (lv' := [(4, .int ((nI k) - 1)), (3, .int (nI k)), (0, .ref (ad 0)), (1, .int y), (2, .int te)]) hx hb dX4_firstOf_44 hl (k := 1) rfl (zi_m1 (nI k)) (by decide) rfl (fun ls hl => ?_)
            refine lv_goto (tgt := 10) hx hb dX4_firstOf_47 (by decide) ?_
            exact ih (nI k) _ (by omega) (by rw [← hv]; simp only [mF]; rw [if_pos ⟨c_3, c_4⟩]) (lv_sub hl [0, 1, 2, 3, 4] rfl)
  refine lv_iconst (v := (-1)) hx hb dX4_firstOf_0 (by decide) ?_
  refine lv_istore_n (lv' := [(3, .int (-1)), (0, .ref (ad 0)), (1, .int y), (2, .int te)]) hx hb dX4_firstOf_1 rfl hl (by decide) rfl (fun ls hl => ?_)
  refine lv_aload_n hx hb dX4_firstOf_2 rfl (lv_at hl 1 rfl) ?_
  refine gf_X4_63 hx hb hT hown hK (hP.at (hI.1 0 (by decide)) rfl) rfl dX4_firstOf_3 ?_
  refine lv_iconst (v := 1) hx hb dX4_firstOf_6 (by decide) ?_
  refine lv_isub hx hb dX4_firstOf_7 ?_
  refine lv_istore (lv' := [(4, .int ((MI 0 6) - 1)), (3, .int (-1)), (0, .ref (ad 0)), (1, .int y), (2, .int te)]) hx hb dX4_firstOf_8 hl (by decide) rfl (fun ls hl => ?_)
  rw [hnp] at hl
  exact L np (-1) _ (Nat.le_refl _) rfl (lv_sub hl [0, 1, 2, 3, 4] rfl)
set_option maxHeartbeats 4000000 in
set_option maxRecDepth 100000 in
theorem c_X4_home (l : Launch) (hI : zIn Rs np ng) (j : Nat) (hj : j < np) (hnp : MI 0 6 = nI np) (hN : np ≤ 30) : zMR l yX4_home cX4_home 2 ((some .int)) 1 (24) D ks [.ref (ad 0), .int (nI j)] (zP D Rs ad (gS ks ad np ng G MI MJ XI XJ)) (some (.int (nI (hm MI np j)))) := by
  refine zMR.of (by decide +kernel) (Nat.le_of_ble_eq_true rfl) ?_
  intro p e s m below meth c ls hx hb hr hml hown hlk hT hP hK hl
  have hl : lv_has ls 2 [(0, .ref (ad 0)), (1, .int (nI j))] := hl
  refine lv_aload_n hx hb dX4_home_0 rfl (lv_at hl 0 rfl) ?_
  refine lv_aload_n hx hb dX4_home_1 rfl (lv_at hl 0 rfl) ?_
  refine gf_X4_25 hx hb hT hown hK (hP.at (hI.1 0 (by decide)) rfl) rfl dX4_home_2 ?_
  refine lv_iload_n hx hb dX4_home_5 rfl (lv_at hl 1 rfl) ?_
  refine z_ialdN hx hb hK (hP.at (hI.1 1 (by decide)) rfl) (Nat.lt_of_lt_of_le hj hN) (by decide) (v := MI 1 j) (rfl) dX4_home_6 ?_
  refine lv_aload_n hx hb dX4_home_7 rfl (lv_at hl 0 rfl) ?_
  refine gf_X4_29 hx hb hT hown hK (hP.at (hI.1 0 (by decide)) rfl) rfl dX4_home_8 ?_
  refine lv_iload_n hx hb dX4_home_11 rfl (lv_at hl 1 rfl) ?_
  refine z_ialdN hx hb hK (hP.at (hI.1 2 (by decide)) rfl) (Nat.lt_of_lt_of_le hj hN) (by decide) (v := MI 2 j) (rfl) dX4_home_12 ?_
  refine z_backR1 (z_runV ⟨hx, hb, hml, hown, hT⟩ (rest := []) (As := [.int (MI 1 j), .int (MI 2 j)]) (c_X4_firstOf (MI := MI) (MJ := MJ) (XI := XI) (XJ := XJ) l hI (MI 1 j) (MI 2 j) (hnp) (hN)) k_X4_72 (z_preRV hK hP (hP.at (hI.1 0 (by decide)) rfl) rfl) rfl ⟨Nat.le_of_ble_eq_true rfl, Nat.le_of_ble_eq_true rfl⟩ hl.1 rfl (Nat.le_of_ble_eq_true rfl) dX4_home_13 ⟨Nat.le_of_ble_eq_true rfl, Nat.le_of_ble_eq_true rfl⟩) ?_
  exact zR_i hx hb hr hlk dX4_home_16 (hm_eq hj _)
set_option maxHeartbeats 4000000 in
set_option maxRecDepth 100000 in
theorem c_X4_premiumsOf (l : Launch) (hI : zIn Rs np ng) (y : Int32) (te : Int32) (hnp : MI 0 6 = nI np) (hN : np ≤ 30) : zMR l yX4_premiumsOf cX4_premiumsOf 6 ((some .long)) 0 (0) D ks [.ref (ad 0), .int y, .int te] (zP D Rs ad (gS ks ad np ng G MI MJ XI XJ)) (some (.long (mP (MI 1) (MI 2) (MI 5) (MI 3) y te np))) := by
  refine zMR.of (by decide +kernel) (Nat.le_of_ble_eq_true rfl) ?_
  intro p e s m below meth c ls hx hb hr hml hown hlk hT hP hK hl
  have hl : lv_has ls 6 [(0, .ref (ad 0)), (1, .int y), (2, .int te)] := hl
  have L : ∀ (n k : Nat) (f : Int64) (ls : Array Slot), k + n = np → f = mP (MI 1) (MI 2) (MI 5) (MI 3) y te k → lv_has ls 6 [(5, .int (nI k)), (3, .long f), (0, .ref (ad 0)), (1, .int y), (2, .int te)] → W p l e (zRm 0 (0) 0 0) s m ([.ref (ad 0), .int y, .int te] : List Value).toArray below meth c s.heap [] 0 0 (MQ below (zQR (some (.long (mP (MI 1) (MI 2) (MI 5) (MI 3) y te np)))) ([.ref (ad 0), .int y, .int te] : List Value).toArray s 0 0 (fun _ => False)) (F0 m 5 ls []) := by
    intro n
    induction n with
    | zero =>
      intro k f ls hkn hv hl
      refine lv_iload hx hb dX4_premiumsOf_5 (lv_at hl 0 rfl) ?_
      refine lv_aload_n hx hb dX4_premiumsOf_7 rfl (lv_at hl 2 rfl) ?_
      refine gf_X4_63 hx hb hT hown hK (hP.at (hI.1 0 (by decide)) rfl) rfl dX4_premiumsOf_8 ?_
      rw [hnp]
      refine lv_icmp_ge (tgt := 67) hx hb dX4_premiumsOf_11 (by decide) (fun c_1 => ?_) (fun c_1 => ?_)
      · refine lv_lload_n hx hb dX4_premiumsOf_67 rfl (lv_at hl 1 rfl) ?_
        exact zR_l hx hb hr hlk dX4_premiumsOf_68 (by rw [hv, show k = np by omega])
      · exact absurd (nI_le (by omega) (by omega)) c_1
    | succ n ih =>
      intro k f ls hkn hv hl
      have hk : k < np := by omega
      refine lv_iload hx hb dX4_premiumsOf_5 (lv_at hl 0 rfl) ?_
      refine lv_aload_n hx hb dX4_premiumsOf_7 rfl (lv_at hl 2 rfl) ?_
      refine gf_X4_63 hx hb hT hown hK (hP.at (hI.1 0 (by decide)) rfl) rfl dX4_premiumsOf_8 ?_
      rw [hnp]
      refine lv_icmp_ge (tgt := 67) hx hb dX4_premiumsOf_11 (by decide) (fun c_2 => ?_) (fun c_2 => ?_)
      · exact absurd c_2 (nI_ge hk (by omega))
      · refine lv_lload_n hx hb dX4_premiumsOf_14 rfl (lv_at hl 1 rfl) ?_
        refine lv_aload_n hx hb dX4_premiumsOf_15 rfl (lv_at hl 2 rfl) ?_
        refine gf_X4_25 hx hb hT hown hK (hP.at (hI.1 0 (by decide)) rfl) rfl dX4_premiumsOf_16 ?_
        refine lv_iload hx hb dX4_premiumsOf_19 (lv_at hl 0 rfl) ?_
        refine z_ialdN hx hb hK (hP.at (hI.1 1 (by decide)) rfl) (Nat.lt_of_lt_of_le hk hN) (by decide) (v := MI 1 k) (rfl) dX4_premiumsOf_21 ?_
        refine lv_iload_n hx hb dX4_premiumsOf_22 rfl (lv_at hl 3 rfl) ?_
        refine lv_icmp_ne (tgt := 58) hx hb dX4_premiumsOf_23 (by decide) (fun c_3 => ?_) (fun c_3 => ?_)
        · refine lv_lconst (v := 0) hx hb dX4_premiumsOf_58 (by decide) ?_
          refine lv_ladd hx hb dX4_premiumsOf_59 ?_
          refine lv_lstore_n (lv' := [(3, .long (f + 0)), (5, .int (nI k)), (0, .ref (ad 0)), (1, .int y), (2, .int te)]) hx hb dX4_premiumsOf_60 rfl hl (by decide) rfl (fun ls hl => ?_)
          refine lv_iinc (v := nI (k + 1)) (lv' := [(5, .int (nI (k + 1))), (3, .long (f + 0)), (0, .ref (ad 0)), (1, .int y), (2, .int te)]) hx hb dX4_premiumsOf_61 hl (k := 1) rfl (nI_1 k) (by decide) rfl (fun ls hl => ?_)
          refine lv_goto (tgt := 5) hx hb dX4_premiumsOf_64 (by decide) ?_
          exact ih (k + 1) (f + 0) _ (by omega) (by simp only [mP]; rw [if_neg (fun h => c_3 h.1), hv]) (lv_sub hl [0, 1, 2, 3, 4] rfl)
        · refine lv_aload_n hx hb dX4_premiumsOf_26 rfl (lv_at hl 2 rfl) ?_
          refine gf_X4_29 hx hb hT hown hK (hP.at (hI.1 0 (by decide)) rfl) rfl dX4_premiumsOf_27 ?_
          refine lv_iload hx hb dX4_premiumsOf_30 (lv_at hl 0 rfl) ?_
          refine z_ialdN hx hb hK (hP.at (hI.1 2 (by decide)) rfl) (Nat.lt_of_lt_of_le hk hN) (by decide) (v := MI 2 k) (rfl) dX4_premiumsOf_32 ?_
          refine lv_iload_n hx hb dX4_premiumsOf_33 rfl (lv_at hl 4 rfl) ?_
          refine lv_icmp_ne (tgt := 58) hx hb dX4_premiumsOf_34 (by decide) (fun c_4 => ?_) (fun c_4 => ?_)
          · refine lv_lconst (v := 0) hx hb dX4_premiumsOf_58 (by decide) ?_
            refine lv_ladd hx hb dX4_premiumsOf_59 ?_
            refine lv_lstore_n (lv' := [(3, .long (f + 0)), (5, .int (nI k)), (0, .ref (ad 0)), (1, .int y), (2, .int te)]) hx hb dX4_premiumsOf_60 rfl hl (by decide) rfl (fun ls hl => ?_)
            refine lv_iinc (v := nI (k + 1)) (lv' := [(5, .int (nI (k + 1))), (3, .long (f + 0)), (0, .ref (ad 0)), (1, .int y), (2, .int te)]) hx hb dX4_premiumsOf_61 hl (k := 1) rfl (nI_1 k) (by decide) rfl (fun ls hl => ?_)
            refine lv_goto (tgt := 5) hx hb dX4_premiumsOf_64 (by decide) ?_
            exact ih (k + 1) (f + 0) _ (by omega) (by simp only [mP]; rw [if_neg (fun h => c_4 h.2.1), hv]) (lv_sub hl [0, 1, 2, 3, 4] rfl)
          · refine lv_aload_n hx hb dX4_premiumsOf_37 rfl (lv_at hl 2 rfl) ?_
            refine gf_X4_38 hx hb hT hown hK (hP.at (hI.1 0 (by decide)) rfl) rfl dX4_premiumsOf_38 ?_
            refine lv_iload hx hb dX4_premiumsOf_41 (lv_at hl 0 rfl) ?_
            refine z_ialdN hx hb hK (hP.at (hI.1 5 (by decide)) rfl) (Nat.lt_of_lt_of_le hk hN) (by decide) (v := MI 5 k) (rfl) dX4_premiumsOf_43 ?_
            refine lv_if_ne (tgt := 58) hx hb dX4_premiumsOf_44 (by decide) (fun c_5 => ?_) (fun c_5 => ?_)
            · refine lv_lconst (v := 0) hx hb dX4_premiumsOf_58 (by decide) ?_
              refine lv_ladd hx hb dX4_premiumsOf_59 ?_
              refine lv_lstore_n (lv' := [(3, .long (f + 0)), (5, .int (nI k)), (0, .ref (ad 0)), (1, .int y), (2, .int te)]) hx hb dX4_premiumsOf_60 rfl hl (by decide) rfl (fun ls hl => ?_)
              refine lv_iinc (v := nI (k + 1)) (lv' := [(5, .int (nI (k + 1))), (3, .long (f + 0)), (0, .ref (ad 0)), (1, .int y), (2, .int te)]) hx hb dX4_premiumsOf_61 hl (k := 1) rfl (nI_1 k) (by decide) rfl (fun ls hl => ?_)
              refine lv_goto (tgt := 5) hx hb dX4_premiumsOf_64 (by decide) ?_
              exact ih (k + 1) (f + 0) _ (by omega) (by simp only [mP]; rw [if_neg (fun h => c_5 h.2.2), hv]) (lv_sub hl [0, 1, 2, 3, 4] rfl)
            · refine lv_aload_n hx hb dX4_premiumsOf_47 rfl (lv_at hl 2 rfl) ?_
              refine gf_X4_32 hx hb hT hown hK (hP.at (hI.1 0 (by decide)) rfl) rfl dX4_premiumsOf_48 ?_
              refine lv_iload hx hb dX4_premiumsOf_51 (lv_at hl 0 rfl) ?_
              refine z_ialdN hx hb hK (hP.at (hI.1 3 (by decide)) rfl) (Nat.lt_of_lt_of_le hk hN) (by decide) (v := MI 3 k) (rfl) dX4_premiumsOf_53 ?_
              refine lv_i2l hx hb dX4_premiumsOf_54 rfl ?_
              refine lv_goto (tgt := 59) hx hb dX4_premiumsOf_55 (by decide) ?_
              refine lv_ladd hx hb dX4_premiumsOf_59 ?_
              refine lv_lstore_n (lv' := [(3, .long (f + (Int32.toInt64 (MI 3 k)))), (5, .int (nI k)), (0, .ref (ad 0)), (1, .int y), (2, .int te)]) hx hb dX4_premiumsOf_60 rfl hl (by decide) rfl (fun ls hl => ?_)
              refine lv_iinc (v := nI (k + 1)) (lv' := [(5, .int (nI (k + 1))), (3, .long (f + (Int32.toInt64 (MI 3 k)))), (0, .ref (ad 0)), (1, .int y), (2, .int te)]) hx hb dX4_premiumsOf_61 hl (k := 1) rfl (nI_1 k) (by decide) rfl (fun ls hl => ?_)
              refine lv_goto (tgt := 5) hx hb dX4_premiumsOf_64 (by decide) ?_
              exact ih (k + 1) (f + (Int32.toInt64 (MI 3 k))) _ (by omega) (by simp only [mP]; rw [if_pos ⟨c_3, c_4, c_5⟩, hv]) (lv_sub hl [0, 1, 2, 3, 4] rfl)
  refine lv_lconst (v := 0) hx hb dX4_premiumsOf_0 (by decide) ?_
  refine lv_lstore_n (lv' := [(3, .long 0), (0, .ref (ad 0)), (1, .int y), (2, .int te)]) hx hb dX4_premiumsOf_1 rfl hl (by decide) rfl (fun ls hl => ?_)
  refine lv_iconst (v := 0) hx hb dX4_premiumsOf_2 (by decide) ?_
  refine lv_istore (lv' := [(5, .int 0), (3, .long 0), (0, .ref (ad 0)), (1, .int y), (2, .int te)]) hx hb dX4_premiumsOf_3 hl (by decide) rfl (fun ls hl => ?_)
  have hl := (show lv_has ls 6 [(5, .int (nI 0)), (3, .long 0), (0, .ref (ad 0)), (1, .int y), (2, .int te)] from (lv_sub hl [0, 1, 2, 3, 4] rfl))
  exact L np 0 0 _ (by omega) rfl hl
set_option maxHeartbeats 4000000 in
set_option maxRecDepth 100000 in
theorem c_X4_share (l : Launch) (hI : zIn Rs np ng) (j : Nat) (hj : j < np) (hnp : MI 0 6 = nI np) (hN : np ≤ 30) (hd : MI 5 j = 0 → ¬ mPr MI np j = 0) : zMR l yX4_share cX4_share 2 ((some .long)) 2 (45) D ks [.ref (ad 0), .int (nI j)] (zP D Rs ad (gS ks ad np ng G MI MJ XI XJ)) (some (.long (mShare MI MJ np j))) := by
  refine zMR.of (by decide +kernel) (Nat.le_of_ble_eq_true rfl) ?_
  intro p e s m below meth c ls hx hb hr hml hown hlk hT hP hK hl
  have hl : lv_has ls 2 [(0, .ref (ad 0)), (1, .int (nI j))] := hl
  refine lv_aload_n hx hb dX4_share_0 rfl (lv_at hl 0 rfl) ?_
  refine gf_X4_38 hx hb hT hown hK (hP.at (hI.1 0 (by decide)) rfl) rfl dX4_share_1 ?_
  refine lv_iload_n hx hb dX4_share_4 rfl (lv_at hl 1 rfl) ?_
  refine z_ialdN hx hb hK (hP.at (hI.1 5 (by decide)) rfl) (Nat.lt_of_lt_of_le hj hN) (by decide) (v := MI 5 j) (rfl) dX4_share_5 ?_
  refine lv_if_eq (tgt := 11) hx hb dX4_share_6 (by decide) (fun c_1 => ?_) (fun c_1 => ?_)
  · refine lv_aload_n hx hb dX4_share_11 rfl (lv_at hl 0 rfl) ?_
    refine gf_X4_51 hx hb hT hown hK (hP.at (hI.1 0 (by decide)) rfl) rfl dX4_share_12 ?_
    refine lv_aload_n hx hb dX4_share_15 rfl (lv_at hl 0 rfl) ?_
    refine lv_iload_n hx hb dX4_share_16 rfl (lv_at hl 1 rfl) ?_
    refine z_backR1 (z_runV ⟨hx, hb, hml, hown, hT⟩ (rest := [.ref (ad 9)]) (As := [.int (nI j)]) (c_X4_home (MI := MI) (MJ := MJ) (XI := XI) (XJ := XJ) l hI j (hj) (hnp) (hN)) k_X4_76 (z_preRV hK hP (hP.at (hI.1 0 (by decide)) rfl) rfl) rfl ⟨Nat.le_of_ble_eq_true rfl, Nat.le_of_ble_eq_true rfl⟩ hl.1 rfl (Nat.le_of_ble_eq_true rfl) dX4_share_17 ⟨Nat.le_of_ble_eq_true rfl, Nat.le_of_ble_eq_true rfl⟩) ?_
    refine z_laldN hx hb hK (hP.at (hI.1 9 (by decide)) rfl) (Nat.lt_of_le_of_lt (hm_le hj) (Nat.lt_of_lt_of_le hj hN)) (by decide) (v := MJ 2 (hm MI np j)) (rfl) dX4_share_20 ?_
    refine lv_aload_n hx hb dX4_share_21 rfl (lv_at hl 0 rfl) ?_
    refine gf_X4_32 hx hb hT hown hK (hP.at (hI.1 0 (by decide)) rfl) rfl dX4_share_22 ?_
    refine lv_iload_n hx hb dX4_share_25 rfl (lv_at hl 1 rfl) ?_
    refine z_ialdN hx hb hK (hP.at (hI.1 3 (by decide)) rfl) (Nat.lt_of_lt_of_le hj hN) (by decide) (v := MI 3 j) (rfl) dX4_share_26 ?_
    refine lv_i2l hx hb dX4_share_27 rfl ?_
    refine lv_lmul hx hb dX4_share_28 ?_
    refine lv_aload_n hx hb dX4_share_29 rfl (lv_at hl 0 rfl) ?_
    refine lv_aload_n hx hb dX4_share_30 rfl (lv_at hl 0 rfl) ?_
    refine gf_X4_25 hx hb hT hown hK (hP.at (hI.1 0 (by decide)) rfl) rfl dX4_share_31 ?_
    refine lv_iload_n hx hb dX4_share_34 rfl (lv_at hl 1 rfl) ?_
    refine z_ialdN hx hb hK (hP.at (hI.1 1 (by decide)) rfl) (Nat.lt_of_lt_of_le hj hN) (by decide) (v := MI 1 j) (rfl) dX4_share_35 ?_
    refine lv_aload_n hx hb dX4_share_36 rfl (lv_at hl 0 rfl) ?_
    refine gf_X4_29 hx hb hT hown hK (hP.at (hI.1 0 (by decide)) rfl) rfl dX4_share_37 ?_
    refine lv_iload_n hx hb dX4_share_40 rfl (lv_at hl 1 rfl) ?_
    refine z_ialdN hx hb hK (hP.at (hI.1 2 (by decide)) rfl) (Nat.lt_of_lt_of_le hj hN) (by decide) (v := MI 2 j) (rfl) dX4_share_41 ?_
    refine z_backR1 (z_runV ⟨hx, hb, hml, hown, hT⟩ (rest := [.long ((MJ 2 (hm MI np j)) * (Int32.toInt64 (MI 3 j)))]) (As := [.int (MI 1 j), .int (MI 2 j)]) (c_X4_premiumsOf (MI := MI) (MJ := MJ) (XI := XI) (XJ := XJ) l hI (MI 1 j) (MI 2 j) (hnp) (hN)) k_X4_80 (z_preRV hK hP (hP.at (hI.1 0 (by decide)) rfl) rfl) rfl ⟨Nat.le_of_ble_eq_true rfl, Nat.le_of_ble_eq_true rfl⟩ hl.1 rfl (Nat.le_of_ble_eq_true rfl) dX4_share_42 ⟨Nat.le_of_ble_eq_true rfl, Nat.le_of_ble_eq_true rfl⟩) ?_
    refine lv_ldiv hx hb dX4_share_45 (hd c_1) ?_
    exact zR_l hx hb hr hlk dX4_share_46 ((if_pos c_1).symm)
  · refine lv_lconst (v := 0) hx hb dX4_share_9 (by decide) ?_
    exact zR_l hx hb hr hlk dX4_share_10 ((if_neg c_1).symm)
set_option maxHeartbeats 4000000 in
set_option maxRecDepth 100000 in
theorem c_X4_worthOf (l : Launch) (hI : zIn Rs np ng) (j : Nat) (hj : j < np) (hnp : MI 0 6 = nI np) (hN : np ≤ 30) (hd : MI 5 j = 0 → ¬ mPr MI np j = 0) (ht : ¬ Int32.toInt64 (MI 2 j) = 0) : zMR l yX4_worthOf cX4_worthOf 7 ((some .long)) 3 (66) D ks [.ref (ad 0), .int (nI j)] (zP D Rs ad (gS ks ad np ng G MI MJ XI XJ)) (some (.long (mWorth MI MJ np j))) := by
  refine zMR.of (by decide +kernel) (Nat.le_of_ble_eq_true rfl) ?_
  intro p e s m below meth c ls hx hb hr hml hown hlk hT hP hK hl
  have hl : lv_has ls 7 [(0, .ref (ad 0)), (1, .int (nI j))] := hl
  refine lv_aload_n hx hb dX4_worthOf_0 rfl (lv_at hl 0 rfl) ?_
  refine gf_X4_92 hx hb hT hown hK (hP.at (hI.1 0 (by decide)) rfl) rfl dX4_worthOf_1 ?_
  refine lv_aload_n hx hb dX4_worthOf_4 rfl (lv_at hl 0 rfl) ?_
  refine gf_X4_25 hx hb hT hown hK (hP.at (hI.1 0 (by decide)) rfl) rfl dX4_worthOf_5 ?_
  refine lv_iload_n hx hb dX4_worthOf_8 rfl (lv_at hl 1 rfl) ?_
  refine z_ialdN hx hb hK (hP.at (hI.1 1 (by decide)) rfl) (Nat.lt_of_lt_of_le hj hN) (by decide) (v := MI 1 j) (rfl) dX4_worthOf_9 ?_
  refine lv_isub hx hb dX4_worthOf_10 ?_
  refine lv_istore_n (lv' := [(2, .int ((MI 0 0) - (MI 1 j))), (0, .ref (ad 0)), (1, .int (nI j))]) hx hb dX4_worthOf_11 rfl hl (by decide) rfl (fun ls hl => ?_)
  refine lv_aload_n hx hb dX4_worthOf_12 rfl (lv_at hl 1 rfl) ?_
  refine lv_iload_n hx hb dX4_worthOf_13 rfl (lv_at hl 2 rfl) ?_
  refine z_backR1 (z_runV ⟨hx, hb, hml, hown, hT⟩ (rest := []) (As := [.int (nI j)]) (c_X4_share (MI := MI) (MJ := MJ) (XI := XI) (XJ := XJ) l hI j (hj) (hnp) (hN) (hd)) k_X4_95 (z_preRV hK hP (hP.at (hI.1 0 (by decide)) rfl) rfl) rfl ⟨Nat.le_of_ble_eq_true rfl, Nat.le_of_ble_eq_true rfl⟩ hl.1 rfl (Nat.le_of_ble_eq_true rfl) dX4_worthOf_14 ⟨Nat.le_of_ble_eq_true rfl, Nat.le_of_ble_eq_true rfl⟩) ?_
  refine lv_ldc2 (v := 600) hx hb hown (hT _ kl_X4_99) dX4_worthOf_17 ?_
  refine lv_ldc2 (v := 400) hx hb hown (hT _ kl_X4_101) dX4_worthOf_20 ?_
  refine lv_iload_n hx hb dX4_worthOf_23 rfl (lv_at hl 0 rfl) ?_
  refine lv_i2l hx hb dX4_worthOf_24 rfl ?_
  refine lv_lmul hx hb dX4_worthOf_25 ?_
  refine lv_aload_n hx hb dX4_worthOf_26 rfl (lv_at hl 1 rfl) ?_
  refine gf_X4_29 hx hb hT hown hK (hP.at (hI.1 0 (by decide)) rfl) rfl dX4_worthOf_27 ?_
  refine lv_iload_n hx hb dX4_worthOf_30 rfl (lv_at hl 2 rfl) ?_
  refine z_ialdN hx hb hK (hP.at (hI.1 2 (by decide)) rfl) (Nat.lt_of_lt_of_le hj hN) (by decide) (v := MI 2 j) (rfl) dX4_worthOf_31 ?_
  refine lv_i2l hx hb dX4_worthOf_32 rfl ?_
  refine lv_ldiv hx hb dX4_worthOf_33 (ht) ?_
  refine lv_ladd hx hb dX4_worthOf_34 ?_
  refine z_backR1 (z_runS ⟨hx, hb, hml, hown, hT⟩ (rest := []) (As := [.long (mShare MI MJ np j), .long (600 + ((400 * (Int32.toInt64 ((MI 0 0) - (MI 1 j)))) / (Int32.toInt64 (MI 2 j))))]) (c_X4_part l D ks (mShare MI MJ np j) (600 + ((400 * (Int32.toInt64 ((MI 0 0) - (MI 1 j)))) / (Int32.toInt64 (MI 2 j)))) ) k_X4_103 (z_preR hK trivial) rfl ⟨Nat.le_of_ble_eq_true rfl, Nat.le_of_ble_eq_true rfl⟩ hl.1 rfl (Nat.le_of_ble_eq_true rfl) dX4_worthOf_35 ⟨Nat.le_of_ble_eq_true rfl, Nat.le_of_ble_eq_true rfl⟩) ?_
  refine lv_topl (fun v1 ev1 => ?_)
  refine lv_lstore_n (lv' := [(3, .long v1), (2, .int ((MI 0 0) - (MI 1 j))), (0, .ref (ad 0)), (1, .int (nI j))]) hx hb dX4_worthOf_38 rfl hl (by decide) rfl (fun ls hl => ?_)
  refine lv_iload_n hx hb dX4_worthOf_39 rfl (lv_at hl 1 rfl) ?_
  refine lv_i2l hx hb dX4_worthOf_40 rfl ?_
  refine lv_aload_n hx hb dX4_worthOf_41 rfl (lv_at hl 2 rfl) ?_
  refine gf_X4_32 hx hb hT hown hK (hP.at (hI.1 0 (by decide)) rfl) rfl dX4_worthOf_42 ?_
  refine lv_iload_n hx hb dX4_worthOf_45 rfl (lv_at hl 3 rfl) ?_
  refine z_ialdN hx hb hK (hP.at (hI.1 3 (by decide)) rfl) (Nat.lt_of_lt_of_le hj hN) (by decide) (v := MI 3 j) (rfl) dX4_worthOf_46 ?_
  refine lv_i2l hx hb dX4_worthOf_47 rfl ?_
  refine lv_lmul hx hb dX4_worthOf_48 ?_
  refine lv_aload_n hx hb dX4_worthOf_49 rfl (lv_at hl 2 rfl) ?_
  refine gf_X4_22 hx hb hT hown hK (hP.at (hI.1 0 (by decide)) rfl) rfl dX4_worthOf_50 ?_
  refine lv_i2l hx hb dX4_worthOf_53 rfl ?_
  refine z_backR1 (z_runS ⟨hx, hb, hml, hown, hT⟩ (rest := []) (As := [.long ((Int32.toInt64 ((MI 0 0) - (MI 1 j))) * (Int32.toInt64 (MI 3 j))), .long (Int32.toInt64 (MI 0 5))]) (c_X4_part l D ks ((Int32.toInt64 ((MI 0 0) - (MI 1 j))) * (Int32.toInt64 (MI 3 j))) (Int32.toInt64 (MI 0 5)) ) k_X4_103 (z_preR hK trivial) rfl ⟨Nat.le_of_ble_eq_true rfl, Nat.le_of_ble_eq_true rfl⟩ hl.1 rfl (Nat.le_of_ble_eq_true rfl) dX4_worthOf_54 ⟨Nat.le_of_ble_eq_true rfl, Nat.le_of_ble_eq_true rfl⟩) ?_
  refine lv_topl (fun v2 ev2 => ?_)
  refine lv_lstore (lv' := [(5, .long v2), (3, .long v1), (2, .int ((MI 0 0) - (MI 1 j))), (0, .ref (ad 0)), (1, .int (nI j))]) hx hb dX4_worthOf_57 hl (by decide) rfl (fun ls hl => ?_)
  refine lv_lload_n hx hb dX4_worthOf_59 rfl (lv_at hl 1 rfl) ?_
  refine lv_lload hx hb dX4_worthOf_60 (lv_at hl 0 rfl) ?_
  refine z_lcmp_le (tgt := 70) hx hb dX4_worthOf_62 dX4_worthOf_63 (by decide) (fun c_3 => ?_) (fun c_3 => ?_)
  · refine lv_lload hx hb dX4_worthOf_70 (lv_at hl 0 rfl) ?_
    exact zR_l hx hb hr hlk dX4_worthOf_72 (by unfold mWorth fMore; subst ev1 ev2; rw [if_neg c_3])
  · refine lv_lload_n hx hb dX4_worthOf_66 rfl (lv_at hl 1 rfl) ?_
    refine lv_goto (tgt := 72) hx hb dX4_worthOf_67 (by decide) ?_
    exact zR_l hx hb hr hlk dX4_worthOf_72 (by unfold mWorth fMore; subst ev1 ev2; rw [if_pos c_3])
set_option maxHeartbeats 4000000 in
set_option maxRecDepth 100000 in
theorem c_X3_findGeneration (l : Launch) (hI : zIn Rs np ng) (y : Int32) (te : Int32) (hG30 : ng ≤ 30) : zMR l yX3_findGeneration cX3_findGeneration 5 ((some (.object "ProfitsOffice$Generation"))) 0 (0) D ks [.ref (ad 13), .int y, .int te] (zP D Rs ad (gS ks ad np ng G MI MJ XI XJ)) (some (va_rf ((xF (XI 11) (XI 12) y te ng 0).map (fun i => ad (20 + 4 * i))))) := by
  refine zMR.of (by decide +kernel) (Nat.le_of_ble_eq_true rfl) ?_
  intro p e s m below meth c ls hx hb hr hml hown hlk hT hP hK hl
  have hl : lv_has ls 5 [(0, .ref (ad 13)), (1, .int y), (2, .int te)] := hl
  have L : ∀ (n k : Nat) (ls : Array Slot), k + n = 30 → (xF (XI 11) (XI 12) y te (ng - k) k).map (fun i => ad (20 + 4 * i)) = ((xF (XI 11) (XI 12) y te ng 0).map (fun i => ad (20 + 4 * i))) → lv_has ls 5 [(3, .int (nI k)), (0, .ref (ad 13)), (1, .int y), (2, .int te)] → W p l e (zRm 0 (0) 0 0) s m ([.ref (ad 13), .int y, .int te] : List Value).toArray below meth c s.heap [] 0 0 (MQ below (zQR (some (va_rf ((xF (XI 11) (XI 12) y te ng 0).map (fun i => ad (20 + 4 * i)))))) ([.ref (ad 13), .int y, .int te] : List Value).toArray s 0 0 (fun _ => False)) (F0 m 2 ls []) := by
    intro n
    induction n with
    | zero =>
      intro k ls hkn hv hl
      refine lv_iload_n hx hb dX3_findGeneration_2 rfl (lv_at hl 0 rfl) ?_
      refine lv_aload_n hx hb dX3_findGeneration_3 rfl (lv_at hl 1 rfl) ?_
      refine gf_X3_17 hx hb hT hown hK (hP.at (hI.1 13 (by decide)) rfl) rfl dX3_findGeneration_4 ?_
      refine z_glen hx hb hK (hP.at (hI.1 15 (by decide)) rfl) (v := 30) rfl dX3_findGeneration_7 ?_
      refine lv_icmp_ge (tgt := 51) hx hb dX3_findGeneration_8 (by decide) (fun c_1 => ?_) (fun c_1 => ?_)
      · refine lv_null hx hb dX3_findGeneration_51 ?_
        exact zR_a hx hb hr hlk dX3_findGeneration_52 (Or.inl rfl) (by rw [← hv, show ng - k = 0 by omega]; rfl)
      · exact absurd (nI_le (a := 30) (b := k) (by omega) (by omega)) c_1
    | succ n ih =>
      intro k ls hkn hv hl
      have hk : k < 30 := by omega
      refine lv_iload_n hx hb dX3_findGeneration_2 rfl (lv_at hl 0 rfl) ?_
      refine lv_aload_n hx hb dX3_findGeneration_3 rfl (lv_at hl 1 rfl) ?_
      refine gf_X3_17 hx hb hT hown hK (hP.at (hI.1 13 (by decide)) rfl) rfl dX3_findGeneration_4 ?_
      refine z_glen hx hb hK (hP.at (hI.1 15 (by decide)) rfl) (v := 30) rfl dX3_findGeneration_7 ?_
      refine lv_icmp_ge (tgt := 51) hx hb dX3_findGeneration_8 (by decide) (fun c_2 => ?_) (fun c_2 => ?_)
      · exact absurd c_2 (nI_ge (a := k) (b := 30) hk (by decide))
      · refine lv_aload_n hx hb dX3_findGeneration_11 rfl (lv_at hl 1 rfl) ?_
        refine gf_X3_17 hx hb hT hown hK (hP.at (hI.1 13 (by decide)) rfl) rfl dX3_findGeneration_12 ?_
        refine lv_iload_n hx hb dX3_findGeneration_15 rfl (lv_at hl 0 rfl) ?_
        refine z_galdN hx hb hK (hP.at (hI.1 15 (by decide)) rfl) (hk) (by decide) rfl dX3_findGeneration_16 ?_
        rcases Nat.lt_or_ge k ng with hg | hg
        · rw [show rGen ad ng k = some (ad (20 + 4 * k)) from if_pos hg]
          show W _ _ _ _ _ _ _ _ _ _ _ _ _ _ _ (F0 m 17 ls (.ref (ad (20 + 4 * k)) :: []))
          refine lv_astore (lv' := [(4, .ref (ad (20 + 4 * k))), (3, .int (nI k)), (0, .ref (ad 13)), (1, .int y), (2, .int te)]) hx hb dX3_findGeneration_17 hl (by decide) rfl (fun ls hl => ?_)
          refine lv_aload hx hb dX3_findGeneration_19 (lv_at hl 0 rfl) ?_
          refine lv_ifnull hx hb dX3_findGeneration_21 ?_
          refine lv_aload hx hb dX3_findGeneration_24 (lv_at hl 0 rfl) ?_
          refine gf_X3_196 hx hb hT hown hK (hP.at (hI.2.1 k hg).1 gS_0) rfl dX3_findGeneration_26 ?_
          refine lv_iload_n hx hb dX3_findGeneration_29 rfl (lv_at hl 3 rfl) ?_
          refine lv_icmp_ne (tgt := 45) hx hb dX3_findGeneration_30 (by decide) (fun c_3 => ?_) (fun c_3 => ?_)
          · refine lv_iinc (v := nI (k + 1)) (lv' := [(3, .int (nI (k + 1))), (4, .ref (ad (20 + 4 * k))), (0, .ref (ad 13)), (1, .int y), (2, .int te)]) hx hb dX3_findGeneration_45 hl (k := 1) rfl (nI_1 k) (by decide) rfl (fun ls hl => ?_)
            refine lv_goto (tgt := 2) hx hb dX3_findGeneration_48 (by decide) ?_
            exact ih (k + 1) _ (by omega) (by rw [← hv, show ng - k = ng - (k + 1) + 1 by omega]; simp only [xF]; rw [if_neg (fun h => c_3 h.1)]) (lv_sub hl [0, 2, 3, 4] rfl)
          · refine lv_aload hx hb dX3_findGeneration_33 (lv_at hl 0 rfl) ?_
            refine gf_X3_199 hx hb hT hown hK (hP.at (hI.2.1 k hg).1 gS_0) rfl dX3_findGeneration_35 ?_
            refine lv_iload_n hx hb dX3_findGeneration_38 rfl (lv_at hl 4 rfl) ?_
            refine lv_icmp_ne (tgt := 45) hx hb dX3_findGeneration_39 (by decide) (fun c_4 => ?_) (fun c_4 => ?_)
            · refine lv_iinc (v := nI (k + 1)) (lv' := [(3, .int (nI (k + 1))), (4, .ref (ad (20 + 4 * k))), (0, .ref (ad 13)), (1, .int y), (2, .int te)]) hx hb dX3_findGeneration_45 hl (k := 1) rfl (nI_1 k) (by decide) rfl (fun ls hl => ?_)
              refine lv_goto (tgt := 2) hx hb dX3_findGeneration_48 (by decide) ?_
              exact ih (k + 1) _ (by omega) (by rw [← hv, show ng - k = ng - (k + 1) + 1 by omega]; simp only [xF]; rw [if_neg (fun h => c_4 h.2)]) (lv_sub hl [0, 2, 3, 4] rfl)
            · refine lv_aload hx hb dX3_findGeneration_42 (lv_at hl 0 rfl) ?_
              exact zR_a hx hb hr hlk dX3_findGeneration_44 (Or.inr ⟨_, rfl⟩) (by rw [← hv, show ng - k = ng - (k + 1) + 1 by omega]; simp only [xF]; rw [if_pos ⟨c_3, c_4⟩]; rfl)
        · have hg : ¬ k < ng := Nat.not_lt.mpr hg
          rw [show rGen ad ng k = none from if_neg hg]
          show W _ _ _ _ _ _ _ _ _ _ _ _ _ _ _ (F0 m 17 ls (.null :: []))
          refine lv_astoreN (lv' := [(4, .null), (3, .int (nI k)), (0, .ref (ad 13)), (1, .int y), (2, .int te)]) hx hb dX3_findGeneration_17 hl (by decide) rfl (fun ls hl => ?_)
          refine lv_aloadN hx hb dX3_findGeneration_19 (lv_at hl 0 rfl) ?_
          refine lv_ifnullN (tgt := 45) hx hb dX3_findGeneration_21 (by decide) ?_
          refine lv_iinc (v := nI (k + 1)) (lv' := [(3, .int (nI (k + 1))), (4, .null), (0, .ref (ad 13)), (1, .int y), (2, .int te)]) hx hb dX3_findGeneration_45 hl (k := 1) rfl (nI_1 k) (by decide) rfl (fun ls hl => ?_)
          refine lv_goto (tgt := 2) hx hb dX3_findGeneration_48 (by decide) ?_
          exact ih (k + 1) _ (by omega) (by rw [← hv, show ng - k = 0 by omega, show ng - (k + 1) = 0 by omega]; rfl) (lv_sub hl [0, 2, 3, 4] rfl)
  refine lv_iconst (v := 0) hx hb dX3_findGeneration_0 (by decide) ?_
  refine lv_istore_n (lv' := [(3, .int 0), (0, .ref (ad 13)), (1, .int y), (2, .int te)]) hx hb dX3_findGeneration_1 rfl hl (by decide) rfl (fun ls hl => ?_)
  exact L 30 0 _ (by omega) rfl (lv_sub hl [0, 1, 2, 3] rfl)
set_option maxHeartbeats 4000000 in
set_option maxRecDepth 100000 in
theorem c_X3_ratioIn (l : Launch) (r : Nat) (hr1 : r ∈ Rs) (f : Nat → Int64) (he : gS ks ad np ng G MI MJ XI XJ r = .inl (ks 1, 21, .inr (.inl f))) (t : Int32) : zMR l yX3_ratioIn cX3_ratioIn 2 ((some .long)) 0 0 D ks [.ref (ad r), .int t] (zP D Rs ad (gS ks ad np ng G MI MJ XI XJ)) (some (.long (fRat f t))) := by
  refine zMR.of (by decide +kernel) (Nat.le_of_ble_eq_true rfl) ?_
  intro p e s m below meth c ls hx hb hr hml hown hlk hT hP hK hl
  have hl : lv_has ls 2 [(0, .ref (ad r)), (1, .int t)] := hl
  refine lv_iload_n hx hb dX3_ratioIn_0 rfl (lv_at hl 1 rfl) ?_
  refine lv_if_lt (tgt := 16) hx hb dX3_ratioIn_1 (by decide) (fun c_1 => ?_) (fun c_1 => ?_)
  · refine lv_ldc2 (v := (-1)) hx hb hown (hT _ kl_X3_28) dX3_ratioIn_16 ?_
    exact zR_l hx hb hr hlk dX3_ratioIn_19 ((if_neg (fun h => absurd h.1 (Int32.not_le.mpr c_1))).symm)
  · refine lv_iload_n hx hb dX3_ratioIn_4 rfl (lv_at hl 1 rfl) ?_
    refine lv_aload_n hx hb dX3_ratioIn_5 rfl (lv_at hl 0 rfl) ?_
    refine z_jlen hx hb hK (hP.at hr1 he) (v := 21) rfl dX3_ratioIn_6 ?_
    refine lv_icmp_ge (tgt := 16) hx hb dX3_ratioIn_7 (by decide) (fun c_2 => ?_) (fun c_2 => ?_)
    · refine lv_ldc2 (v := (-1)) hx hb hown (hT _ kl_X3_28) dX3_ratioIn_16 ?_
      exact zR_l hx hb hr hlk dX3_ratioIn_19 ((if_neg (fun h => absurd h.2 (Int32.not_lt.mpr c_2))).symm)
    · refine lv_aload_n hx hb dX3_ratioIn_10 rfl (lv_at hl 0 rfl) ?_
      refine lv_iload_n hx hb dX3_ratioIn_11 rfl (lv_at hl 1 rfl) ?_
      refine z_lald hx hb hK (hP.at hr1 he) (z_vpin c_1 c_2 rfl) dX3_ratioIn_12 ?_
      refine lv_goto (tgt := 19) hx hb dX3_ratioIn_13 (by decide) ?_
      exact zR_l hx hb hr hlk dX3_ratioIn_19 ((if_pos ⟨Int32.not_lt.mp c_1, Int32.not_le.mp c_2⟩).symm)
end ZM1
end
section
/-! what is written: funds, a policy that leaves; the reference likewise -/
section ZW1
variable {D : va_G} {ks : Nat → ClassId} {ad : Nat → Nat} {np ng : Nat} {G : Nat → Nat} {MI : Nat → Nat → Int32} {MJ : Nat → Nat → Int64} {XI : Nat → Nat → Int32} {XJ : Nat → Nat → Int64} {Rs : List Nat}
def fChg (a ch : Int64) : Int64 := if 0 < a then fThou a ch else 0
def fRel (a : Int64) (p : Int32) (P : Int64) : Int64 := if 0 < P - Int32.toInt64 p then fShare a p P else a
set_option maxHeartbeats 4000000 in
set_option maxRecDepth 100000 in
theorem c_X0_earn (l : Launch) (hD0 : zD (fun _ => True) Rs ad) {g : Nat → va_E} (r : Nat) (hr1 : r ∈ Rs) (a : Int64) (he : g r = .inr (0, [.long a])) (rt : Int32) (sz : Nat) : zMW l yX0_earn cX0_earn 4 ((some .long)) 2 (48) 0 0 D ks sz [.ref (ad r), .int rt] (zP D Rs ad g) (some (.long (fThou a (Int32.toInt64 rt)))) (zP D Rs ad (va_up g r (.inr (0, [.long (a + fThou a (Int32.toInt64 rt))])))) (zA Rs ad sz) := by
  refine zMW.of (by decide +kernel) (Nat.le_of_ble_eq_true rfl) ?_
  intro p e s m below meth c ls hx hb hr hml hown hlk hT hsz hP hK hl hin
  have hl : lv_has ls 4 [(0, .ref (ad r)), (1, .int rt)] := hl
  subst hsz
  have hD := hD0.self (sz := s.heap.size)
  have hA : ∀ q : Nat, s.heap.size ≤ q → zA Rs ad s.heap.size q := fun q h => Or.inr h
  have hS : va_S (zA Rs ad s.heap.size) s.heap s.heap [] := va_S.rf
  refine lv_aload_n hx hb dX0_earn_0 rfl (lv_at hl 0 rfl) ?_
  refine gf_X0_7 hx hb hT hown hK (hP.at hr1 he) rfl dX0_earn_1 ?_
  refine lv_iload_n hx hb dX0_earn_4 rfl (lv_at hl 1 rfl) ?_
  refine lv_i2l hx hb dX0_earn_5 rfl ?_
  refine z_backR1 (z_runSN ⟨hx, hb, hml, hown, hT⟩ hK (rest := []) (As := [.long a, .long (Int32.toInt64 rt)]) (c_X3_thousandths l D ks a (Int32.toInt64 rt) ) k_X0_13 (z_preR hK trivial) rfl ⟨Nat.le_of_ble_eq_true rfl, Nat.le_of_ble_eq_true rfl⟩ hl.1 rfl (Nat.le_of_ble_eq_true rfl) dX0_earn_6 ⟨Nat.le_of_ble_eq_true rfl, Nat.le_of_ble_eq_true rfl⟩) ?_
  refine lv_lstore_n (lv' := [(2, .long (fThou a (Int32.toInt64 rt))), (0, .ref (ad r)), (1, .int rt)]) hx hb dX0_earn_9 rfl hl (by decide) rfl (fun ls hl => ?_)
  refine lv_aload_n hx hb dX0_earn_10 rfl (lv_at hl 1 rfl) ?_
  refine lv_dup hx hb dX0_earn_11 rfl ?_
  refine gf_X0_7 hx hb hT hown hK (hP.at hr1 he) rfl dX0_earn_12 ?_
  refine lv_lload_n hx hb dX0_earn_15 rfl (lv_at hl 0 rfl) ?_
  refine lv_ladd hx hb dX0_earn_16 ?_
  refine pg_X0_7 hx hb hT hown hK hP hD hS hr1 (v := a + (fThou a (Int32.toInt64 rt))) he (Nat.le_of_ble_eq_true rfl) dX0_earn_17 (fun H locs hP hS => ?_)
  refine lv_lload_n hx hb dX0_earn_20 rfl (lv_at hl 0 rfl) ?_
  exact zW_l hx hb hr hlk hS (Nat.le_of_ble_eq_true rfl) (Nat.le_of_ble_eq_true rfl) dX0_earn_21 (rfl) (hP)
set_option maxHeartbeats 4000000 in
set_option maxRecDepth 100000 in
theorem c_X0_takeCharge (l : Launch) (hD0 : zD (fun _ => True) Rs ad) {g : Nat → va_E} (r : Nat) (hr1 : r ∈ Rs) (a : Int64) (he : g r = .inr (0, [.long a])) (ch : Int32) (sz : Nat) : zMW l yX0_takeCharge cX0_takeCharge 4 ((some .long)) 2 (48) 0 0 D ks sz [.ref (ad r), .int ch] (zP D Rs ad g) (some (.long (fChg a (Int32.toInt64 ch)))) (zP D Rs ad (va_up g r (.inr (0, [.long (a - fChg a (Int32.toInt64 ch))])))) (zA Rs ad sz) := by
  refine zMW.of (by decide +kernel) (Nat.le_of_ble_eq_true rfl) ?_
  intro p e s m below meth c ls hx hb hr hml hown hlk hT hsz hP hK hl hin
  have hl : lv_has ls 4 [(0, .ref (ad r)), (1, .int ch)] := hl
  subst hsz
  have hD := hD0.self (sz := s.heap.size)
  have hA : ∀ q : Nat, s.heap.size ≤ q → zA Rs ad s.heap.size q := fun q h => Or.inr h
  have hS : va_S (zA Rs ad s.heap.size) s.heap s.heap [] := va_S.rf
  refine lv_aload_n hx hb dX0_takeCharge_0 rfl (lv_at hl 0 rfl) ?_
  refine gf_X0_7 hx hb hT hown hK (hP.at hr1 he) rfl dX0_takeCharge_1 ?_
  refine lv_lconst (v := 0) hx hb dX0_takeCharge_4 (by decide) ?_
  refine z_lcmp_le (tgt := 21) hx hb dX0_takeCharge_5 dX0_takeCharge_6 (by decide) (fun c_1 => ?_) (fun c_1 => ?_)
  · refine lv_lconst (v := 0) hx hb dX0_takeCharge_21 (by decide) ?_
    refine lv_lstore_n (lv' := [(2, .long 0), (0, .ref (ad r)), (1, .int ch)]) hx hb dX0_takeCharge_22 rfl hl (by decide) rfl (fun ls hl => ?_)
    refine lv_aload_n hx hb dX0_takeCharge_23 rfl (lv_at hl 1 rfl) ?_
    refine lv_dup hx hb dX0_takeCharge_24 rfl ?_
    refine gf_X0_7 hx hb hT hown hK (hP.at hr1 he) rfl dX0_takeCharge_25 ?_
    refine lv_lload_n hx hb dX0_takeCharge_28 rfl (lv_at hl 0 rfl) ?_
    refine lv_lsub hx hb dX0_takeCharge_29 ?_
    refine pg_X0_7 hx hb hT hown hK hP hD hS hr1 (v := a - 0) he (Nat.le_of_ble_eq_true rfl) dX0_takeCharge_30 (fun H locs hP hS => ?_)
    refine lv_lload_n hx hb dX0_takeCharge_33 rfl (lv_at hl 0 rfl) ?_
    exact zW_l hx hb hr hlk hS (Nat.le_of_ble_eq_true rfl) (Nat.le_of_ble_eq_true rfl) dX0_takeCharge_34 ((if_neg c_1).symm) (by rw [show fChg a (Int32.toInt64 ch) = _ from if_neg c_1]; exact hP)
  · refine lv_aload_n hx hb dX0_takeCharge_9 rfl (lv_at hl 0 rfl) ?_
    refine gf_X0_7 hx hb hT hown hK (hP.at hr1 he) rfl dX0_takeCharge_10 ?_
    refine lv_iload_n hx hb dX0_takeCharge_13 rfl (lv_at hl 1 rfl) ?_
    refine lv_i2l hx hb dX0_takeCharge_14 rfl ?_
    refine z_backR1 (z_runSN ⟨hx, hb, hml, hown, hT⟩ hK (rest := []) (As := [.long a, .long (Int32.toInt64 ch)]) (c_X3_thousandths l D ks a (Int32.toInt64 ch) ) k_X0_13 (z_preR hK trivial) rfl ⟨Nat.le_of_ble_eq_true rfl, Nat.le_of_ble_eq_true rfl⟩ hl.1 rfl (Nat.le_of_ble_eq_true rfl) dX0_takeCharge_15 ⟨Nat.le_of_ble_eq_true rfl, Nat.le_of_ble_eq_true rfl⟩) ?_
    refine lv_goto (tgt := 22) hx hb dX0_takeCharge_18 (by decide) ?_
    refine lv_lstore_n (lv' := [(2, .long (fThou a (Int32.toInt64 ch))), (0, .ref (ad r)), (1, .int ch)]) hx hb dX0_takeCharge_22 rfl hl (by decide) rfl (fun ls hl => ?_)
    refine lv_aload_n hx hb dX0_takeCharge_23 rfl (lv_at hl 1 rfl) ?_
    refine lv_dup hx hb dX0_takeCharge_24 rfl ?_
    refine gf_X0_7 hx hb hT hown hK (hP.at hr1 he) rfl dX0_takeCharge_25 ?_
    refine lv_lload_n hx hb dX0_takeCharge_28 rfl (lv_at hl 0 rfl) ?_
    refine lv_lsub hx hb dX0_takeCharge_29 ?_
    refine pg_X0_7 hx hb hT hown hK hP hD hS hr1 (v := a - (fThou a (Int32.toInt64 ch))) he (Nat.le_of_ble_eq_true rfl) dX0_takeCharge_30 (fun H locs hP hS => ?_)
    refine lv_lload_n hx hb dX0_takeCharge_33 rfl (lv_at hl 0 rfl) ?_
    exact zW_l hx hb hr hlk hS (Nat.le_of_ble_eq_true rfl) (Nat.le_of_ble_eq_true rfl) dX0_takeCharge_34 ((if_pos c_1).symm) (by rw [show fChg a (Int32.toInt64 ch) = _ from if_pos c_1]; exact hP)
set_option maxHeartbeats 4000000 in
set_option maxRecDepth 100000 in
theorem c_X1_release (l : Launch) (hD0 : zD (fun _ => True) Rs ad) (hI : zIn Rs np ng) (i : Nat) (p0 : Int32) (hi : i < ng) (sz : Nat) : zMW l yX1_release cX1_release 4 ((some .long)) 2 (44) 0 0 D ks sz [.ref (ad (20 + 4 * i)), .int p0] (zP D Rs ad (gS ks ad np ng G MI MJ XI XJ)) (some (.long (fRel (XJ 8 i) p0 (XJ 7 i)))) (zP D Rs ad (gS ks ad np ng G MI MJ XI (u2 (u2 XJ 7 i ((XJ 7 i) - Int32.toInt64 p0)) 8 i ((XJ 8 i) - fRel (XJ 8 i) p0 (XJ 7 i))))) (zA Rs ad sz) := by
  refine zMW.of (by decide +kernel) (Nat.le_of_ble_eq_true rfl) ?_
  intro p e s m below meth c ls hx hb hr hml hown hlk hT hsz hP hK hl hin
  have hl : lv_has ls 4 [(0, .ref (ad (20 + 4 * i))), (1, .int p0)] := hl
  subst hsz
  have hD := hD0.self (sz := s.heap.size)
  have hA : ∀ q : Nat, s.heap.size ≤ q → zA Rs ad s.heap.size q := fun q h => Or.inr h
  have hS : va_S (zA Rs ad s.heap.size) s.heap s.heap [] := va_S.rf
  refine lv_aload_n hx hb dX1_release_0 rfl (lv_at hl 0 rfl) ?_
  refine lv_iload_n hx hb dX1_release_1 rfl (lv_at hl 1 rfl) ?_
  refine z_backR1 (z_runV ⟨hx, hb, hml, hown, hT⟩ (rest := []) (As := [.int p0]) (c_X1_shareFor (MI := MI) (MJ := MJ) (XI := XI) (XJ := XJ) l hI i p0 (hi)) k_X1_36 (z_preRV hK hP (hP.at (hI.2.1 i hi).1 gS_0) rfl) rfl ⟨Nat.le_of_ble_eq_true rfl, Nat.le_of_ble_eq_true rfl⟩ hl.1 rfl (Nat.le_of_ble_eq_true rfl) dX1_release_2 ⟨Nat.le_of_ble_eq_true rfl, Nat.le_of_ble_eq_true rfl⟩) ?_
  refine lv_lstore_n (lv' := [(2, .long (fShare (XJ 8 i) p0 (XJ 7 i))), (0, .ref (ad (20 + 4 * i))), (1, .int p0)]) hx hb dX1_release_5 rfl hl (by decide) rfl (fun ls hl => ?_)
  refine lv_aload_n hx hb dX1_release_6 rfl (lv_at hl 1 rfl) ?_
  refine lv_dup hx hb dX1_release_7 rfl ?_
  refine gf_X1_27 hx hb hT hown hK (hP.at (hI.2.1 i hi).1 gS_0) rfl dX1_release_8 ?_
  refine lv_iload_n hx hb dX1_release_11 rfl (lv_at hl 2 rfl) ?_
  refine lv_i2l hx hb dX1_release_12 rfl ?_
  refine lv_lsub hx hb dX1_release_13 ?_
  refine pf_X1_27 hx hb hT hown hK hP hD hS (hI.2.1 i hi).1 (v := (XJ 7 i) - (Int32.toInt64 p0)) dX1_release_14 (fun H locs hP hS => ?_)
  refine lv_aload_n hx hb dX1_release_17 rfl (lv_at hl 1 rfl) ?_
  refine gf_X1_27 hx hb hT hown hK (v := .long ((XJ 7 i) - (Int32.toInt64 p0))) (hP.at (hI.2.1 i hi).1 gS_0) (congrArg (fun z => some (Value.long z)) (u2_s (F := XJ) (k := 7) (i := i) (v := (XJ 7 i) - (Int32.toInt64 p0)))) dX1_release_18 ?_
  refine lv_lconst (v := 0) hx hb dX1_release_21 (by decide) ?_
  refine z_lcmp_gt (tgt := 34) hx hb dX1_release_22 dX1_release_23 (by decide) (fun c_1 => ?_) (fun c_1 => ?_)
  · refine lv_aload_n hx hb dX1_release_34 rfl (lv_at hl 1 rfl) ?_
    refine gf_X1_19 hx hb hT hown hK (v := .ref (ad (21 + 4 * i))) (hP.at (hI.2.1 i hi).1 gS_0) rfl dX1_release_35 ?_
    refine lv_dup hx hb dX1_release_38 rfl ?_
    refine gf_X1_23 hx hb hT hown hK (v := .long (XJ 8 i)) (hP.at (hI.2.1 i hi).2 gS_1) rfl dX1_release_39 ?_
    refine lv_lload_n hx hb dX1_release_42 rfl (lv_at hl 0 rfl) ?_
    refine lv_lsub hx hb dX1_release_43 ?_
    refine pf_X1_23 hx hb hT hown hK hP hD hS (hI.2.1 i hi).2 (v := (XJ 8 i) - (fShare (XJ 8 i) p0 (XJ 7 i))) dX1_release_44 (fun H locs hP hS => ?_)
    refine lv_lload_n hx hb dX1_release_47 rfl (lv_at hl 0 rfl) ?_
    exact zW_l hx hb hr hlk hS (Nat.le_of_ble_eq_true rfl) (Nat.le_of_ble_eq_true rfl) dX1_release_48 (by exact (if_pos c_1).symm) (by rw [show fRel (XJ 8 i) p0 (XJ 7 i) = _ from if_pos c_1]; exact hP)
  · refine lv_aload_n hx hb dX1_release_26 rfl (lv_at hl 1 rfl) ?_
    refine gf_X1_19 hx hb hT hown hK (v := .ref (ad (21 + 4 * i))) (hP.at (hI.2.1 i hi).1 gS_0) rfl dX1_release_27 ?_
    refine gf_X1_23 hx hb hT hown hK (v := .long (XJ 8 i)) (hP.at (hI.2.1 i hi).2 gS_1) rfl dX1_release_30 ?_
    refine lv_lstore_n (lv' := [(2, .long (XJ 8 i)), (0, .ref (ad (20 + 4 * i))), (1, .int p0)]) hx hb dX1_release_33 rfl hl (by decide) rfl (fun ls hl => ?_)
    refine lv_aload_n hx hb dX1_release_34 rfl (lv_at hl 1 rfl) ?_
    refine gf_X1_19 hx hb hT hown hK (v := .ref (ad (21 + 4 * i))) (hP.at (hI.2.1 i hi).1 gS_0) rfl dX1_release_35 ?_
    refine lv_dup hx hb dX1_release_38 rfl ?_
    refine gf_X1_23 hx hb hT hown hK (v := .long (XJ 8 i)) (hP.at (hI.2.1 i hi).2 gS_1) rfl dX1_release_39 ?_
    refine lv_lload_n hx hb dX1_release_42 rfl (lv_at hl 0 rfl) ?_
    refine lv_lsub hx hb dX1_release_43 ?_
    refine pf_X1_23 hx hb hT hown hK hP hD hS (hI.2.1 i hi).2 (v := (XJ 8 i) - (XJ 8 i)) dX1_release_44 (fun H locs hP hS => ?_)
    refine lv_lload_n hx hb dX1_release_47 rfl (lv_at hl 0 rfl) ?_
    exact zW_l hx hb hr hlk hS (Nat.le_of_ble_eq_true rfl) (Nat.le_of_ble_eq_true rfl) dX1_release_48 (by exact (if_neg c_1).symm) (by rw [show fRel (XJ 8 i) p0 (XJ 7 i) = _ from if_neg c_1]; exact hP)
set_option maxHeartbeats 4000000 in
set_option maxRecDepth 100000 in
theorem c_X3_close (l : Launch) (hD0 : zD (fun _ => True) Rs ad) (hI : zIn Rs np ng) (j : Nat) (stt : Int32) (pay : Int64) (hj : j < np) (hG : G j < ng) (sz : Nat) : zMW l yX3_close cX3_close 5 ((none : Option FieldType)) 3 (67) 0 0 D ks sz [.ref (ad 13), .ref (ad (22 + 4 * j)), .int stt, .long pay] (zP D Rs ad (gS ks ad np ng G MI MJ XI XJ)) none (zP D Rs ad (gS ks ad np ng G MI MJ (u2 XI 15 j stt) (u2 (u2 (u2 (u2 (u2 XJ 7 (G j) ((XJ 7 (G j)) - Int32.toInt64 (XI 13 j))) 8 (G j) ((XJ 8 (G j)) - fRel (XJ 8 (G j)) (XI 13 j) (XJ 7 (G j)))) 4 0 ((XJ 4 0) + (fRel (XJ 8 (G j)) (XI 13 j) (XJ 7 (G j)) - pay))) 4 1 ((XJ 4 1) - pay)) 11 j pay))) (zA Rs ad sz) := by
  refine zMW.of (by decide +kernel) (Nat.le_of_ble_eq_true rfl) ?_
  intro p e s m below meth c ls hx hb hr hml hown hlk hT hsz hP hK hl hin
  have hl : lv_has ls 5 [(0, .ref (ad 13)), (1, .ref (ad (22 + 4 * j))), (2, .int stt), (3, .long pay)] := hl
  subst hsz
  have hD := hD0.self (sz := s.heap.size)
  have hA : ∀ q : Nat, s.heap.size ≤ q → zA Rs ad s.heap.size q := fun q h => Or.inr h
  have hS : va_S (zA Rs ad s.heap.size) s.heap s.heap [] := va_S.rf
  refine lv_aload_n hx hb dX3_close_0 rfl (lv_at hl 0 rfl) ?_
  refine lv_dup hx hb dX3_close_1 rfl ?_
  refine gf_X3_101 hx hb hT hown hK (hP.at (hI.1 13 (by decide)) rfl) rfl dX3_close_2 ?_
  refine lv_aload_n hx hb dX3_close_5 rfl (lv_at hl 1 rfl) ?_
  refine gf_X3_192 hx hb hT hown hK (hP.at (hI.2.2 j hj).1 gS_2) rfl dX3_close_6 ?_
  refine lv_aload_n hx hb dX3_close_9 rfl (lv_at hl 1 rfl) ?_
  refine gf_X3_218 hx hb hT hown hK (hP.at (hI.2.2 j hj).1 gS_2) rfl dX3_close_10 ?_
  refine z_backW1 (z_runVN ⟨hx, hb, hml, hown, hT⟩ hK (rest := [.long (XJ 4 0), .ref (ad 13)]) (As := [.int (XI 13 j)]) (c_X1_release (MI := MI) (MJ := MJ) (XI := XI) (XJ := XJ) l hD0 hI (G j) (XI 13 j) (hG) _) k_X3_239 (z_preWV hK hP (hP.at (hI.2.1 (G j) hG).1 gS_0) rfl) rfl ⟨Nat.le_of_ble_eq_true rfl, Nat.le_of_ble_eq_true rfl⟩ hl.1 rfl (Nat.le_of_ble_eq_true rfl) dX3_close_13 ⟨Nat.le_of_ble_eq_true rfl, Nat.le_of_ble_eq_true rfl⟩) hS (hD.free (fun q hq => hA q (Nat.le_trans hS.1 hq))) (fun H locs hP hz1 hk1 hS => ?_)
  have hP : zP D Rs ad (gS ks ad np ng G MI MJ XI (u2 (u2 XJ 7 (G j) ((XJ 7 (G j)) - Int32.toInt64 (XI 13 j))) 8 (G j) ((XJ 8 (G j)) - fRel (XJ 8 (G j)) (XI 13 j) (XJ 7 (G j))))) H := hP
  refine lv_lload_n hx hb dX3_close_16 rfl (lv_at hl 3 rfl) ?_
  refine lv_lsub hx hb dX3_close_17 ?_
  refine lv_ladd hx hb dX3_close_18 ?_
  refine lv_topl (fun v1 ev1 => ?_)
  refine pf_X3_101 hx hb hT hown hK hP hD hS (hI.1 13 (by decide)) (v := v1) dX3_close_19 (fun H locs hP hS => ?_)
  refine lv_aload_n hx hb dX3_close_22 rfl (lv_at hl 0 rfl) ?_
  refine lv_dup hx hb dX3_close_23 rfl ?_
  refine gf_X3_105 hx hb hT hown hK (v := .long (XJ 4 1)) (hP.at (hI.1 13 (by decide)) rfl) rfl dX3_close_24 ?_
  refine lv_lload_n hx hb dX3_close_27 rfl (lv_at hl 3 rfl) ?_
  refine lv_lsub hx hb dX3_close_28 ?_
  refine pf_X3_105 hx hb hT hown hK hP hD hS (hI.1 13 (by decide)) (v := (XJ 4 1) - pay) dX3_close_29 (fun H locs hP hS => ?_)
  refine lv_aload_n hx hb dX3_close_32 rfl (lv_at hl 1 rfl) ?_
  refine lv_iload_n hx hb dX3_close_33 rfl (lv_at hl 2 rfl) ?_
  refine pf_X3_133 hx hb hT hown hK hP hD hS (hI.2.2 j hj).1 (v := stt) dX3_close_34 (fun H locs hP hS => ?_)
  refine lv_aload_n hx hb dX3_close_37 rfl (lv_at hl 1 rfl) ?_
  refine lv_lload_n hx hb dX3_close_38 rfl (lv_at hl 3 rfl) ?_
  refine pf_X3_164 hx hb hT hown hK hP hD hS (hI.2.2 j hj).1 (v := pay) dX3_close_39 (fun H locs hP hS => ?_)
  exact zW_v hx hb hr hlk hS (Nat.le_of_ble_eq_true rfl) (Nat.le_of_ble_eq_true rfl) dX3_close_42 (by subst ev1; exact hP)
def isP (q : Int32) (np : Nat) : Int32 := fIn q 0 (nI np - 1)
def lvJ (z : Int64) (MJ : Nat → Nat → Int64) (h : Nat) (sh : Int64) (pay : Int32) : Nat → Nat → Int64 :=
  if z = 0 then u2 (u2 (u2 (u2 (u2 MJ 2 h (MJ 2 h - sh)) 0 0 (MJ 0 0 + (sh - Int32.toInt64 pay))) 0 1 (MJ 0 1 - Int32.toInt64 pay)) 0 0 (MJ 0 0 + (sh - Int32.toInt64 pay) + (MJ 2 h - sh))) 2 h 0
  else u2 (u2 (u2 MJ 2 h (MJ 2 h - sh)) 0 0 (MJ 0 0 + (sh - Int32.toInt64 pay))) 0 1 (MJ 0 1 - Int32.toInt64 pay)
set_option maxHeartbeats 4000000 in
set_option maxRecDepth 100000 in
theorem c_X4_leaves (l : Launch) (hD0 : zD (fun _ => True) Rs ad) (hI : zIn Rs np ng) (j : Nat) (stt : Int32) (sh : Int64) (pay : Int32) (hj : j < np) (hnp : MI 0 6 = nI np) (hN : np ≤ 30) (sz : Nat) : zMW l yX4_leaves cX4_leaves 7 ((none : Option FieldType)) 2 (45) 0 0 D ks sz [.ref (ad 0), .int (nI j), .int stt, .long sh, .int pay] (zP D Rs ad (gS ks ad np ng G MI MJ XI XJ)) none (zP D Rs ad (gS ks ad np ng G (u2 (u2 MI 5 j stt) 7 j pay) (lvJ (mPr (u2 (u2 MI 5 j stt) 7 j pay) np j) MJ (hm MI np j) sh pay) XI XJ)) (zA Rs ad sz) := by
  refine zMW.of (by decide +kernel) (Nat.le_of_ble_eq_true rfl) ?_
  intro p e s m below meth c ls hx hb hr hml hown hlk hT hsz hP hK hl hin
  have hl : lv_has ls 7 [(0, .ref (ad 0)), (1, .int (nI j)), (2, .int stt), (3, .long sh), (5, .int pay)] := hl
  subst hsz
  have hD := hD0.self (sz := s.heap.size)
  have hA : ∀ q : Nat, s.heap.size ≤ q → zA Rs ad s.heap.size q := fun q h => Or.inr h
  have hS : va_S (zA Rs ad s.heap.size) s.heap s.heap [] := va_S.rf
  refine lv_aload_n hx hb dX4_leaves_0 rfl (lv_at hl 0 rfl) ?_
  refine lv_iload_n hx hb dX4_leaves_1 rfl (lv_at hl 1 rfl) ?_
  refine z_backR1 (z_runV ⟨hx, hb, hml, hown, hT⟩ (rest := []) (As := [.int (nI j)]) (c_X4_home (MI := MI) (MJ := MJ) (XI := XI) (XJ := XJ) l hI j (hj) (hnp) (hN)) k_X4_76 (z_preRV hK hP (hP.at (hI.1 0 (by decide)) rfl) rfl) rfl ⟨Nat.le_of_ble_eq_true rfl, Nat.le_of_ble_eq_true rfl⟩ hl.1 rfl (Nat.le_of_ble_eq_true rfl) dX4_leaves_2 ⟨Nat.le_of_ble_eq_true rfl, Nat.le_of_ble_eq_true rfl⟩) ?_
  refine lv_istore (lv' := [(6, .int (nI (hm MI np j))), (0, .ref (ad 0)), (1, .int (nI j)), (2, .int stt), (3, .long sh), (5, .int pay)]) hx hb dX4_leaves_5 hl (by decide) rfl (fun ls hl => ?_)
  refine lv_aload_n hx hb dX4_leaves_7 rfl (lv_at hl 1 rfl) ?_
  refine gf_X4_51 hx hb hT hown hK (hP.at (hI.1 0 (by decide)) rfl) rfl dX4_leaves_8 ?_
  refine lv_iload hx hb dX4_leaves_11 (lv_at hl 0 rfl) ?_
  refine lv_dup2_11 hx hb dX4_leaves_13 rfl rfl ?_
  refine z_laldN hx hb hK (hP.at (hI.1 9 (by decide)) rfl) (Nat.lt_of_le_of_lt (hm_le hj) (Nat.lt_of_lt_of_le hj hN)) (by decide) (v := MJ 2 (hm MI np j)) (rfl) dX4_leaves_14 ?_
  refine lv_lload_n hx hb dX4_leaves_15 rfl (lv_at hl 4 rfl) ?_
  refine lv_lsub hx hb dX4_leaves_16 ?_
  refine as_9N hx hb hK hP hD hS (hI.1 9 (by decide)) (v := (MJ 2 (hm MI np j)) - sh) (Nat.lt_of_le_of_lt (hm_le hj) (Nat.lt_of_lt_of_le hj hN)) dX4_leaves_17 (fun H locs hP hS => ?_)
  refine lv_aload_n hx hb dX4_leaves_18 rfl (lv_at hl 1 rfl) ?_
  refine lv_dup hx hb dX4_leaves_19 rfl ?_
  refine gf_X4_84 hx hb hT hown hK (v := .long (MJ 0 0)) (hP.at (hI.1 0 (by decide)) rfl) rfl dX4_leaves_20 ?_
  refine lv_lload_n hx hb dX4_leaves_23 rfl (lv_at hl 4 rfl) ?_
  refine lv_iload hx hb dX4_leaves_24 (lv_at hl 5 rfl) ?_
  refine lv_i2l hx hb dX4_leaves_26 rfl ?_
  refine lv_lsub hx hb dX4_leaves_27 ?_
  refine lv_ladd hx hb dX4_leaves_28 ?_
  refine pf_X4_84 hx hb hT hown hK hP hD hS (hI.1 0 (by decide)) (v := (MJ 0 0) + (sh - (Int32.toInt64 pay))) dX4_leaves_29 (fun H locs hP hS => ?_)
  refine lv_aload_n hx hb dX4_leaves_32 rfl (lv_at hl 1 rfl) ?_
  refine lv_dup hx hb dX4_leaves_33 rfl ?_
  refine gf_X4_88 hx hb hT hown hK (v := .long (MJ 0 1)) (hP.at (hI.1 0 (by decide)) rfl) rfl dX4_leaves_34 ?_
  refine lv_iload hx hb dX4_leaves_37 (lv_at hl 5 rfl) ?_
  refine lv_i2l hx hb dX4_leaves_39 rfl ?_
  refine lv_lsub hx hb dX4_leaves_40 ?_
  refine pf_X4_88 hx hb hT hown hK hP hD hS (hI.1 0 (by decide)) (v := (MJ 0 1) - (Int32.toInt64 pay)) dX4_leaves_41 (fun H locs hP hS => ?_)
  refine lv_aload_n hx hb dX4_leaves_44 rfl (lv_at hl 1 rfl) ?_
  refine gf_X4_38 hx hb hT hown hK (v := .ref (ad 5)) (hP.at (hI.1 0 (by decide)) rfl) rfl dX4_leaves_45 ?_
  refine lv_iload_n hx hb dX4_leaves_48 rfl (lv_at hl 2 rfl) ?_
  refine lv_iload_n hx hb dX4_leaves_49 rfl (lv_at hl 3 rfl) ?_
  refine as_5N hx hb hK hP hD hS (hI.1 5 (by decide)) (v := stt) (Nat.lt_of_lt_of_le hj hN) dX4_leaves_50 (fun H locs hP hS => ?_)
  refine lv_aload_n hx hb dX4_leaves_51 rfl (lv_at hl 1 rfl) ?_
  refine gf_X4_44 hx hb hT hown hK (v := .ref (ad 7)) (hP.at (hI.1 0 (by decide)) rfl) rfl dX4_leaves_52 ?_
  refine lv_iload_n hx hb dX4_leaves_55 rfl (lv_at hl 2 rfl) ?_
  refine lv_iload hx hb dX4_leaves_56 (lv_at hl 5 rfl) ?_
  refine as_7N hx hb hK hP hD hS (hI.1 7 (by decide)) (v := pay) (Nat.lt_of_lt_of_le hj hN) dX4_leaves_58 (fun H locs hP hS => ?_)
  refine lv_aload_n hx hb dX4_leaves_59 rfl (lv_at hl 1 rfl) ?_
  refine lv_aload_n hx hb dX4_leaves_60 rfl (lv_at hl 1 rfl) ?_
  refine gf_X4_25 hx hb hT hown hK (v := .ref (ad 1)) (hP.at (hI.1 0 (by decide)) rfl) rfl dX4_leaves_61 ?_
  refine lv_iload_n hx hb dX4_leaves_64 rfl (lv_at hl 2 rfl) ?_
  refine z_ialdN hx hb hK (hP.at (hI.1 1 (by decide)) rfl) (Nat.lt_of_lt_of_le hj hN) (by decide) (v := MI 1 j) (rfl) dX4_leaves_65 ?_
  refine lv_aload_n hx hb dX4_leaves_66 rfl (lv_at hl 1 rfl) ?_
  refine gf_X4_29 hx hb hT hown hK (v := .ref (ad 2)) (hP.at (hI.1 0 (by decide)) rfl) rfl dX4_leaves_67 ?_
  refine lv_iload_n hx hb dX4_leaves_70 rfl (lv_at hl 2 rfl) ?_
  refine z_ialdN hx hb hK (hP.at (hI.1 2 (by decide)) rfl) (Nat.lt_of_lt_of_le hj hN) (by decide) (v := MI 2 j) (rfl) dX4_leaves_71 ?_
  refine z_backR1 (z_runV ⟨hx, hb, hml, hown, hT⟩ (rest := []) (As := [.int (MI 1 j), .int (MI 2 j)]) (c_X4_premiumsOf (MI := u2 (u2 MI 5 j stt) 7 j pay) (MJ := u2 (u2 (u2 MJ 2 (hm MI np j) ((MJ 2 (hm MI np j)) - sh)) 0 0 ((MJ 0 0) + (sh - (Int32.toInt64 pay)))) 0 1 ((MJ 0 1) - (Int32.toInt64 pay))) (XI := XI) (XJ := XJ) l hI (MI 1 j) (MI 2 j) (hnp) (hN)) k_X4_80 (z_preRV hK hP (hP.at (hI.1 0 (by decide)) rfl) rfl) rfl ⟨Nat.le_of_ble_eq_true rfl, Nat.le_of_ble_eq_true rfl⟩ hl.1 rfl (Nat.le_of_ble_eq_true rfl) dX4_leaves_72 ⟨Nat.le_of_ble_eq_true rfl, Nat.le_of_ble_eq_true rfl⟩) ?_
  refine lv_lconst (v := 0) hx hb dX4_leaves_75 (by decide) ?_
  refine z_lcmp_ne (tgt := 104) hx hb dX4_leaves_76 dX4_leaves_77 (by decide) (fun c_1 => ?_) (fun c_1 => ?_)
  · exact zW_v hx hb hr hlk hS (Nat.le_of_ble_eq_true rfl) (Nat.le_of_ble_eq_true rfl) dX4_leaves_104 (by rw [show lvJ (mPr (u2 (u2 MI 5 j stt) 7 j pay) np j) MJ (hm MI np j) sh pay = _ from if_neg c_1]; exact hP)
  · refine lv_aload_n hx hb dX4_leaves_80 rfl (lv_at hl 1 rfl) ?_
    refine lv_dup hx hb dX4_leaves_81 rfl ?_
    refine gf_X4_84 hx hb hT hown hK (v := .long ((MJ 0 0) + (sh - (Int32.toInt64 pay)))) (hP.at (hI.1 0 (by decide)) rfl) rfl dX4_leaves_82 ?_
    refine lv_aload_n hx hb dX4_leaves_85 rfl (lv_at hl 1 rfl) ?_
    refine gf_X4_51 hx hb hT hown hK (v := .ref (ad 9)) (hP.at (hI.1 0 (by decide)) rfl) rfl dX4_leaves_86 ?_
    refine lv_iload hx hb dX4_leaves_89 (lv_at hl 0 rfl) ?_
    refine z_laldN hx hb hK (hP.at (hI.1 9 (by decide)) rfl) (Nat.lt_of_le_of_lt (hm_le hj) (Nat.lt_of_lt_of_le hj hN)) (by decide) (v := (MJ 2 (hm MI np j)) - sh) (u2_s (F := MJ) (k := 2) (i := hm MI np j) (v := (MJ 2 (hm MI np j)) - sh)) dX4_leaves_91 ?_
    refine lv_ladd hx hb dX4_leaves_92 ?_
    refine lv_topl (fun v2 ev2 => ?_)
    refine pf_X4_84 hx hb hT hown hK hP hD hS (hI.1 0 (by decide)) (v := v2) dX4_leaves_93 (fun H locs hP hS => ?_)
    refine lv_aload_n hx hb dX4_leaves_96 rfl (lv_at hl 1 rfl) ?_
    refine gf_X4_51 hx hb hT hown hK (v := .ref (ad 9)) (hP.at (hI.1 0 (by decide)) rfl) rfl dX4_leaves_97 ?_
    refine lv_iload hx hb dX4_leaves_100 (lv_at hl 0 rfl) ?_
    refine lv_lconst (v := 0) hx hb dX4_leaves_102 (by decide) ?_
    refine as_9N hx hb hK hP hD hS (hI.1 9 (by decide)) (v := 0) (Nat.lt_of_le_of_lt (hm_le hj) (Nat.lt_of_lt_of_le hj hN)) dX4_leaves_103 (fun H locs hP hS => ?_)
    exact zW_v hx hb hr hlk hS (Nat.le_of_ble_eq_true rfl) (Nat.le_of_ble_eq_true rfl) dX4_leaves_104 (by subst ev2; rw [show lvJ (mPr (u2 (u2 MI 5 j stt) 7 j pay) np j) MJ (hm MI np j) sh pay = _ from if_pos c_1]; exact hP)
end ZW1
end
section
/-! the reference: its calls but the year -/
section ZM2
variable {D : va_G} {ks : Nat → ClassId} {ad : Nat → Nat} {np ng : Nat} {G : Nat → Nat} {MI : Nat → Nat → Int32} {MJ : Nat → Nat → Int64} {XI : Nat → Nat → Int32} {XJ : Nat → Nat → Int64} {Rs : List Nat}
set_option maxHeartbeats 4000000 in
set_option maxRecDepth 100000 in
theorem c_X4_isPolicy_ok (l : Launch) (hD0 : zD (fun _ => True) Rs ad) (hI : zIn Rs np ng) (q : Int32) (hq : fIn q 0 (MI 0 6 - 1) = 1) (sz : Nat) : zMW l yX4_isPolicy cX4_isPolicy 2 ((some .boolean)) 1 (22) 0 0 D ks sz [.ref (ad 0), .int q] (zP D Rs ad (gS ks ad np ng G MI MJ XI XJ)) (some (.int (1))) (zP D Rs ad (gS ks ad np ng G (u2 MI 0 7 0) MJ XI XJ)) (zA Rs ad sz) := by
  refine zMW.of (by decide +kernel) (Nat.le_of_ble_eq_true rfl) ?_
  intro p e s m below meth c ls hx hb hr hml hown hlk hT hsz hP hK hl hin
  have hl : lv_has ls 2 [(0, .ref (ad 0)), (1, .int q)] := hl
  subst hsz
  have hD := hD0.self (sz := s.heap.size)
  have hA : ∀ q : Nat, s.heap.size ≤ q → zA Rs ad s.heap.size q := fun q h => Or.inr h
  have hS : va_S (zA Rs ad s.heap.size) s.heap s.heap [] := va_S.rf
  refine lv_aload_n hx hb dX4_isPolicy_0 rfl (lv_at hl 0 rfl) ?_
  refine lv_iload_n hx hb dX4_isPolicy_1 rfl (lv_at hl 1 rfl) ?_
  refine lv_iconst (v := 0) hx hb dX4_isPolicy_2 (by decide) ?_
  refine lv_aload_n hx hb dX4_isPolicy_3 rfl (lv_at hl 0 rfl) ?_
  refine gf_X4_63 hx hb hT hown hK (hP.at (hI.1 0 (by decide)) rfl) rfl dX4_isPolicy_4 ?_
  refine lv_iconst (v := 1) hx hb dX4_isPolicy_7 (by decide) ?_
  refine lv_isub hx hb dX4_isPolicy_8 ?_
  refine z_backR1 (z_runS ⟨hx, hb, hml, hown, hT⟩ (rest := [.ref (ad 0)]) (As := [.int q, .int 0, .int ((MI 0 6) - 1)]) (c_X4_in l D ks q 0 ((MI 0 6) - 1) ) k_X4_66 (z_preR hK trivial) rfl ⟨Nat.le_of_ble_eq_true rfl, Nat.le_of_ble_eq_true rfl⟩ hl.1 rfl (Nat.le_of_ble_eq_true rfl) dX4_isPolicy_9 ⟨Nat.le_of_ble_eq_true rfl, Nat.le_of_ble_eq_true rfl⟩) ?_
  refine lv_if_eq (tgt := 19) hx hb dX4_isPolicy_12 (by decide) (fun c_1 => ?_) (fun c_1 => ?_)
  · exact absurd ((hq).symm.trans c_1) (by decide)
  · refine lv_iconst (v := 0) hx hb dX4_isPolicy_15 (by decide) ?_
    refine lv_goto (tgt := 20) hx hb dX4_isPolicy_16 (by decide) ?_
    refine pf_X4_60 hx hb hT hown hK hP hD hS (hI.1 0 (by decide)) (v := 0) dX4_isPolicy_20 (fun H locs hP hS => ?_)
    refine lv_aload_n hx hb dX4_isPolicy_23 rfl (lv_at hl 0 rfl) ?_
    refine gf_X4_60 hx hb hT hown hK (v := .int 0) (hP.at (hI.1 0 (by decide)) rfl) rfl dX4_isPolicy_24 ?_
    refine lv_if_ne (tgt := 34) hx hb dX4_isPolicy_27 (by decide) (fun c_2 => ?_) (fun c_2 => ?_)
    · exact absurd c_2 (by decide)
    · refine lv_iconst (v := 1) hx hb dX4_isPolicy_30 (by decide) ?_
      refine lv_goto (tgt := 35) hx hb dX4_isPolicy_31 (by decide) ?_
      exact zW_z hx hb hr hlk hS (Nat.le_of_ble_eq_true rfl) (Nat.le_of_ble_eq_true rfl) dX4_isPolicy_35 (rfl) (rfl) (hP)
set_option maxHeartbeats 4000000 in
set_option maxRecDepth 100000 in
theorem c_X4_isPolicy_bad (l : Launch) (hD0 : zD (fun _ => True) Rs ad) (hI : zIn Rs np ng) (q : Int32) (hq : fIn q 0 (MI 0 6 - 1) = 0) (sz : Nat) : zMW l yX4_isPolicy cX4_isPolicy 2 ((some .boolean)) 1 (22) 0 0 D ks sz [.ref (ad 0), .int q] (zP D Rs ad (gS ks ad np ng G MI MJ XI XJ)) (some (.int (0))) (zP D Rs ad (gS ks ad np ng G (u2 MI 0 7 1) MJ XI XJ)) (zA Rs ad sz) := by
  refine zMW.of (by decide +kernel) (Nat.le_of_ble_eq_true rfl) ?_
  intro p e s m below meth c ls hx hb hr hml hown hlk hT hsz hP hK hl hin
  have hl : lv_has ls 2 [(0, .ref (ad 0)), (1, .int q)] := hl
  subst hsz
  have hD := hD0.self (sz := s.heap.size)
  have hA : ∀ q : Nat, s.heap.size ≤ q → zA Rs ad s.heap.size q := fun q h => Or.inr h
  have hS : va_S (zA Rs ad s.heap.size) s.heap s.heap [] := va_S.rf
  refine lv_aload_n hx hb dX4_isPolicy_0 rfl (lv_at hl 0 rfl) ?_
  refine lv_iload_n hx hb dX4_isPolicy_1 rfl (lv_at hl 1 rfl) ?_
  refine lv_iconst (v := 0) hx hb dX4_isPolicy_2 (by decide) ?_
  refine lv_aload_n hx hb dX4_isPolicy_3 rfl (lv_at hl 0 rfl) ?_
  refine gf_X4_63 hx hb hT hown hK (hP.at (hI.1 0 (by decide)) rfl) rfl dX4_isPolicy_4 ?_
  refine lv_iconst (v := 1) hx hb dX4_isPolicy_7 (by decide) ?_
  refine lv_isub hx hb dX4_isPolicy_8 ?_
  refine z_backR1 (z_runS ⟨hx, hb, hml, hown, hT⟩ (rest := [.ref (ad 0)]) (As := [.int q, .int 0, .int ((MI 0 6) - 1)]) (c_X4_in l D ks q 0 ((MI 0 6) - 1) ) k_X4_66 (z_preR hK trivial) rfl ⟨Nat.le_of_ble_eq_true rfl, Nat.le_of_ble_eq_true rfl⟩ hl.1 rfl (Nat.le_of_ble_eq_true rfl) dX4_isPolicy_9 ⟨Nat.le_of_ble_eq_true rfl, Nat.le_of_ble_eq_true rfl⟩) ?_
  refine lv_if_eq (tgt := 19) hx hb dX4_isPolicy_12 (by decide) (fun c_1 => ?_) (fun c_1 => ?_)
  · refine lv_iconst (v := 1) hx hb dX4_isPolicy_19 (by decide) ?_
    refine pf_X4_60 hx hb hT hown hK hP hD hS (hI.1 0 (by decide)) (v := 1) dX4_isPolicy_20 (fun H locs hP hS => ?_)
    refine lv_aload_n hx hb dX4_isPolicy_23 rfl (lv_at hl 0 rfl) ?_
    refine gf_X4_60 hx hb hT hown hK (v := .int 1) (hP.at (hI.1 0 (by decide)) rfl) rfl dX4_isPolicy_24 ?_
    refine lv_if_ne (tgt := 34) hx hb dX4_isPolicy_27 (by decide) (fun c_2 => ?_) (fun c_2 => ?_)
    · refine lv_iconst (v := 0) hx hb dX4_isPolicy_34 (by decide) ?_
      exact zW_z hx hb hr hlk hS (Nat.le_of_ble_eq_true rfl) (Nat.le_of_ble_eq_true rfl) dX4_isPolicy_35 (rfl) (rfl) (hP)
    · exact absurd c_2 (by decide)
  · exact absurd (hq) c_1
theorem isP_j {np j : Nat} {x : Int32} (hx : x = nI np) (hj : j < np) (hN : np ≤ 30) : fIn (nI j) 0 (x - 1) = 1 := by
  subst hx
  obtain ⟨k, rfl⟩ : ∃ k, np = k + 1 := ⟨np - 1, by omega⟩
  rw [nI_pred]
  exact if_pos ⟨nI_pos' (by omega), nI_le (by omega) (by omega)⟩
set_option maxHeartbeats 4000000 in
set_option maxRecDepth 100000 in
theorem c_X4_stateOf_ok (l : Launch) (hD0 : zD (fun _ => True) Rs ad) (hI : zIn Rs np ng) (j : Nat) (hj : j < np) (hnp : MI 0 6 = nI np) (hN : np ≤ 30) (sz : Nat) : zMW l yX4_stateOf cX4_stateOf 2 ((some .int)) 2 (43) 0 0 D ks sz [.ref (ad 0), .int (nI j)] (zP D Rs ad (gS ks ad np ng G MI MJ XI XJ)) (some (.int (MI 5 j))) (zP D Rs ad (gS ks ad np ng G (u2 MI 0 7 0) MJ XI XJ)) (zA Rs ad sz) := by
  refine zMW.of (by decide +kernel) (Nat.le_of_ble_eq_true rfl) ?_
  intro p e s m below meth c ls hx hb hr hml hown hlk hT hsz hP hK hl hin
  have hl : lv_has ls 2 [(0, .ref (ad 0)), (1, .int (nI j))] := hl
  subst hsz
  have hD := hD0.self (sz := s.heap.size)
  have hA : ∀ q : Nat, s.heap.size ≤ q → zA Rs ad s.heap.size q := fun q h => Or.inr h
  have hS : va_S (zA Rs ad s.heap.size) s.heap s.heap [] := va_S.rf
  refine lv_aload_n hx hb dX4_stateOf_0 rfl (lv_at hl 0 rfl) ?_
  refine lv_iload_n hx hb dX4_stateOf_1 rfl (lv_at hl 1 rfl) ?_
  refine z_backW1 (z_runV ⟨hx, hb, hml, hown, hT⟩ (rest := []) (As := [.int (nI j)]) (c_X4_isPolicy_ok (MI := MI) (MJ := MJ) (XI := XI) (XJ := XJ) l hD0 hI (nI j) (isP_j hnp hj hN) _) k_X4_107 (z_preWV hK hP (hP.at (hI.1 0 (by decide)) rfl) rfl) rfl ⟨Nat.le_of_ble_eq_true rfl, Nat.le_of_ble_eq_true rfl⟩ hl.1 rfl (Nat.le_of_ble_eq_true rfl) dX4_stateOf_2 ⟨Nat.le_of_ble_eq_true rfl, Nat.le_of_ble_eq_true rfl⟩) hS (hD.free (fun q hq => hA q (Nat.le_trans hS.1 hq))) (fun H locs hP hz1 hk1 hS => ?_)
  have hP : zP D Rs ad (gS ks ad np ng G (u2 MI 0 7 0) MJ XI XJ) H := hP
  refine lv_if_eq (tgt := 17) hx hb dX4_stateOf_5 (by decide) (fun c_1 => ?_) (fun c_1 => ?_)
  · exact absurd ((rfl).symm.trans c_1) (by decide)
  · refine lv_aload_n hx hb dX4_stateOf_8 rfl (lv_at hl 0 rfl) ?_
    refine gf_X4_38 hx hb hT hown hK (v := .ref (ad 5)) (hP.at (hI.1 0 (by decide)) rfl) rfl dX4_stateOf_9 ?_
    refine lv_iload_n hx hb dX4_stateOf_12 rfl (lv_at hl 1 rfl) ?_
    refine z_ialdN hx hb hK (hP.at (hI.1 5 (by decide)) rfl) (Nat.lt_of_lt_of_le hj hN) (by decide) (v := MI 5 j) (rfl) dX4_stateOf_13 ?_
    refine lv_goto (tgt := 18) hx hb dX4_stateOf_14 (by decide) ?_
    exact zW_i hx hb hr hlk hS (Nat.le_of_ble_eq_true rfl) (Nat.le_of_ble_eq_true rfl) dX4_stateOf_18 (rfl) (hP)
set_option maxHeartbeats 4000000 in
set_option maxRecDepth 100000 in
theorem c_X4_stateOf_bad (l : Launch) (hD0 : zD (fun _ => True) Rs ad) (hI : zIn Rs np ng) (q : Int32) (hq : fIn q 0 (MI 0 6 - 1) = 0) (sz : Nat) : zMW l yX4_stateOf cX4_stateOf 2 ((some .int)) 2 (43) 0 0 D ks sz [.ref (ad 0), .int q] (zP D Rs ad (gS ks ad np ng G MI MJ XI XJ)) (some (.int (0))) (zP D Rs ad (gS ks ad np ng G (u2 MI 0 7 1) MJ XI XJ)) (zA Rs ad sz) := by
  refine zMW.of (by decide +kernel) (Nat.le_of_ble_eq_true rfl) ?_
  intro p e s m below meth c ls hx hb hr hml hown hlk hT hsz hP hK hl hin
  have hl : lv_has ls 2 [(0, .ref (ad 0)), (1, .int q)] := hl
  subst hsz
  have hD := hD0.self (sz := s.heap.size)
  have hA : ∀ q : Nat, s.heap.size ≤ q → zA Rs ad s.heap.size q := fun q h => Or.inr h
  have hS : va_S (zA Rs ad s.heap.size) s.heap s.heap [] := va_S.rf
  refine lv_aload_n hx hb dX4_stateOf_0 rfl (lv_at hl 0 rfl) ?_
  refine lv_iload_n hx hb dX4_stateOf_1 rfl (lv_at hl 1 rfl) ?_
  refine z_backW1 (z_runV ⟨hx, hb, hml, hown, hT⟩ (rest := []) (As := [.int q]) (c_X4_isPolicy_bad (MI := MI) (MJ := MJ) (XI := XI) (XJ := XJ) l hD0 hI q (hq) _) k_X4_107 (z_preWV hK hP (hP.at (hI.1 0 (by decide)) rfl) rfl) rfl ⟨Nat.le_of_ble_eq_true rfl, Nat.le_of_ble_eq_true rfl⟩ hl.1 rfl (Nat.le_of_ble_eq_true rfl) dX4_stateOf_2 ⟨Nat.le_of_ble_eq_true rfl, Nat.le_of_ble_eq_true rfl⟩) hS (hD.free (fun q hq => hA q (Nat.le_trans hS.1 hq))) (fun H locs hP hz1 hk1 hS => ?_)
  have hP : zP D Rs ad (gS ks ad np ng G (u2 MI 0 7 1) MJ XI XJ) H := hP
  refine lv_if_eq (tgt := 17) hx hb dX4_stateOf_5 (by decide) (fun c_1 => ?_) (fun c_1 => ?_)
  · refine lv_iconst (v := 0) hx hb dX4_stateOf_17 (by decide) ?_
    exact zW_i hx hb hr hlk hS (Nat.le_of_ble_eq_true rfl) (Nat.le_of_ble_eq_true rfl) dX4_stateOf_18 (rfl) (hP)
  · exact absurd c_1 (by decide)
set_option maxHeartbeats 4000000 in
set_option maxRecDepth 100000 in
theorem c_X4_bonuses_ok (l : Launch) (hD0 : zD (fun _ => True) Rs ad) (hI : zIn Rs np ng) (j : Nat) (hj : j < np) (hnp : MI 0 6 = nI np) (hN : np ≤ 30) (sz : Nat) : zMW l yX4_bonuses cX4_bonuses 2 ((some .int)) 2 (43) 0 0 D ks sz [.ref (ad 0), .int (nI j)] (zP D Rs ad (gS ks ad np ng G MI MJ XI XJ)) (some (.int (MI 6 j))) (zP D Rs ad (gS ks ad np ng G (u2 MI 0 7 0) MJ XI XJ)) (zA Rs ad sz) := by
  refine zMW.of (by decide +kernel) (Nat.le_of_ble_eq_true rfl) ?_
  intro p e s m below meth c ls hx hb hr hml hown hlk hT hsz hP hK hl hin
  have hl : lv_has ls 2 [(0, .ref (ad 0)), (1, .int (nI j))] := hl
  subst hsz
  have hD := hD0.self (sz := s.heap.size)
  have hA : ∀ q : Nat, s.heap.size ≤ q → zA Rs ad s.heap.size q := fun q h => Or.inr h
  have hS : va_S (zA Rs ad s.heap.size) s.heap s.heap [] := va_S.rf
  refine lv_aload_n hx hb dX4_bonuses_0 rfl (lv_at hl 0 rfl) ?_
  refine lv_iload_n hx hb dX4_bonuses_1 rfl (lv_at hl 1 rfl) ?_
  refine z_backW1 (z_runV ⟨hx, hb, hml, hown, hT⟩ (rest := []) (As := [.int (nI j)]) (c_X4_isPolicy_ok (MI := MI) (MJ := MJ) (XI := XI) (XJ := XJ) l hD0 hI (nI j) (isP_j hnp hj hN) _) k_X4_107 (z_preWV hK hP (hP.at (hI.1 0 (by decide)) rfl) rfl) rfl ⟨Nat.le_of_ble_eq_true rfl, Nat.le_of_ble_eq_true rfl⟩ hl.1 rfl (Nat.le_of_ble_eq_true rfl) dX4_bonuses_2 ⟨Nat.le_of_ble_eq_true rfl, Nat.le_of_ble_eq_true rfl⟩) hS (hD.free (fun q hq => hA q (Nat.le_trans hS.1 hq))) (fun H locs hP hz1 hk1 hS => ?_)
  have hP : zP D Rs ad (gS ks ad np ng G (u2 MI 0 7 0) MJ XI XJ) H := hP
  refine lv_if_eq (tgt := 17) hx hb dX4_bonuses_5 (by decide) (fun c_1 => ?_) (fun c_1 => ?_)
  · exact absurd ((rfl).symm.trans c_1) (by decide)
  · refine lv_aload_n hx hb dX4_bonuses_8 rfl (lv_at hl 0 rfl) ?_
    refine gf_X4_41 hx hb hT hown hK (v := .ref (ad 6)) (hP.at (hI.1 0 (by decide)) rfl) rfl dX4_bonuses_9 ?_
    refine lv_iload_n hx hb dX4_bonuses_12 rfl (lv_at hl 1 rfl) ?_
    refine z_ialdN hx hb hK (hP.at (hI.1 6 (by decide)) rfl) (Nat.lt_of_lt_of_le hj hN) (by decide) (v := MI 6 j) (rfl) dX4_bonuses_13 ?_
    refine lv_goto (tgt := 18) hx hb dX4_bonuses_14 (by decide) ?_
    exact zW_i hx hb hr hlk hS (Nat.le_of_ble_eq_true rfl) (Nat.le_of_ble_eq_true rfl) dX4_bonuses_18 (rfl) (hP)
set_option maxHeartbeats 4000000 in
set_option maxRecDepth 100000 in
theorem c_X4_bonuses_bad (l : Launch) (hD0 : zD (fun _ => True) Rs ad) (hI : zIn Rs np ng) (q : Int32) (hq : fIn q 0 (MI 0 6 - 1) = 0) (sz : Nat) : zMW l yX4_bonuses cX4_bonuses 2 ((some .int)) 2 (43) 0 0 D ks sz [.ref (ad 0), .int q] (zP D Rs ad (gS ks ad np ng G MI MJ XI XJ)) (some (.int (0))) (zP D Rs ad (gS ks ad np ng G (u2 MI 0 7 1) MJ XI XJ)) (zA Rs ad sz) := by
  refine zMW.of (by decide +kernel) (Nat.le_of_ble_eq_true rfl) ?_
  intro p e s m below meth c ls hx hb hr hml hown hlk hT hsz hP hK hl hin
  have hl : lv_has ls 2 [(0, .ref (ad 0)), (1, .int q)] := hl
  subst hsz
  have hD := hD0.self (sz := s.heap.size)
  have hA : ∀ q : Nat, s.heap.size ≤ q → zA Rs ad s.heap.size q := fun q h => Or.inr h
  have hS : va_S (zA Rs ad s.heap.size) s.heap s.heap [] := va_S.rf
  refine lv_aload_n hx hb dX4_bonuses_0 rfl (lv_at hl 0 rfl) ?_
  refine lv_iload_n hx hb dX4_bonuses_1 rfl (lv_at hl 1 rfl) ?_
  refine z_backW1 (z_runV ⟨hx, hb, hml, hown, hT⟩ (rest := []) (As := [.int q]) (c_X4_isPolicy_bad (MI := MI) (MJ := MJ) (XI := XI) (XJ := XJ) l hD0 hI q (hq) _) k_X4_107 (z_preWV hK hP (hP.at (hI.1 0 (by decide)) rfl) rfl) rfl ⟨Nat.le_of_ble_eq_true rfl, Nat.le_of_ble_eq_true rfl⟩ hl.1 rfl (Nat.le_of_ble_eq_true rfl) dX4_bonuses_2 ⟨Nat.le_of_ble_eq_true rfl, Nat.le_of_ble_eq_true rfl⟩) hS (hD.free (fun q hq => hA q (Nat.le_trans hS.1 hq))) (fun H locs hP hz1 hk1 hS => ?_)
  have hP : zP D Rs ad (gS ks ad np ng G (u2 MI 0 7 1) MJ XI XJ) H := hP
  refine lv_if_eq (tgt := 17) hx hb dX4_bonuses_5 (by decide) (fun c_1 => ?_) (fun c_1 => ?_)
  · refine lv_iconst (v := 0) hx hb dX4_bonuses_17 (by decide) ?_
    exact zW_i hx hb hr hlk hS (Nat.le_of_ble_eq_true rfl) (Nat.le_of_ble_eq_true rfl) dX4_bonuses_18 (rfl) (hP)
  · exact absurd c_1 (by decide)
set_option maxHeartbeats 4000000 in
set_option maxRecDepth 100000 in
theorem c_X4_shareOf_ok (l : Launch) (hD0 : zD (fun _ => True) Rs ad) (hI : zIn Rs np ng) (j : Nat) (hj : j < np) (hnp : MI 0 6 = nI np) (hN : np ≤ 30) (hd : MI 5 j = 0 → ¬ mPr MI np j = 0) (sz : Nat) : zMW l yX4_shareOf cX4_shareOf 2 ((some .int)) 3 (66) 0 0 D ks sz [.ref (ad 0), .int (nI j)] (zP D Rs ad (gS ks ad np ng G MI MJ XI XJ)) (some (.int (Int64.toInt32 (mShare MI MJ np j)))) (zP D Rs ad (gS ks ad np ng G (u2 MI 0 7 0) MJ XI XJ)) (zA Rs ad sz) := by
  refine zMW.of (by decide +kernel) (Nat.le_of_ble_eq_true rfl) ?_
  intro p e s m below meth c ls hx hb hr hml hown hlk hT hsz hP hK hl hin
  have hl : lv_has ls 2 [(0, .ref (ad 0)), (1, .int (nI j))] := hl
  subst hsz
  have hD := hD0.self (sz := s.heap.size)
  have hA : ∀ q : Nat, s.heap.size ≤ q → zA Rs ad s.heap.size q := fun q h => Or.inr h
  have hS : va_S (zA Rs ad s.heap.size) s.heap s.heap [] := va_S.rf
  refine lv_aload_n hx hb dX4_shareOf_0 rfl (lv_at hl 0 rfl) ?_
  refine lv_iload_n hx hb dX4_shareOf_1 rfl (lv_at hl 1 rfl) ?_
  refine z_backW1 (z_runV ⟨hx, hb, hml, hown, hT⟩ (rest := []) (As := [.int (nI j)]) (c_X4_isPolicy_ok (MI := MI) (MJ := MJ) (XI := XI) (XJ := XJ) l hD0 hI (nI j) (isP_j hnp hj hN) _) k_X4_107 (z_preWV hK hP (hP.at (hI.1 0 (by decide)) rfl) rfl) rfl ⟨Nat.le_of_ble_eq_true rfl, Nat.le_of_ble_eq_true rfl⟩ hl.1 rfl (Nat.le_of_ble_eq_true rfl) dX4_shareOf_2 ⟨Nat.le_of_ble_eq_true rfl, Nat.le_of_ble_eq_true rfl⟩) hS (hD.free (fun q hq => hA q (Nat.le_trans hS.1 hq))) (fun H locs hP hz1 hk1 hS => ?_)
  have hP : zP D Rs ad (gS ks ad np ng G (u2 MI 0 7 0) MJ XI XJ) H := hP
  refine lv_if_eq (tgt := 17) hx hb dX4_shareOf_5 (by decide) (fun c_1 => ?_) (fun c_1 => ?_)
  · exact absurd ((rfl).symm.trans c_1) (by decide)
  · refine lv_aload_n hx hb dX4_shareOf_8 rfl (lv_at hl 0 rfl) ?_
    refine lv_iload_n hx hb dX4_shareOf_9 rfl (lv_at hl 1 rfl) ?_
    refine z_backR1 (z_runV ⟨hx, hb, hml, hown, hT⟩ (rest := []) (As := [.int (nI j)]) (c_X4_share (MI := u2 MI 0 7 0) (MJ := MJ) (XI := XI) (XJ := XJ) l hI j (hj) (hnp) (hN) (hd)) k_X4_95 (z_preRV hK hP (hP.at (hI.1 0 (by decide)) rfl) rfl) rfl ⟨Nat.le_of_ble_eq_true rfl, Nat.le_of_ble_eq_true rfl⟩ hl.1 rfl (Nat.le_of_ble_eq_true rfl) dX4_shareOf_10 ⟨Nat.le_of_ble_eq_true rfl, Nat.le_of_ble_eq_true rfl⟩) ?_
    refine lv_l2i hx hb dX4_shareOf_13 rfl ?_
    refine lv_goto (tgt := 18) hx hb dX4_shareOf_14 (by decide) ?_
    exact zW_i hx hb hr hlk hS (Nat.le_of_ble_eq_true rfl) (Nat.le_of_ble_eq_true rfl) dX4_shareOf_18 (rfl) (hP)
set_option maxHeartbeats 4000000 in
set_option maxRecDepth 100000 in
theorem c_X4_shareOf_bad (l : Launch) (hD0 : zD (fun _ => True) Rs ad) (hI : zIn Rs np ng) (q : Int32) (hq : fIn q 0 (MI 0 6 - 1) = 0) (sz : Nat) : zMW l yX4_shareOf cX4_shareOf 2 ((some .int)) 2 (43) 0 0 D ks sz [.ref (ad 0), .int q] (zP D Rs ad (gS ks ad np ng G MI MJ XI XJ)) (some (.int (0))) (zP D Rs ad (gS ks ad np ng G (u2 MI 0 7 1) MJ XI XJ)) (zA Rs ad sz) := by
  refine zMW.of (by decide +kernel) (Nat.le_of_ble_eq_true rfl) ?_
  intro p e s m below meth c ls hx hb hr hml hown hlk hT hsz hP hK hl hin
  have hl : lv_has ls 2 [(0, .ref (ad 0)), (1, .int q)] := hl
  subst hsz
  have hD := hD0.self (sz := s.heap.size)
  have hA : ∀ q : Nat, s.heap.size ≤ q → zA Rs ad s.heap.size q := fun q h => Or.inr h
  have hS : va_S (zA Rs ad s.heap.size) s.heap s.heap [] := va_S.rf
  refine lv_aload_n hx hb dX4_shareOf_0 rfl (lv_at hl 0 rfl) ?_
  refine lv_iload_n hx hb dX4_shareOf_1 rfl (lv_at hl 1 rfl) ?_
  refine z_backW1 (z_runV ⟨hx, hb, hml, hown, hT⟩ (rest := []) (As := [.int q]) (c_X4_isPolicy_bad (MI := MI) (MJ := MJ) (XI := XI) (XJ := XJ) l hD0 hI q (hq) _) k_X4_107 (z_preWV hK hP (hP.at (hI.1 0 (by decide)) rfl) rfl) rfl ⟨Nat.le_of_ble_eq_true rfl, Nat.le_of_ble_eq_true rfl⟩ hl.1 rfl (Nat.le_of_ble_eq_true rfl) dX4_shareOf_2 ⟨Nat.le_of_ble_eq_true rfl, Nat.le_of_ble_eq_true rfl⟩) hS (hD.free (fun q hq => hA q (Nat.le_trans hS.1 hq))) (fun H locs hP hz1 hk1 hS => ?_)
  have hP : zP D Rs ad (gS ks ad np ng G (u2 MI 0 7 1) MJ XI XJ) H := hP
  refine lv_if_eq (tgt := 17) hx hb dX4_shareOf_5 (by decide) (fun c_1 => ?_) (fun c_1 => ?_)
  · refine lv_iconst (v := 0) hx hb dX4_shareOf_17 (by decide) ?_
    exact zW_i hx hb hr hlk hS (Nat.le_of_ble_eq_true rfl) (Nat.le_of_ble_eq_true rfl) dX4_shareOf_18 (rfl) (hP)
  · exact absurd c_1 (by decide)
set_option maxHeartbeats 4000000 in
set_option maxRecDepth 100000 in
theorem c_X4_shareAlone_ok (l : Launch) (hD0 : zD (fun _ => True) Rs ad) (hI : zIn Rs np ng) (j : Nat) (hj : j < np) (hnp : MI 0 6 = nI np) (hN : np ≤ 30) (sz : Nat) : zMW l yX4_shareAlone cX4_shareAlone 2 ((some .int)) 2 (43) 0 0 D ks sz [.ref (ad 0), .int (nI j)] (zP D Rs ad (gS ks ad np ng G MI MJ XI XJ)) (some (.int (if MI 5 j = 0 then Int64.toInt32 (MJ 1 j) else 0))) (zP D Rs ad (gS ks ad np ng G (u2 MI 0 7 0) MJ XI XJ)) (zA Rs ad sz) := by
  refine zMW.of (by decide +kernel) (Nat.le_of_ble_eq_true rfl) ?_
  intro p e s m below meth c ls hx hb hr hml hown hlk hT hsz hP hK hl hin
  have hl : lv_has ls 2 [(0, .ref (ad 0)), (1, .int (nI j))] := hl
  subst hsz
  have hD := hD0.self (sz := s.heap.size)
  have hA : ∀ q : Nat, s.heap.size ≤ q → zA Rs ad s.heap.size q := fun q h => Or.inr h
  have hS : va_S (zA Rs ad s.heap.size) s.heap s.heap [] := va_S.rf
  refine lv_aload_n hx hb dX4_shareAlone_0 rfl (lv_at hl 0 rfl) ?_
  refine lv_iload_n hx hb dX4_shareAlone_1 rfl (lv_at hl 1 rfl) ?_
  refine z_backW1 (z_runV ⟨hx, hb, hml, hown, hT⟩ (rest := []) (As := [.int (nI j)]) (c_X4_isPolicy_ok (MI := MI) (MJ := MJ) (XI := XI) (XJ := XJ) l hD0 hI (nI j) (isP_j hnp hj hN) _) k_X4_107 (z_preWV hK hP (hP.at (hI.1 0 (by decide)) rfl) rfl) rfl ⟨Nat.le_of_ble_eq_true rfl, Nat.le_of_ble_eq_true rfl⟩ hl.1 rfl (Nat.le_of_ble_eq_true rfl) dX4_shareAlone_2 ⟨Nat.le_of_ble_eq_true rfl, Nat.le_of_ble_eq_true rfl⟩) hS (hD.free (fun q hq => hA q (Nat.le_trans hS.1 hq))) (fun H locs hP hz1 hk1 hS => ?_)
  have hP : zP D Rs ad (gS ks ad np ng G (u2 MI 0 7 0) MJ XI XJ) H := hP
  refine lv_if_eq (tgt := 27) hx hb dX4_shareAlone_5 (by decide) (fun c_1 => ?_) (fun c_1 => ?_)
  · exact absurd ((rfl).symm.trans c_1) (by decide)
  · refine lv_aload_n hx hb dX4_shareAlone_8 rfl (lv_at hl 0 rfl) ?_
    refine gf_X4_38 hx hb hT hown hK (v := .ref (ad 5)) (hP.at (hI.1 0 (by decide)) rfl) rfl dX4_shareAlone_9 ?_
    refine lv_iload_n hx hb dX4_shareAlone_12 rfl (lv_at hl 1 rfl) ?_
    refine z_ialdN hx hb hK (hP.at (hI.1 5 (by decide)) rfl) (Nat.lt_of_lt_of_le hj hN) (by decide) (v := MI 5 j) (rfl) dX4_shareAlone_13 ?_
    refine lv_if_ne (tgt := 27) hx hb dX4_shareAlone_14 (by decide) (fun c_2 => ?_) (fun c_2 => ?_)
    · refine lv_iconst (v := 0) hx hb dX4_shareAlone_27 (by decide) ?_
      exact zW_i hx hb hr hlk hS (Nat.le_of_ble_eq_true rfl) (Nat.le_of_ble_eq_true rfl) dX4_shareAlone_28 ((if_neg c_2).symm) (hP)
    · refine lv_aload_n hx hb dX4_shareAlone_17 rfl (lv_at hl 0 rfl) ?_
      refine gf_X4_47 hx hb hT hown hK (v := .ref (ad 8)) (hP.at (hI.1 0 (by decide)) rfl) rfl dX4_shareAlone_18 ?_
      refine lv_iload_n hx hb dX4_shareAlone_21 rfl (lv_at hl 1 rfl) ?_
      refine z_laldN hx hb hK (hP.at (hI.1 8 (by decide)) rfl) (Nat.lt_of_lt_of_le hj hN) (by decide) (v := MJ 1 j) (rfl) dX4_shareAlone_22 ?_
      refine lv_l2i hx hb dX4_shareAlone_23 rfl ?_
      refine lv_goto (tgt := 28) hx hb dX4_shareAlone_24 (by decide) ?_
      exact zW_i hx hb hr hlk hS (Nat.le_of_ble_eq_true rfl) (Nat.le_of_ble_eq_true rfl) dX4_shareAlone_28 ((if_pos c_2).symm) (hP)
set_option maxHeartbeats 4000000 in
set_option maxRecDepth 100000 in
theorem c_X4_shareAlone_bad (l : Launch) (hD0 : zD (fun _ => True) Rs ad) (hI : zIn Rs np ng) (q : Int32) (hq : fIn q 0 (MI 0 6 - 1) = 0) (sz : Nat) : zMW l yX4_shareAlone cX4_shareAlone 2 ((some .int)) 2 (43) 0 0 D ks sz [.ref (ad 0), .int q] (zP D Rs ad (gS ks ad np ng G MI MJ XI XJ)) (some (.int (0))) (zP D Rs ad (gS ks ad np ng G (u2 MI 0 7 1) MJ XI XJ)) (zA Rs ad sz) := by
  refine zMW.of (by decide +kernel) (Nat.le_of_ble_eq_true rfl) ?_
  intro p e s m below meth c ls hx hb hr hml hown hlk hT hsz hP hK hl hin
  have hl : lv_has ls 2 [(0, .ref (ad 0)), (1, .int q)] := hl
  subst hsz
  have hD := hD0.self (sz := s.heap.size)
  have hA : ∀ q : Nat, s.heap.size ≤ q → zA Rs ad s.heap.size q := fun q h => Or.inr h
  have hS : va_S (zA Rs ad s.heap.size) s.heap s.heap [] := va_S.rf
  refine lv_aload_n hx hb dX4_shareAlone_0 rfl (lv_at hl 0 rfl) ?_
  refine lv_iload_n hx hb dX4_shareAlone_1 rfl (lv_at hl 1 rfl) ?_
  refine z_backW1 (z_runV ⟨hx, hb, hml, hown, hT⟩ (rest := []) (As := [.int q]) (c_X4_isPolicy_bad (MI := MI) (MJ := MJ) (XI := XI) (XJ := XJ) l hD0 hI q (hq) _) k_X4_107 (z_preWV hK hP (hP.at (hI.1 0 (by decide)) rfl) rfl) rfl ⟨Nat.le_of_ble_eq_true rfl, Nat.le_of_ble_eq_true rfl⟩ hl.1 rfl (Nat.le_of_ble_eq_true rfl) dX4_shareAlone_2 ⟨Nat.le_of_ble_eq_true rfl, Nat.le_of_ble_eq_true rfl⟩) hS (hD.free (fun q hq => hA q (Nat.le_trans hS.1 hq))) (fun H locs hP hz1 hk1 hS => ?_)
  have hP : zP D Rs ad (gS ks ad np ng G (u2 MI 0 7 1) MJ XI XJ) H := hP
  refine lv_if_eq (tgt := 27) hx hb dX4_shareAlone_5 (by decide) (fun c_1 => ?_) (fun c_1 => ?_)
  · refine lv_iconst (v := 0) hx hb dX4_shareAlone_27 (by decide) ?_
    exact zW_i hx hb hr hlk hS (Nat.le_of_ble_eq_true rfl) (Nat.le_of_ble_eq_true rfl) dX4_shareAlone_28 (rfl) (hP)
  · exact absurd c_1 (by decide)
set_option maxHeartbeats 4000000 in
set_option maxRecDepth 100000 in
theorem c_X4_paid_ok (l : Launch) (hD0 : zD (fun _ => True) Rs ad) (hI : zIn Rs np ng) (j : Nat) (hj : j < np) (hnp : MI 0 6 = nI np) (hN : np ≤ 30) (sz : Nat) : zMW l yX4_paid cX4_paid 2 ((some .int)) 2 (43) 0 0 D ks sz [.ref (ad 0), .int (nI j)] (zP D Rs ad (gS ks ad np ng G MI MJ XI XJ)) (some (.int (if MI 5 j = 0 then -1 else MI 7 j))) (zP D Rs ad (gS ks ad np ng G (u2 MI 0 7 0) MJ XI XJ)) (zA Rs ad sz) := by
  refine zMW.of (by decide +kernel) (Nat.le_of_ble_eq_true rfl) ?_
  intro p e s m below meth c ls hx hb hr hml hown hlk hT hsz hP hK hl hin
  have hl : lv_has ls 2 [(0, .ref (ad 0)), (1, .int (nI j))] := hl
  subst hsz
  have hD := hD0.self (sz := s.heap.size)
  have hA : ∀ q : Nat, s.heap.size ≤ q → zA Rs ad s.heap.size q := fun q h => Or.inr h
  have hS : va_S (zA Rs ad s.heap.size) s.heap s.heap [] := va_S.rf
  refine lv_aload_n hx hb dX4_paid_0 rfl (lv_at hl 0 rfl) ?_
  refine lv_iload_n hx hb dX4_paid_1 rfl (lv_at hl 1 rfl) ?_
  refine z_backW1 (z_runV ⟨hx, hb, hml, hown, hT⟩ (rest := []) (As := [.int (nI j)]) (c_X4_isPolicy_ok (MI := MI) (MJ := MJ) (XI := XI) (XJ := XJ) l hD0 hI (nI j) (isP_j hnp hj hN) _) k_X4_107 (z_preWV hK hP (hP.at (hI.1 0 (by decide)) rfl) rfl) rfl ⟨Nat.le_of_ble_eq_true rfl, Nat.le_of_ble_eq_true rfl⟩ hl.1 rfl (Nat.le_of_ble_eq_true rfl) dX4_paid_2 ⟨Nat.le_of_ble_eq_true rfl, Nat.le_of_ble_eq_true rfl⟩) hS (hD.free (fun q hq => hA q (Nat.le_trans hS.1 hq))) (fun H locs hP hz1 hk1 hS => ?_)
  have hP : zP D Rs ad (gS ks ad np ng G (u2 MI 0 7 0) MJ XI XJ) H := hP
  refine lv_if_ne (tgt := 12) hx hb dX4_paid_5 (by decide) (fun c_1 => ?_) (fun c_1 => ?_)
  · refine lv_aload_n hx hb dX4_paid_12 rfl (lv_at hl 0 rfl) ?_
    refine gf_X4_38 hx hb hT hown hK (v := .ref (ad 5)) (hP.at (hI.1 0 (by decide)) rfl) rfl dX4_paid_13 ?_
    refine lv_iload_n hx hb dX4_paid_16 rfl (lv_at hl 1 rfl) ?_
    refine z_ialdN hx hb hK (hP.at (hI.1 5 (by decide)) rfl) (Nat.lt_of_lt_of_le hj hN) (by decide) (v := MI 5 j) (rfl) dX4_paid_17 ?_
    refine lv_if_ne (tgt := 25) hx hb dX4_paid_18 (by decide) (fun c_2 => ?_) (fun c_2 => ?_)
    · refine lv_aload_n hx hb dX4_paid_25 rfl (lv_at hl 0 rfl) ?_
      refine gf_X4_44 hx hb hT hown hK (v := .ref (ad 7)) (hP.at (hI.1 0 (by decide)) rfl) rfl dX4_paid_26 ?_
      refine lv_iload_n hx hb dX4_paid_29 rfl (lv_at hl 1 rfl) ?_
      refine z_ialdN hx hb hK (hP.at (hI.1 7 (by decide)) rfl) (Nat.lt_of_lt_of_le hj hN) (by decide) (v := MI 7 j) (rfl) dX4_paid_30 ?_
      exact zW_i hx hb hr hlk hS (Nat.le_of_ble_eq_true rfl) (Nat.le_of_ble_eq_true rfl) dX4_paid_31 ((if_neg c_2).symm) (hP)
    · refine lv_iconst (v := (-1)) hx hb dX4_paid_21 (by decide) ?_
      refine lv_goto (tgt := 31) hx hb dX4_paid_22 (by decide) ?_
      exact zW_i hx hb hr hlk hS (Nat.le_of_ble_eq_true rfl) (Nat.le_of_ble_eq_true rfl) dX4_paid_31 ((if_pos c_2).symm) (hP)
  · exact absurd ((rfl).symm.trans c_1) (by decide)
set_option maxHeartbeats 4000000 in
set_option maxRecDepth 100000 in
theorem c_X4_paid_bad (l : Launch) (hD0 : zD (fun _ => True) Rs ad) (hI : zIn Rs np ng) (q : Int32) (hq : fIn q 0 (MI 0 6 - 1) = 0) (sz : Nat) : zMW l yX4_paid cX4_paid 2 ((some .int)) 2 (43) 0 0 D ks sz [.ref (ad 0), .int q] (zP D Rs ad (gS ks ad np ng G MI MJ XI XJ)) (some (.int (0))) (zP D Rs ad (gS ks ad np ng G (u2 MI 0 7 1) MJ XI XJ)) (zA Rs ad sz) := by
  refine zMW.of (by decide +kernel) (Nat.le_of_ble_eq_true rfl) ?_
  intro p e s m below meth c ls hx hb hr hml hown hlk hT hsz hP hK hl hin
  have hl : lv_has ls 2 [(0, .ref (ad 0)), (1, .int q)] := hl
  subst hsz
  have hD := hD0.self (sz := s.heap.size)
  have hA : ∀ q : Nat, s.heap.size ≤ q → zA Rs ad s.heap.size q := fun q h => Or.inr h
  have hS : va_S (zA Rs ad s.heap.size) s.heap s.heap [] := va_S.rf
  refine lv_aload_n hx hb dX4_paid_0 rfl (lv_at hl 0 rfl) ?_
  refine lv_iload_n hx hb dX4_paid_1 rfl (lv_at hl 1 rfl) ?_
  refine z_backW1 (z_runV ⟨hx, hb, hml, hown, hT⟩ (rest := []) (As := [.int q]) (c_X4_isPolicy_bad (MI := MI) (MJ := MJ) (XI := XI) (XJ := XJ) l hD0 hI q (hq) _) k_X4_107 (z_preWV hK hP (hP.at (hI.1 0 (by decide)) rfl) rfl) rfl ⟨Nat.le_of_ble_eq_true rfl, Nat.le_of_ble_eq_true rfl⟩ hl.1 rfl (Nat.le_of_ble_eq_true rfl) dX4_paid_2 ⟨Nat.le_of_ble_eq_true rfl, Nat.le_of_ble_eq_true rfl⟩) hS (hD.free (fun q hq => hA q (Nat.le_trans hS.1 hq))) (fun H locs hP hz1 hk1 hS => ?_)
  have hP : zP D Rs ad (gS ks ad np ng G (u2 MI 0 7 1) MJ XI XJ) H := hP
  refine lv_if_ne (tgt := 12) hx hb dX4_paid_5 (by decide) (fun c_1 => ?_) (fun c_1 => ?_)
  · exact absurd c_1 (by decide)
  · refine lv_iconst (v := 0) hx hb dX4_paid_8 (by decide) ?_
    refine lv_goto (tgt := 31) hx hb dX4_paid_9 (by decide) ?_
    exact zW_i hx hb hr hlk hS (Nat.le_of_ble_eq_true rfl) (Nat.le_of_ble_eq_true rfl) dX4_paid_31 (rfl) (hP)
set_option maxHeartbeats 4000000 in
set_option maxRecDepth 100000 in
theorem c_X4_canLeave_ok (l : Launch) (hD0 : zD (fun _ => True) Rs ad) (hI : zIn Rs np ng) (j : Nat) (hj : j < np) (hnp : MI 0 6 = nI np) (hN : np ≤ 30) (hst : MI 5 j = 0) (hyr : MI 1 j < MI 0 0) (sz : Nat) : zMW l yX4_canLeave cX4_canLeave 2 ((some .boolean)) 2 (43) 0 0 D ks sz [.ref (ad 0), .int (nI j)] (zP D Rs ad (gS ks ad np ng G MI MJ XI XJ)) (some (.int (1))) (zP D Rs ad (gS ks ad np ng G (u2 (u2 MI 0 7 0) 0 7 0) MJ XI XJ)) (zA Rs ad sz) := by
  refine zMW.of (by decide +kernel) (Nat.le_of_ble_eq_true rfl) ?_
  intro p e s m below meth c ls hx hb hr hml hown hlk hT hsz hP hK hl hin
  have hl : lv_has ls 2 [(0, .ref (ad 0)), (1, .int (nI j))] := hl
  subst hsz
  have hD := hD0.self (sz := s.heap.size)
  have hA : ∀ q : Nat, s.heap.size ≤ q → zA Rs ad s.heap.size q := fun q h => Or.inr h
  have hS : va_S (zA Rs ad s.heap.size) s.heap s.heap [] := va_S.rf
  refine lv_aload_n hx hb dX4_canLeave_0 rfl (lv_at hl 0 rfl) ?_
  refine lv_iload_n hx hb dX4_canLeave_1 rfl (lv_at hl 1 rfl) ?_
  refine z_backW1 (z_runV ⟨hx, hb, hml, hown, hT⟩ (rest := []) (As := [.int (nI j)]) (c_X4_isPolicy_ok (MI := MI) (MJ := MJ) (XI := XI) (XJ := XJ) l hD0 hI (nI j) (isP_j hnp hj hN) _) k_X4_107 (z_preWV hK hP (hP.at (hI.1 0 (by decide)) rfl) rfl) rfl ⟨Nat.le_of_ble_eq_true rfl, Nat.le_of_ble_eq_true rfl⟩ hl.1 rfl (Nat.le_of_ble_eq_true rfl) dX4_canLeave_2 ⟨Nat.le_of_ble_eq_true rfl, Nat.le_of_ble_eq_true rfl⟩) hS (hD.free (fun q hq => hA q (Nat.le_trans hS.1 hq))) (fun H locs hP hz1 hk1 hS => ?_)
  have hP : zP D Rs ad (gS ks ad np ng G (u2 MI 0 7 0) MJ XI XJ) H := hP
  refine lv_if_eq (tgt := 39) hx hb dX4_canLeave_5 (by decide) (fun c_1 => ?_) (fun c_1 => ?_)
  · exact absurd ((rfl).symm.trans c_1) (by decide)
  · refine lv_aload_n hx hb dX4_canLeave_8 rfl (lv_at hl 0 rfl) ?_
    refine lv_aload_n hx hb dX4_canLeave_9 rfl (lv_at hl 0 rfl) ?_
    refine gf_X4_38 hx hb hT hown hK (v := .ref (ad 5)) (hP.at (hI.1 0 (by decide)) rfl) rfl dX4_canLeave_10 ?_
    refine lv_iload_n hx hb dX4_canLeave_13 rfl (lv_at hl 1 rfl) ?_
    refine z_ialdN hx hb hK (hP.at (hI.1 5 (by decide)) rfl) (Nat.lt_of_lt_of_le hj hN) (by decide) (v := MI 5 j) (rfl) dX4_canLeave_14 ?_
    refine lv_if_ne (tgt := 35) hx hb dX4_canLeave_15 (by decide) (fun c_2 => ?_) (fun c_2 => ?_)
    · exact absurd (hst) c_2
    · refine lv_aload_n hx hb dX4_canLeave_18 rfl (lv_at hl 0 rfl) ?_
      refine gf_X4_92 hx hb hT hown hK (v := .int (MI 0 0)) (hP.at (hI.1 0 (by decide)) rfl) rfl dX4_canLeave_19 ?_
      refine lv_aload_n hx hb dX4_canLeave_22 rfl (lv_at hl 0 rfl) ?_
      refine gf_X4_25 hx hb hT hown hK (v := .ref (ad 1)) (hP.at (hI.1 0 (by decide)) rfl) rfl dX4_canLeave_23 ?_
      refine lv_iload_n hx hb dX4_canLeave_26 rfl (lv_at hl 1 rfl) ?_
      refine z_ialdN hx hb hK (hP.at (hI.1 1 (by decide)) rfl) (Nat.lt_of_lt_of_le hj hN) (by decide) (v := MI 1 j) (rfl) dX4_canLeave_27 ?_
      refine lv_icmp_le (tgt := 35) hx hb dX4_canLeave_28 (by decide) (fun c_3 => ?_) (fun c_3 => ?_)
      · exact absurd c_3 (Int32.not_le.mpr hyr)
      · refine lv_iconst (v := 0) hx hb dX4_canLeave_31 (by decide) ?_
        refine lv_goto (tgt := 36) hx hb dX4_canLeave_32 (by decide) ?_
        refine pf_X4_60 hx hb hT hown hK hP hD hS (hI.1 0 (by decide)) (v := 0) dX4_canLeave_36 (fun H locs hP hS => ?_)
        refine lv_aload_n hx hb dX4_canLeave_39 rfl (lv_at hl 0 rfl) ?_
        refine gf_X4_60 hx hb hT hown hK (v := .int 0) (hP.at (hI.1 0 (by decide)) rfl) rfl dX4_canLeave_40 ?_
        refine lv_if_ne (tgt := 50) hx hb dX4_canLeave_43 (by decide) (fun c_4 => ?_) (fun c_4 => ?_)
        · exact absurd c_4 (by decide)
        · refine lv_iconst (v := 1) hx hb dX4_canLeave_46 (by decide) ?_
          refine lv_goto (tgt := 51) hx hb dX4_canLeave_47 (by decide) ?_
          exact zW_z hx hb hr hlk hS (Nat.le_of_ble_eq_true rfl) (Nat.le_of_ble_eq_true rfl) dX4_canLeave_51 (rfl) (rfl) (hP)
set_option maxHeartbeats 4000000 in
set_option maxRecDepth 100000 in
theorem c_X4_canLeave_no (l : Launch) (hD0 : zD (fun _ => True) Rs ad) (hI : zIn Rs np ng) (j : Nat) (hj : j < np) (hnp : MI 0 6 = nI np) (hN : np ≤ 30) (hno : ¬ (MI 5 j = 0 ∧ MI 1 j < MI 0 0)) (sz : Nat) : zMW l yX4_canLeave cX4_canLeave 2 ((some .boolean)) 2 (43) 0 0 D ks sz [.ref (ad 0), .int (nI j)] (zP D Rs ad (gS ks ad np ng G MI MJ XI XJ)) (some (.int (0))) (zP D Rs ad (gS ks ad np ng G (u2 (u2 MI 0 7 0) 0 7 2) MJ XI XJ)) (zA Rs ad sz) := by
  refine zMW.of (by decide +kernel) (Nat.le_of_ble_eq_true rfl) ?_
  intro p e s m below meth c ls hx hb hr hml hown hlk hT hsz hP hK hl hin
  have hl : lv_has ls 2 [(0, .ref (ad 0)), (1, .int (nI j))] := hl
  subst hsz
  have hD := hD0.self (sz := s.heap.size)
  have hA : ∀ q : Nat, s.heap.size ≤ q → zA Rs ad s.heap.size q := fun q h => Or.inr h
  have hS : va_S (zA Rs ad s.heap.size) s.heap s.heap [] := va_S.rf
  refine lv_aload_n hx hb dX4_canLeave_0 rfl (lv_at hl 0 rfl) ?_
  refine lv_iload_n hx hb dX4_canLeave_1 rfl (lv_at hl 1 rfl) ?_
  refine z_backW1 (z_runV ⟨hx, hb, hml, hown, hT⟩ (rest := []) (As := [.int (nI j)]) (c_X4_isPolicy_ok (MI := MI) (MJ := MJ) (XI := XI) (XJ := XJ) l hD0 hI (nI j) (isP_j hnp hj hN) _) k_X4_107 (z_preWV hK hP (hP.at (hI.1 0 (by decide)) rfl) rfl) rfl ⟨Nat.le_of_ble_eq_true rfl, Nat.le_of_ble_eq_true rfl⟩ hl.1 rfl (Nat.le_of_ble_eq_true rfl) dX4_canLeave_2 ⟨Nat.le_of_ble_eq_true rfl, Nat.le_of_ble_eq_true rfl⟩) hS (hD.free (fun q hq => hA q (Nat.le_trans hS.1 hq))) (fun H locs hP hz1 hk1 hS => ?_)
  have hP : zP D Rs ad (gS ks ad np ng G (u2 MI 0 7 0) MJ XI XJ) H := hP
  refine lv_if_eq (tgt := 39) hx hb dX4_canLeave_5 (by decide) (fun c_1 => ?_) (fun c_1 => ?_)
  · exact absurd ((rfl).symm.trans c_1) (by decide)
  · refine lv_aload_n hx hb dX4_canLeave_8 rfl (lv_at hl 0 rfl) ?_
    refine lv_aload_n hx hb dX4_canLeave_9 rfl (lv_at hl 0 rfl) ?_
    refine gf_X4_38 hx hb hT hown hK (v := .ref (ad 5)) (hP.at (hI.1 0 (by decide)) rfl) rfl dX4_canLeave_10 ?_
    refine lv_iload_n hx hb dX4_canLeave_13 rfl (lv_at hl 1 rfl) ?_
    refine z_ialdN hx hb hK (hP.at (hI.1 5 (by decide)) rfl) (Nat.lt_of_lt_of_le hj hN) (by decide) (v := MI 5 j) (rfl) dX4_canLeave_14 ?_
    refine lv_if_ne (tgt := 35) hx hb dX4_canLeave_15 (by decide) (fun c_2 => ?_) (fun c_2 => ?_)
    · refine lv_iconst (v := 2) hx hb dX4_canLeave_35 (by decide) ?_
      refine pf_X4_60 hx hb hT hown hK hP hD hS (hI.1 0 (by decide)) (v := 2) dX4_canLeave_36 (fun H locs hP hS => ?_)
      refine lv_aload_n hx hb dX4_canLeave_39 rfl (lv_at hl 0 rfl) ?_
      refine gf_X4_60 hx hb hT hown hK (v := .int 2) (hP.at (hI.1 0 (by decide)) rfl) rfl dX4_canLeave_40 ?_
      refine lv_if_ne (tgt := 50) hx hb dX4_canLeave_43 (by decide) (fun c_3 => ?_) (fun c_3 => ?_)
      · refine lv_iconst (v := 0) hx hb dX4_canLeave_50 (by decide) ?_
        exact zW_z hx hb hr hlk hS (Nat.le_of_ble_eq_true rfl) (Nat.le_of_ble_eq_true rfl) dX4_canLeave_51 (rfl) (rfl) (hP)
      · exact absurd c_3 (by decide)
    · refine lv_aload_n hx hb dX4_canLeave_18 rfl (lv_at hl 0 rfl) ?_
      refine gf_X4_92 hx hb hT hown hK (v := .int (MI 0 0)) (hP.at (hI.1 0 (by decide)) rfl) rfl dX4_canLeave_19 ?_
      refine lv_aload_n hx hb dX4_canLeave_22 rfl (lv_at hl 0 rfl) ?_
      refine gf_X4_25 hx hb hT hown hK (v := .ref (ad 1)) (hP.at (hI.1 0 (by decide)) rfl) rfl dX4_canLeave_23 ?_
      refine lv_iload_n hx hb dX4_canLeave_26 rfl (lv_at hl 1 rfl) ?_
      refine z_ialdN hx hb hK (hP.at (hI.1 1 (by decide)) rfl) (Nat.lt_of_lt_of_le hj hN) (by decide) (v := MI 1 j) (rfl) dX4_canLeave_27 ?_
      refine lv_icmp_le (tgt := 35) hx hb dX4_canLeave_28 (by decide) (fun c_4 => ?_) (fun c_4 => ?_)
      · refine lv_iconst (v := 2) hx hb dX4_canLeave_35 (by decide) ?_
        refine pf_X4_60 hx hb hT hown hK hP hD hS (hI.1 0 (by decide)) (v := 2) dX4_canLeave_36 (fun H locs hP hS => ?_)
        refine lv_aload_n hx hb dX4_canLeave_39 rfl (lv_at hl 0 rfl) ?_
        refine gf_X4_60 hx hb hT hown hK (v := .int 2) (hP.at (hI.1 0 (by decide)) rfl) rfl dX4_canLeave_40 ?_
        refine lv_if_ne (tgt := 50) hx hb dX4_canLeave_43 (by decide) (fun c_5 => ?_) (fun c_5 => ?_)
        · refine lv_iconst (v := 0) hx hb dX4_canLeave_50 (by decide) ?_
          exact zW_z hx hb hr hlk hS (Nat.le_of_ble_eq_true rfl) (Nat.le_of_ble_eq_true rfl) dX4_canLeave_51 (rfl) (rfl) (hP)
        · exact absurd c_5 (by decide)
      · exact absurd (Int32.not_le.mp c_4) (fun h => hno ⟨c_2, h⟩)
set_option maxHeartbeats 4000000 in
set_option maxRecDepth 100000 in
theorem c_X4_canLeave_bad (l : Launch) (hD0 : zD (fun _ => True) Rs ad) (hI : zIn Rs np ng) (q : Int32) (hq : fIn q 0 (MI 0 6 - 1) = 0) (sz : Nat) : zMW l yX4_canLeave cX4_canLeave 2 ((some .boolean)) 2 (43) 0 0 D ks sz [.ref (ad 0), .int q] (zP D Rs ad (gS ks ad np ng G MI MJ XI XJ)) (some (.int (0))) (zP D Rs ad (gS ks ad np ng G (u2 MI 0 7 1) MJ XI XJ)) (zA Rs ad sz) := by
  refine zMW.of (by decide +kernel) (Nat.le_of_ble_eq_true rfl) ?_
  intro p e s m below meth c ls hx hb hr hml hown hlk hT hsz hP hK hl hin
  have hl : lv_has ls 2 [(0, .ref (ad 0)), (1, .int q)] := hl
  subst hsz
  have hD := hD0.self (sz := s.heap.size)
  have hA : ∀ q : Nat, s.heap.size ≤ q → zA Rs ad s.heap.size q := fun q h => Or.inr h
  have hS : va_S (zA Rs ad s.heap.size) s.heap s.heap [] := va_S.rf
  refine lv_aload_n hx hb dX4_canLeave_0 rfl (lv_at hl 0 rfl) ?_
  refine lv_iload_n hx hb dX4_canLeave_1 rfl (lv_at hl 1 rfl) ?_
  refine z_backW1 (z_runV ⟨hx, hb, hml, hown, hT⟩ (rest := []) (As := [.int q]) (c_X4_isPolicy_bad (MI := MI) (MJ := MJ) (XI := XI) (XJ := XJ) l hD0 hI q (hq) _) k_X4_107 (z_preWV hK hP (hP.at (hI.1 0 (by decide)) rfl) rfl) rfl ⟨Nat.le_of_ble_eq_true rfl, Nat.le_of_ble_eq_true rfl⟩ hl.1 rfl (Nat.le_of_ble_eq_true rfl) dX4_canLeave_2 ⟨Nat.le_of_ble_eq_true rfl, Nat.le_of_ble_eq_true rfl⟩) hS (hD.free (fun q hq => hA q (Nat.le_trans hS.1 hq))) (fun H locs hP hz1 hk1 hS => ?_)
  have hP : zP D Rs ad (gS ks ad np ng G (u2 MI 0 7 1) MJ XI XJ) H := hP
  refine lv_if_eq (tgt := 39) hx hb dX4_canLeave_5 (by decide) (fun c_1 => ?_) (fun c_1 => ?_)
  · refine lv_aload_n hx hb dX4_canLeave_39 rfl (lv_at hl 0 rfl) ?_
    refine gf_X4_60 hx hb hT hown hK (v := .int 1) (hP.at (hI.1 0 (by decide)) rfl) rfl dX4_canLeave_40 ?_
    refine lv_if_ne (tgt := 50) hx hb dX4_canLeave_43 (by decide) (fun c_2 => ?_) (fun c_2 => ?_)
    · refine lv_iconst (v := 0) hx hb dX4_canLeave_50 (by decide) ?_
      exact zW_z hx hb hr hlk hS (Nat.le_of_ble_eq_true rfl) (Nat.le_of_ble_eq_true rfl) dX4_canLeave_51 (rfl) (rfl) (hP)
    · exact absurd c_2 (by decide)
  · exact absurd c_1 (by decide)
set_option maxHeartbeats 4000000 in
set_option maxRecDepth 100000 in
theorem c_X4_worth_ok (l : Launch) (hD0 : zD (fun _ => True) Rs ad) (hI : zIn Rs np ng) (j : Nat) (hj : j < np) (hnp : MI 0 6 = nI np) (hN : np ≤ 30) (hst : MI 5 j = 0) (hyr : MI 1 j < MI 0 0) (hd : MI 5 j = 0 → ¬ mPr MI np j = 0) (ht : ¬ Int32.toInt64 (MI 2 j) = 0) (sz : Nat) : zMW l yX4_worth cX4_worth 2 ((some .int)) 4 (92) 0 0 D ks sz [.ref (ad 0), .int (nI j)] (zP D Rs ad (gS ks ad np ng G MI MJ XI XJ)) (some (.int (Int64.toInt32 (mWorth MI MJ np j)))) (zP D Rs ad (gS ks ad np ng G (u2 (u2 MI 0 7 0) 0 7 0) MJ XI XJ)) (zA Rs ad sz) := by
  refine zMW.of (by decide +kernel) (Nat.le_of_ble_eq_true rfl) ?_
  intro p e s m below meth c ls hx hb hr hml hown hlk hT hsz hP hK hl hin
  have hl : lv_has ls 2 [(0, .ref (ad 0)), (1, .int (nI j))] := hl
  subst hsz
  have hD := hD0.self (sz := s.heap.size)
  have hA : ∀ q : Nat, s.heap.size ≤ q → zA Rs ad s.heap.size q := fun q h => Or.inr h
  have hS : va_S (zA Rs ad s.heap.size) s.heap s.heap [] := va_S.rf
  refine lv_aload_n hx hb dX4_worth_0 rfl (lv_at hl 0 rfl) ?_
  refine lv_iload_n hx hb dX4_worth_1 rfl (lv_at hl 1 rfl) ?_
  refine z_backW1 (z_runV ⟨hx, hb, hml, hown, hT⟩ (rest := []) (As := [.int (nI j)]) (c_X4_canLeave_ok (MI := MI) (MJ := MJ) (XI := XI) (XJ := XJ) l hD0 hI j (hj) (hnp) (hN) (hst) (hyr) _) k_X4_111 (z_preWV hK hP (hP.at (hI.1 0 (by decide)) rfl) rfl) rfl ⟨Nat.le_of_ble_eq_true rfl, Nat.le_of_ble_eq_true rfl⟩ hl.1 rfl (Nat.le_of_ble_eq_true rfl) dX4_worth_2 ⟨Nat.le_of_ble_eq_true rfl, Nat.le_of_ble_eq_true rfl⟩) hS (hD.free (fun q hq => hA q (Nat.le_trans hS.1 hq))) (fun H locs hP hz1 hk1 hS => ?_)
  have hP : zP D Rs ad (gS ks ad np ng G (u2 (u2 MI 0 7 0) 0 7 0) MJ XI XJ) H := hP
  refine lv_if_eq (tgt := 17) hx hb dX4_worth_5 (by decide) (fun c_1 => ?_) (fun c_1 => ?_)
  · exact absurd ((rfl).symm.trans c_1) (by decide)
  · refine lv_aload_n hx hb dX4_worth_8 rfl (lv_at hl 0 rfl) ?_
    refine lv_iload_n hx hb dX4_worth_9 rfl (lv_at hl 1 rfl) ?_
    refine z_backR1 (z_runV ⟨hx, hb, hml, hown, hT⟩ (rest := []) (As := [.int (nI j)]) (c_X4_worthOf (MI := u2 (u2 MI 0 7 0) 0 7 0) (MJ := MJ) (XI := XI) (XJ := XJ) l hI j (hj) (hnp) (hN) (hd) (ht)) k_X4_114 (z_preRV hK hP (hP.at (hI.1 0 (by decide)) rfl) rfl) rfl ⟨Nat.le_of_ble_eq_true rfl, Nat.le_of_ble_eq_true rfl⟩ hl.1 rfl (Nat.le_of_ble_eq_true rfl) dX4_worth_10 ⟨Nat.le_of_ble_eq_true rfl, Nat.le_of_ble_eq_true rfl⟩) ?_
    refine lv_l2i hx hb dX4_worth_13 rfl ?_
    refine lv_goto (tgt := 18) hx hb dX4_worth_14 (by decide) ?_
    exact zW_i hx hb hr hlk hS (Nat.le_of_ble_eq_true rfl) (Nat.le_of_ble_eq_true rfl) dX4_worth_18 (rfl) (hP)
set_option maxHeartbeats 4000000 in
set_option maxRecDepth 100000 in
theorem c_X4_worth_no (l : Launch) (hD0 : zD (fun _ => True) Rs ad) (hI : zIn Rs np ng) (j : Nat) (hj : j < np) (hnp : MI 0 6 = nI np) (hN : np ≤ 30) (hno : ¬ (MI 5 j = 0 ∧ MI 1 j < MI 0 0)) (sz : Nat) : zMW l yX4_worth cX4_worth 2 ((some .int)) 3 (64) 0 0 D ks sz [.ref (ad 0), .int (nI j)] (zP D Rs ad (gS ks ad np ng G MI MJ XI XJ)) (some (.int (0))) (zP D Rs ad (gS ks ad np ng G (u2 (u2 MI 0 7 0) 0 7 2) MJ XI XJ)) (zA Rs ad sz) := by
  refine zMW.of (by decide +kernel) (Nat.le_of_ble_eq_true rfl) ?_
  intro p e s m below meth c ls hx hb hr hml hown hlk hT hsz hP hK hl hin
  have hl : lv_has ls 2 [(0, .ref (ad 0)), (1, .int (nI j))] := hl
  subst hsz
  have hD := hD0.self (sz := s.heap.size)
  have hA : ∀ q : Nat, s.heap.size ≤ q → zA Rs ad s.heap.size q := fun q h => Or.inr h
  have hS : va_S (zA Rs ad s.heap.size) s.heap s.heap [] := va_S.rf
  refine lv_aload_n hx hb dX4_worth_0 rfl (lv_at hl 0 rfl) ?_
  refine lv_iload_n hx hb dX4_worth_1 rfl (lv_at hl 1 rfl) ?_
  refine z_backW1 (z_runV ⟨hx, hb, hml, hown, hT⟩ (rest := []) (As := [.int (nI j)]) (c_X4_canLeave_no (MI := MI) (MJ := MJ) (XI := XI) (XJ := XJ) l hD0 hI j (hj) (hnp) (hN) (hno) _) k_X4_111 (z_preWV hK hP (hP.at (hI.1 0 (by decide)) rfl) rfl) rfl ⟨Nat.le_of_ble_eq_true rfl, Nat.le_of_ble_eq_true rfl⟩ hl.1 rfl (Nat.le_of_ble_eq_true rfl) dX4_worth_2 ⟨Nat.le_of_ble_eq_true rfl, Nat.le_of_ble_eq_true rfl⟩) hS (hD.free (fun q hq => hA q (Nat.le_trans hS.1 hq))) (fun H locs hP hz1 hk1 hS => ?_)
  have hP : zP D Rs ad (gS ks ad np ng G (u2 (u2 MI 0 7 0) 0 7 2) MJ XI XJ) H := hP
  refine lv_if_eq (tgt := 17) hx hb dX4_worth_5 (by decide) (fun c_1 => ?_) (fun c_1 => ?_)
  · refine lv_iconst (v := 0) hx hb dX4_worth_17 (by decide) ?_
    exact zW_i hx hb hr hlk hS (Nat.le_of_ble_eq_true rfl) (Nat.le_of_ble_eq_true rfl) dX4_worth_18 (rfl) (hP)
  · exact absurd c_1 (by decide)
set_option maxHeartbeats 4000000 in
set_option maxRecDepth 100000 in
theorem c_X4_worth_bad (l : Launch) (hD0 : zD (fun _ => True) Rs ad) (hI : zIn Rs np ng) (q : Int32) (hq : fIn q 0 (MI 0 6 - 1) = 0) (sz : Nat) : zMW l yX4_worth cX4_worth 2 ((some .int)) 3 (64) 0 0 D ks sz [.ref (ad 0), .int q] (zP D Rs ad (gS ks ad np ng G MI MJ XI XJ)) (some (.int (0))) (zP D Rs ad (gS ks ad np ng G (u2 MI 0 7 1) MJ XI XJ)) (zA Rs ad sz) := by
  refine zMW.of (by decide +kernel) (Nat.le_of_ble_eq_true rfl) ?_
  intro p e s m below meth c ls hx hb hr hml hown hlk hT hsz hP hK hl hin
  have hl : lv_has ls 2 [(0, .ref (ad 0)), (1, .int q)] := hl
  subst hsz
  have hD := hD0.self (sz := s.heap.size)
  have hA : ∀ q : Nat, s.heap.size ≤ q → zA Rs ad s.heap.size q := fun q h => Or.inr h
  have hS : va_S (zA Rs ad s.heap.size) s.heap s.heap [] := va_S.rf
  refine lv_aload_n hx hb dX4_worth_0 rfl (lv_at hl 0 rfl) ?_
  refine lv_iload_n hx hb dX4_worth_1 rfl (lv_at hl 1 rfl) ?_
  refine z_backW1 (z_runV ⟨hx, hb, hml, hown, hT⟩ (rest := []) (As := [.int q]) (c_X4_canLeave_bad (MI := MI) (MJ := MJ) (XI := XI) (XJ := XJ) l hD0 hI q (hq) _) k_X4_111 (z_preWV hK hP (hP.at (hI.1 0 (by decide)) rfl) rfl) rfl ⟨Nat.le_of_ble_eq_true rfl, Nat.le_of_ble_eq_true rfl⟩ hl.1 rfl (Nat.le_of_ble_eq_true rfl) dX4_worth_2 ⟨Nat.le_of_ble_eq_true rfl, Nat.le_of_ble_eq_true rfl⟩) hS (hD.free (fun q hq => hA q (Nat.le_trans hS.1 hq))) (fun H locs hP hz1 hk1 hS => ?_)
  have hP : zP D Rs ad (gS ks ad np ng G (u2 MI 0 7 1) MJ XI XJ) H := hP
  refine lv_if_eq (tgt := 17) hx hb dX4_worth_5 (by decide) (fun c_1 => ?_) (fun c_1 => ?_)
  · refine lv_iconst (v := 0) hx hb dX4_worth_17 (by decide) ?_
    exact zW_i hx hb hr hlk hS (Nat.le_of_ble_eq_true rfl) (Nat.le_of_ble_eq_true rfl) dX4_worth_18 (rfl) (hP)
  · exact absurd c_1 (by decide)
set_option maxHeartbeats 4000000 in
set_option maxRecDepth 100000 in
theorem c_X4_surrender_ok (l : Launch) (hD0 : zD (fun _ => True) Rs ad) (hI : zIn Rs np ng) (j : Nat) (hj : j < np) (hnp : MI 0 6 = nI np) (hN : np ≤ 30) (hst : MI 5 j = 0) (hyr : MI 1 j < MI 0 0) (hd : MI 5 j = 0 → ¬ mPr MI np j = 0) (ht : ¬ Int32.toInt64 (MI 2 j) = 0) (sz : Nat) : zMW l yX4_surrender cX4_surrender 3 ((some .int)) 4 (92) 0 0 D ks sz [.ref (ad 0), .int (nI j)] (zP D Rs ad (gS ks ad np ng G MI MJ XI XJ)) (some (.int (Int64.toInt32 (mWorth MI MJ np j)))) (zP D Rs ad (gS ks ad np ng G (u2 (u2 (u2 (u2 MI 0 7 0) 0 7 0) 5 j 2) 7 j (Int64.toInt32 (mWorth MI MJ np j))) (lvJ (mPr (u2 (u2 (u2 (u2 MI 0 7 0) 0 7 0) 5 j 2) 7 j (Int64.toInt32 (mWorth MI MJ np j))) np j) MJ (hm (u2 (u2 MI 0 7 0) 0 7 0) np j) (mShare MI MJ np j) (Int64.toInt32 (mWorth MI MJ np j))) XI XJ)) (zA Rs ad sz) := by
  refine zMW.of (by decide +kernel) (Nat.le_of_ble_eq_true rfl) ?_
  intro p e s m below meth c ls hx hb hr hml hown hlk hT hsz hP hK hl hin
  have hl : lv_has ls 3 [(0, .ref (ad 0)), (1, .int (nI j))] := hl
  subst hsz
  have hD := hD0.self (sz := s.heap.size)
  have hA : ∀ q : Nat, s.heap.size ≤ q → zA Rs ad s.heap.size q := fun q h => Or.inr h
  have hS : va_S (zA Rs ad s.heap.size) s.heap s.heap [] := va_S.rf
  refine lv_aload_n hx hb dX4_surrender_0 rfl (lv_at hl 0 rfl) ?_
  refine lv_iload_n hx hb dX4_surrender_1 rfl (lv_at hl 1 rfl) ?_
  refine z_backW1 (z_runV ⟨hx, hb, hml, hown, hT⟩ (rest := []) (As := [.int (nI j)]) (c_X4_canLeave_ok (MI := MI) (MJ := MJ) (XI := XI) (XJ := XJ) l hD0 hI j (hj) (hnp) (hN) (hst) (hyr) _) k_X4_111 (z_preWV hK hP (hP.at (hI.1 0 (by decide)) rfl) rfl) rfl ⟨Nat.le_of_ble_eq_true rfl, Nat.le_of_ble_eq_true rfl⟩ hl.1 rfl (Nat.le_of_ble_eq_true rfl) dX4_surrender_2 ⟨Nat.le_of_ble_eq_true rfl, Nat.le_of_ble_eq_true rfl⟩) hS (hD.free (fun q hq => hA q (Nat.le_trans hS.1 hq))) (fun H locs hP hz1 hk1 hS => ?_)
  have hP : zP D Rs ad (gS ks ad np ng G (u2 (u2 MI 0 7 0) 0 7 0) MJ XI XJ) H := hP
  refine lv_if_ne (tgt := 10) hx hb dX4_surrender_5 (by decide) (fun c_1 => ?_) (fun c_1 => ?_)
  · refine lv_aload_n hx hb dX4_surrender_10 rfl (lv_at hl 0 rfl) ?_
    refine lv_iload_n hx hb dX4_surrender_11 rfl (lv_at hl 1 rfl) ?_
    refine z_backR1 (z_runV ⟨hx, hb, hml, hown, hT⟩ (rest := []) (As := [.int (nI j)]) (c_X4_worthOf (MI := u2 (u2 MI 0 7 0) 0 7 0) (MJ := MJ) (XI := XI) (XJ := XJ) l hI j (hj) (hnp) (hN) (hd) (ht)) k_X4_114 (z_preRV hK hP (hP.at (hI.1 0 (by decide)) rfl) rfl) rfl ⟨Nat.le_of_ble_eq_true rfl, Nat.le_of_ble_eq_true rfl⟩ hl.1 rfl (Nat.le_of_ble_eq_true rfl) dX4_surrender_12 ⟨Nat.le_of_ble_eq_true rfl, Nat.le_of_ble_eq_true rfl⟩) ?_
    refine lv_l2i hx hb dX4_surrender_15 rfl ?_
    refine lv_istore_n (lv' := [(2, .int (Int64.toInt32 (mWorth (u2 (u2 MI 0 7 0) 0 7 0) MJ np j))), (0, .ref (ad 0)), (1, .int (nI j))]) hx hb dX4_surrender_16 rfl hl (by decide) rfl (fun ls hl => ?_)
    refine lv_aload_n hx hb dX4_surrender_17 rfl (lv_at hl 1 rfl) ?_
    refine lv_iload_n hx hb dX4_surrender_18 rfl (lv_at hl 2 rfl) ?_
    refine lv_iconst (v := 2) hx hb dX4_surrender_19 (by decide) ?_
    refine lv_aload_n hx hb dX4_surrender_20 rfl (lv_at hl 1 rfl) ?_
    refine lv_iload_n hx hb dX4_surrender_21 rfl (lv_at hl 2 rfl) ?_
    refine z_backR1 (z_runV ⟨hx, hb, hml, hown, hT⟩ (rest := [.int 2, .int (nI j), .ref (ad 0)]) (As := [.int (nI j)]) (c_X4_share (MI := u2 (u2 MI 0 7 0) 0 7 0) (MJ := MJ) (XI := XI) (XJ := XJ) l hI j (hj) (hnp) (hN) (hd)) k_X4_95 (z_preRV hK hP (hP.at (hI.1 0 (by decide)) rfl) rfl) rfl ⟨Nat.le_of_ble_eq_true rfl, Nat.le_of_ble_eq_true rfl⟩ hl.1 rfl (Nat.le_of_ble_eq_true rfl) dX4_surrender_22 ⟨Nat.le_of_ble_eq_true rfl, Nat.le_of_ble_eq_true rfl⟩) ?_
    refine lv_iload_n hx hb dX4_surrender_25 rfl (lv_at hl 0 rfl) ?_
    refine z_backW0 (z_runV ⟨hx, hb, hml, hown, hT⟩ (rest := []) (As := [.int (nI j), .int 2, .long (mShare (u2 (u2 MI 0 7 0) 0 7 0) MJ np j), .int (Int64.toInt32 (mWorth (u2 (u2 MI 0 7 0) 0 7 0) MJ np j))]) (c_X4_leaves (MI := u2 (u2 MI 0 7 0) 0 7 0) (MJ := MJ) (XI := XI) (XJ := XJ) l hD0 hI j 2 (mShare (u2 (u2 MI 0 7 0) 0 7 0) MJ np j) (Int64.toInt32 (mWorth (u2 (u2 MI 0 7 0) 0 7 0) MJ np j)) (hj) (hnp) (hN) _) k_X4_117 (z_preWV hK hP (hP.at (hI.1 0 (by decide)) rfl) rfl) rfl ⟨Nat.le_of_ble_eq_true rfl, Nat.le_of_ble_eq_true rfl⟩ hl.1 rfl (Nat.le_of_ble_eq_true rfl) dX4_surrender_26 ⟨Nat.le_of_ble_eq_true rfl, Nat.le_of_ble_eq_true rfl⟩) hS (hD.free (fun q hq => hA q (Nat.le_trans hS.1 hq))) (fun H locs hP hz1 hk1 hS => ?_)
    have hP : zP D Rs ad (gS ks ad np ng G (u2 (u2 (u2 (u2 MI 0 7 0) 0 7 0) 5 j 2) 7 j (Int64.toInt32 (mWorth (u2 (u2 MI 0 7 0) 0 7 0) MJ np j))) (lvJ (mPr (u2 (u2 (u2 (u2 MI 0 7 0) 0 7 0) 5 j 2) 7 j (Int64.toInt32 (mWorth (u2 (u2 MI 0 7 0) 0 7 0) MJ np j))) np j) MJ (hm (u2 (u2 MI 0 7 0) 0 7 0) np j) (mShare (u2 (u2 MI 0 7 0) 0 7 0) MJ np j) (Int64.toInt32 (mWorth (u2 (u2 MI 0 7 0) 0 7 0) MJ np j))) XI XJ) H := hP
    refine lv_iload_n hx hb dX4_surrender_29 rfl (lv_at hl 0 rfl) ?_
    exact zW_i hx hb hr hlk hS (Nat.le_of_ble_eq_true rfl) (Nat.le_of_ble_eq_true rfl) dX4_surrender_30 (rfl) (by first | exact hP | (subst hx; exact hP))
  · exact absurd ((rfl).symm.trans c_1) (by decide)
set_option maxHeartbeats 4000000 in
set_option maxRecDepth 100000 in
theorem c_X4_surrender_no (l : Launch) (hD0 : zD (fun _ => True) Rs ad) (hI : zIn Rs np ng) (j : Nat) (hj : j < np) (hnp : MI 0 6 = nI np) (hN : np ≤ 30) (hno : ¬ (MI 5 j = 0 ∧ MI 1 j < MI 0 0)) (sz : Nat) : zMW l yX4_surrender cX4_surrender 3 ((some .int)) 3 (64) 0 0 D ks sz [.ref (ad 0), .int (nI j)] (zP D Rs ad (gS ks ad np ng G MI MJ XI XJ)) (some (.int (0))) (zP D Rs ad (gS ks ad np ng G (u2 (u2 MI 0 7 0) 0 7 2) MJ XI XJ)) (zA Rs ad sz) := by
  refine zMW.of (by decide +kernel) (Nat.le_of_ble_eq_true rfl) ?_
  intro p e s m below meth c ls hx hb hr hml hown hlk hT hsz hP hK hl hin
  have hl : lv_has ls 3 [(0, .ref (ad 0)), (1, .int (nI j))] := hl
  subst hsz
  have hD := hD0.self (sz := s.heap.size)
  have hA : ∀ q : Nat, s.heap.size ≤ q → zA Rs ad s.heap.size q := fun q h => Or.inr h
  have hS : va_S (zA Rs ad s.heap.size) s.heap s.heap [] := va_S.rf
  refine lv_aload_n hx hb dX4_surrender_0 rfl (lv_at hl 0 rfl) ?_
  refine lv_iload_n hx hb dX4_surrender_1 rfl (lv_at hl 1 rfl) ?_
  refine z_backW1 (z_runV ⟨hx, hb, hml, hown, hT⟩ (rest := []) (As := [.int (nI j)]) (c_X4_canLeave_no (MI := MI) (MJ := MJ) (XI := XI) (XJ := XJ) l hD0 hI j (hj) (hnp) (hN) (hno) _) k_X4_111 (z_preWV hK hP (hP.at (hI.1 0 (by decide)) rfl) rfl) rfl ⟨Nat.le_of_ble_eq_true rfl, Nat.le_of_ble_eq_true rfl⟩ hl.1 rfl (Nat.le_of_ble_eq_true rfl) dX4_surrender_2 ⟨Nat.le_of_ble_eq_true rfl, Nat.le_of_ble_eq_true rfl⟩) hS (hD.free (fun q hq => hA q (Nat.le_trans hS.1 hq))) (fun H locs hP hz1 hk1 hS => ?_)
  have hP : zP D Rs ad (gS ks ad np ng G (u2 (u2 MI 0 7 0) 0 7 2) MJ XI XJ) H := hP
  refine lv_if_ne (tgt := 10) hx hb dX4_surrender_5 (by decide) (fun c_1 => ?_) (fun c_1 => ?_)
  · exact absurd c_1 (by decide)
  · refine lv_iconst (v := 0) hx hb dX4_surrender_8 (by decide) ?_
    exact zW_i hx hb hr hlk hS (Nat.le_of_ble_eq_true rfl) (Nat.le_of_ble_eq_true rfl) dX4_surrender_9 (rfl) (hP)
set_option maxHeartbeats 4000000 in
set_option maxRecDepth 100000 in
theorem c_X4_surrender_bad (l : Launch) (hD0 : zD (fun _ => True) Rs ad) (hI : zIn Rs np ng) (q : Int32) (hq : fIn q 0 (MI 0 6 - 1) = 0) (sz : Nat) : zMW l yX4_surrender cX4_surrender 3 ((some .int)) 3 (64) 0 0 D ks sz [.ref (ad 0), .int q] (zP D Rs ad (gS ks ad np ng G MI MJ XI XJ)) (some (.int (0))) (zP D Rs ad (gS ks ad np ng G (u2 MI 0 7 1) MJ XI XJ)) (zA Rs ad sz) := by
  refine zMW.of (by decide +kernel) (Nat.le_of_ble_eq_true rfl) ?_
  intro p e s m below meth c ls hx hb hr hml hown hlk hT hsz hP hK hl hin
  have hl : lv_has ls 3 [(0, .ref (ad 0)), (1, .int q)] := hl
  subst hsz
  have hD := hD0.self (sz := s.heap.size)
  have hA : ∀ q : Nat, s.heap.size ≤ q → zA Rs ad s.heap.size q := fun q h => Or.inr h
  have hS : va_S (zA Rs ad s.heap.size) s.heap s.heap [] := va_S.rf
  refine lv_aload_n hx hb dX4_surrender_0 rfl (lv_at hl 0 rfl) ?_
  refine lv_iload_n hx hb dX4_surrender_1 rfl (lv_at hl 1 rfl) ?_
  refine z_backW1 (z_runV ⟨hx, hb, hml, hown, hT⟩ (rest := []) (As := [.int q]) (c_X4_canLeave_bad (MI := MI) (MJ := MJ) (XI := XI) (XJ := XJ) l hD0 hI q (hq) _) k_X4_111 (z_preWV hK hP (hP.at (hI.1 0 (by decide)) rfl) rfl) rfl ⟨Nat.le_of_ble_eq_true rfl, Nat.le_of_ble_eq_true rfl⟩ hl.1 rfl (Nat.le_of_ble_eq_true rfl) dX4_surrender_2 ⟨Nat.le_of_ble_eq_true rfl, Nat.le_of_ble_eq_true rfl⟩) hS (hD.free (fun q hq => hA q (Nat.le_trans hS.1 hq))) (fun H locs hP hz1 hk1 hS => ?_)
  have hP : zP D Rs ad (gS ks ad np ng G (u2 MI 0 7 1) MJ XI XJ) H := hP
  refine lv_if_ne (tgt := 10) hx hb dX4_surrender_5 (by decide) (fun c_1 => ?_) (fun c_1 => ?_)
  · exact absurd c_1 (by decide)
  · refine lv_iconst (v := 0) hx hb dX4_surrender_8 (by decide) ?_
    exact zW_i hx hb hr hlk hS (Nat.le_of_ble_eq_true rfl) (Nat.le_of_ble_eq_true rfl) dX4_surrender_9 (rfl) (hP)
set_option maxHeartbeats 4000000 in
set_option maxRecDepth 100000 in
theorem c_X4_setRates_ok (l : Launch) (hD0 : zD (fun _ => True) Rs ad) (hI : zIn Rs np ng) (bo : Int32) (ch : Int32) (h0 : fIn bo 0 200 = 1) (h1 : fIn ch 0 100 = 1) (sz : Nat) : zMW l yX4_setRates cX4_setRates 4 ((some .int)) 1 (22) 0 0 D ks sz [.ref (ad 0), .int bo, .int ch] (zP D Rs ad (gS ks ad np ng G MI MJ XI XJ)) (some (.int (MI 0 1))) (zP D Rs ad (gS ks ad np ng G (u2 (u2 (u2 MI 0 7 0) 0 1 bo) 0 2 ch) MJ XI XJ)) (zA Rs ad sz) := by
  refine zMW.of (by decide +kernel) (Nat.le_of_ble_eq_true rfl) ?_
  intro p e s m below meth c ls hx hb hr hml hown hlk hT hsz hP hK hl hin
  have hl : lv_has ls 4 [(0, .ref (ad 0)), (1, .int bo), (2, .int ch)] := hl
  subst hsz
  have hD := hD0.self (sz := s.heap.size)
  have hA : ∀ q : Nat, s.heap.size ≤ q → zA Rs ad s.heap.size q := fun q h => Or.inr h
  have hS : va_S (zA Rs ad s.heap.size) s.heap s.heap [] := va_S.rf
  refine lv_aload_n hx hb dX4_setRates_0 rfl (lv_at hl 0 rfl) ?_
  refine lv_iload_n hx hb dX4_setRates_1 rfl (lv_at hl 1 rfl) ?_
  refine lv_iconst (v := 0) hx hb dX4_setRates_2 (by decide) ?_
  refine lv_sipush (v := 200) hx hb dX4_setRates_3 (by decide) ?_
  refine z_backR1 (z_runS ⟨hx, hb, hml, hown, hT⟩ (rest := [.ref (ad 0)]) (As := [.int bo, .int 0, .int 200]) (c_X4_in l D ks bo 0 200 ) k_X4_66 (z_preR hK trivial) rfl ⟨Nat.le_of_ble_eq_true rfl, Nat.le_of_ble_eq_true rfl⟩ hl.1 rfl (Nat.le_of_ble_eq_true rfl) dX4_setRates_6 ⟨Nat.le_of_ble_eq_true rfl, Nat.le_of_ble_eq_true rfl⟩) ?_
  refine lv_if_eq (tgt := 26) hx hb dX4_setRates_9 (by decide) (fun c_1 => ?_) (fun c_1 => ?_)
  · exact absurd ((h0).symm.trans c_1) (by decide)
  · refine lv_iload_n hx hb dX4_setRates_12 rfl (lv_at hl 2 rfl) ?_
    refine lv_iconst (v := 0) hx hb dX4_setRates_13 (by decide) ?_
    refine lv_bipush (v := 100) hx hb dX4_setRates_14 (by decide) ?_
    refine z_backR1 (z_runS ⟨hx, hb, hml, hown, hT⟩ (rest := [.ref (ad 0)]) (As := [.int ch, .int 0, .int 100]) (c_X4_in l D ks ch 0 100 ) k_X4_66 (z_preR hK trivial) rfl ⟨Nat.le_of_ble_eq_true rfl, Nat.le_of_ble_eq_true rfl⟩ hl.1 rfl (Nat.le_of_ble_eq_true rfl) dX4_setRates_16 ⟨Nat.le_of_ble_eq_true rfl, Nat.le_of_ble_eq_true rfl⟩) ?_
    refine lv_if_eq (tgt := 26) hx hb dX4_setRates_19 (by decide) (fun c_2 => ?_) (fun c_2 => ?_)
    · exact absurd ((h1).symm.trans c_2) (by decide)
    · refine lv_iconst (v := 0) hx hb dX4_setRates_22 (by decide) ?_
      refine lv_goto (tgt := 27) hx hb dX4_setRates_23 (by decide) ?_
      refine pf_X4_60 hx hb hT hown hK hP hD hS (hI.1 0 (by decide)) (v := 0) dX4_setRates_27 (fun H locs hP hS => ?_)
      refine lv_aload_n hx hb dX4_setRates_30 rfl (lv_at hl 0 rfl) ?_
      refine gf_X4_60 hx hb hT hown hK (v := .int 0) (hP.at (hI.1 0 (by decide)) rfl) rfl dX4_setRates_31 ?_
      refine lv_if_le (tgt := 39) hx hb dX4_setRates_34 (by decide) (fun c_3 => ?_) (fun c_3 => ?_)
      · refine lv_aload_n hx hb dX4_setRates_39 rfl (lv_at hl 0 rfl) ?_
        refine gf_X4_7 hx hb hT hown hK (v := .int (MI 0 1)) (hP.at (hI.1 0 (by decide)) rfl) rfl dX4_setRates_40 ?_
        refine lv_istore_n (lv' := [(3, .int (MI 0 1)), (0, .ref (ad 0)), (1, .int bo), (2, .int ch)]) hx hb dX4_setRates_43 rfl hl (by decide) rfl (fun ls hl => ?_)
        refine lv_aload_n hx hb dX4_setRates_44 rfl (lv_at hl 1 rfl) ?_
        refine lv_iload_n hx hb dX4_setRates_45 rfl (lv_at hl 2 rfl) ?_
        refine pf_X4_7 hx hb hT hown hK hP hD hS (hI.1 0 (by decide)) (v := bo) dX4_setRates_46 (fun H locs hP hS => ?_)
        refine lv_aload_n hx hb dX4_setRates_49 rfl (lv_at hl 1 rfl) ?_
        refine lv_iload_n hx hb dX4_setRates_50 rfl (lv_at hl 3 rfl) ?_
        refine pf_X4_13 hx hb hT hown hK hP hD hS (hI.1 0 (by decide)) (v := ch) dX4_setRates_51 (fun H locs hP hS => ?_)
        refine lv_iload_n hx hb dX4_setRates_54 rfl (lv_at hl 0 rfl) ?_
        exact zW_i hx hb hr hlk hS (Nat.le_of_ble_eq_true rfl) (Nat.le_of_ble_eq_true rfl) dX4_setRates_55 (rfl) (hP)
      · exact absurd c_3 (by decide)
set_option maxHeartbeats 4000000 in
set_option maxRecDepth 100000 in
theorem c_X4_setRates_bad (l : Launch) (hD0 : zD (fun _ => True) Rs ad) (hI : zIn Rs np ng) (bo : Int32) (ch : Int32) (hq : fIn bo 0 200 = 0 ∨ fIn ch 0 100 = 0) (sz : Nat) : zMW l yX4_setRates cX4_setRates 4 ((some .int)) 1 (22) 0 0 D ks sz [.ref (ad 0), .int bo, .int ch] (zP D Rs ad (gS ks ad np ng G MI MJ XI XJ)) (some (.int (0))) (zP D Rs ad (gS ks ad np ng G (u2 MI 0 7 1) MJ XI XJ)) (zA Rs ad sz) := by
  refine zMW.of (by decide +kernel) (Nat.le_of_ble_eq_true rfl) ?_
  intro p e s m below meth c ls hx hb hr hml hown hlk hT hsz hP hK hl hin
  have hl : lv_has ls 4 [(0, .ref (ad 0)), (1, .int bo), (2, .int ch)] := hl
  subst hsz
  have hD := hD0.self (sz := s.heap.size)
  have hA : ∀ q : Nat, s.heap.size ≤ q → zA Rs ad s.heap.size q := fun q h => Or.inr h
  have hS : va_S (zA Rs ad s.heap.size) s.heap s.heap [] := va_S.rf
  refine lv_aload_n hx hb dX4_setRates_0 rfl (lv_at hl 0 rfl) ?_
  refine lv_iload_n hx hb dX4_setRates_1 rfl (lv_at hl 1 rfl) ?_
  refine lv_iconst (v := 0) hx hb dX4_setRates_2 (by decide) ?_
  refine lv_sipush (v := 200) hx hb dX4_setRates_3 (by decide) ?_
  refine z_backR1 (z_runS ⟨hx, hb, hml, hown, hT⟩ (rest := [.ref (ad 0)]) (As := [.int bo, .int 0, .int 200]) (c_X4_in l D ks bo 0 200 ) k_X4_66 (z_preR hK trivial) rfl ⟨Nat.le_of_ble_eq_true rfl, Nat.le_of_ble_eq_true rfl⟩ hl.1 rfl (Nat.le_of_ble_eq_true rfl) dX4_setRates_6 ⟨Nat.le_of_ble_eq_true rfl, Nat.le_of_ble_eq_true rfl⟩) ?_
  refine lv_if_eq (tgt := 26) hx hb dX4_setRates_9 (by decide) (fun c_1 => ?_) (fun c_1 => ?_)
  · refine lv_iconst (v := 1) hx hb dX4_setRates_26 (by decide) ?_
    refine pf_X4_60 hx hb hT hown hK hP hD hS (hI.1 0 (by decide)) (v := 1) dX4_setRates_27 (fun H locs hP hS => ?_)
    refine lv_aload_n hx hb dX4_setRates_30 rfl (lv_at hl 0 rfl) ?_
    refine gf_X4_60 hx hb hT hown hK (v := .int 1) (hP.at (hI.1 0 (by decide)) rfl) rfl dX4_setRates_31 ?_
    refine lv_if_le (tgt := 39) hx hb dX4_setRates_34 (by decide) (fun c_2 => ?_) (fun c_2 => ?_)
    · exact absurd c_2 (by decide)
    · refine lv_iconst (v := 0) hx hb dX4_setRates_37 (by decide) ?_
      exact zW_i hx hb hr hlk hS (Nat.le_of_ble_eq_true rfl) (Nat.le_of_ble_eq_true rfl) dX4_setRates_38 (rfl) (hP)
  · refine lv_iload_n hx hb dX4_setRates_12 rfl (lv_at hl 2 rfl) ?_
    refine lv_iconst (v := 0) hx hb dX4_setRates_13 (by decide) ?_
    refine lv_bipush (v := 100) hx hb dX4_setRates_14 (by decide) ?_
    refine z_backR1 (z_runS ⟨hx, hb, hml, hown, hT⟩ (rest := [.ref (ad 0)]) (As := [.int ch, .int 0, .int 100]) (c_X4_in l D ks ch 0 100 ) k_X4_66 (z_preR hK trivial) rfl ⟨Nat.le_of_ble_eq_true rfl, Nat.le_of_ble_eq_true rfl⟩ hl.1 rfl (Nat.le_of_ble_eq_true rfl) dX4_setRates_16 ⟨Nat.le_of_ble_eq_true rfl, Nat.le_of_ble_eq_true rfl⟩) ?_
    refine lv_if_eq (tgt := 26) hx hb dX4_setRates_19 (by decide) (fun c_3 => ?_) (fun c_3 => ?_)
    · refine lv_iconst (v := 1) hx hb dX4_setRates_26 (by decide) ?_
      refine pf_X4_60 hx hb hT hown hK hP hD hS (hI.1 0 (by decide)) (v := 1) dX4_setRates_27 (fun H locs hP hS => ?_)
      refine lv_aload_n hx hb dX4_setRates_30 rfl (lv_at hl 0 rfl) ?_
      refine gf_X4_60 hx hb hT hown hK (v := .int 1) (hP.at (hI.1 0 (by decide)) rfl) rfl dX4_setRates_31 ?_
      refine lv_if_le (tgt := 39) hx hb dX4_setRates_34 (by decide) (fun c_4 => ?_) (fun c_4 => ?_)
      · exact absurd c_4 (by decide)
      · refine lv_iconst (v := 0) hx hb dX4_setRates_37 (by decide) ?_
        exact zW_i hx hb hr hlk hS (Nat.le_of_ble_eq_true rfl) (Nat.le_of_ble_eq_true rfl) dX4_setRates_38 (rfl) (hP)
    · exact absurd hq (not_or.mpr ⟨c_1, c_3⟩)
set_option maxHeartbeats 4000000 in
set_option maxRecDepth 100000 in
theorem c_X4_setScale_ok (l : Launch) (hD0 : zD (fun _ => True) Rs ad) (hI : zIn Rs np ng) (sc : Int32) (sp : Int32) (fl : Int32) (h0 : fIn sc 500 1500 = 1) (h1 : fIn sp 0 1000 = 1) (h2 : fIn fl 0 1000 = 1) (sz : Nat) : zMW l yX4_setScale cX4_setScale 5 ((some .int)) 1 (22) 0 0 D ks sz [.ref (ad 0), .int sc, .int sp, .int fl] (zP D Rs ad (gS ks ad np ng G MI MJ XI XJ)) (some (.int (MI 0 3))) (zP D Rs ad (gS ks ad np ng G (u2 (u2 (u2 (u2 MI 0 7 0) 0 3 sc) 0 4 sp) 0 5 fl) MJ XI XJ)) (zA Rs ad sz) := by
  refine zMW.of (by decide +kernel) (Nat.le_of_ble_eq_true rfl) ?_
  intro p e s m below meth c ls hx hb hr hml hown hlk hT hsz hP hK hl hin
  have hl : lv_has ls 5 [(0, .ref (ad 0)), (1, .int sc), (2, .int sp), (3, .int fl)] := hl
  subst hsz
  have hD := hD0.self (sz := s.heap.size)
  have hA : ∀ q : Nat, s.heap.size ≤ q → zA Rs ad s.heap.size q := fun q h => Or.inr h
  have hS : va_S (zA Rs ad s.heap.size) s.heap s.heap [] := va_S.rf
  refine lv_aload_n hx hb dX4_setScale_0 rfl (lv_at hl 0 rfl) ?_
  refine lv_iload_n hx hb dX4_setScale_1 rfl (lv_at hl 1 rfl) ?_
  refine lv_sipush (v := 500) hx hb dX4_setScale_2 (by decide) ?_
  refine lv_sipush (v := 1500) hx hb dX4_setScale_5 (by decide) ?_
  refine z_backR1 (z_runS ⟨hx, hb, hml, hown, hT⟩ (rest := [.ref (ad 0)]) (As := [.int sc, .int 500, .int 1500]) (c_X4_in l D ks sc 500 1500 ) k_X4_66 (z_preR hK trivial) rfl ⟨Nat.le_of_ble_eq_true rfl, Nat.le_of_ble_eq_true rfl⟩ hl.1 rfl (Nat.le_of_ble_eq_true rfl) dX4_setScale_8 ⟨Nat.le_of_ble_eq_true rfl, Nat.le_of_ble_eq_true rfl⟩) ?_
  refine lv_if_eq (tgt := 40) hx hb dX4_setScale_11 (by decide) (fun c_1 => ?_) (fun c_1 => ?_)
  · exact absurd ((h0).symm.trans c_1) (by decide)
  · refine lv_iload_n hx hb dX4_setScale_14 rfl (lv_at hl 2 rfl) ?_
    refine lv_iconst (v := 0) hx hb dX4_setScale_15 (by decide) ?_
    refine lv_sipush (v := 1000) hx hb dX4_setScale_16 (by decide) ?_
    refine z_backR1 (z_runS ⟨hx, hb, hml, hown, hT⟩ (rest := [.ref (ad 0)]) (As := [.int sp, .int 0, .int 1000]) (c_X4_in l D ks sp 0 1000 ) k_X4_66 (z_preR hK trivial) rfl ⟨Nat.le_of_ble_eq_true rfl, Nat.le_of_ble_eq_true rfl⟩ hl.1 rfl (Nat.le_of_ble_eq_true rfl) dX4_setScale_19 ⟨Nat.le_of_ble_eq_true rfl, Nat.le_of_ble_eq_true rfl⟩) ?_
    refine lv_if_eq (tgt := 40) hx hb dX4_setScale_22 (by decide) (fun c_2 => ?_) (fun c_2 => ?_)
    · exact absurd ((h1).symm.trans c_2) (by decide)
    · refine lv_iload_n hx hb dX4_setScale_25 rfl (lv_at hl 3 rfl) ?_
      refine lv_iconst (v := 0) hx hb dX4_setScale_26 (by decide) ?_
      refine lv_sipush (v := 1000) hx hb dX4_setScale_27 (by decide) ?_
      refine z_backR1 (z_runS ⟨hx, hb, hml, hown, hT⟩ (rest := [.ref (ad 0)]) (As := [.int fl, .int 0, .int 1000]) (c_X4_in l D ks fl 0 1000 ) k_X4_66 (z_preR hK trivial) rfl ⟨Nat.le_of_ble_eq_true rfl, Nat.le_of_ble_eq_true rfl⟩ hl.1 rfl (Nat.le_of_ble_eq_true rfl) dX4_setScale_30 ⟨Nat.le_of_ble_eq_true rfl, Nat.le_of_ble_eq_true rfl⟩) ?_
      refine lv_if_eq (tgt := 40) hx hb dX4_setScale_33 (by decide) (fun c_3 => ?_) (fun c_3 => ?_)
      · exact absurd ((h2).symm.trans c_3) (by decide)
      · refine lv_iconst (v := 0) hx hb dX4_setScale_36 (by decide) ?_
        refine lv_goto (tgt := 41) hx hb dX4_setScale_37 (by decide) ?_
        refine pf_X4_60 hx hb hT hown hK hP hD hS (hI.1 0 (by decide)) (v := 0) dX4_setScale_41 (fun H locs hP hS => ?_)
        refine lv_aload_n hx hb dX4_setScale_44 rfl (lv_at hl 0 rfl) ?_
        refine gf_X4_60 hx hb hT hown hK (v := .int 0) (hP.at (hI.1 0 (by decide)) rfl) rfl dX4_setScale_45 ?_
        refine lv_if_le (tgt := 53) hx hb dX4_setScale_48 (by decide) (fun c_4 => ?_) (fun c_4 => ?_)
        · refine lv_aload_n hx hb dX4_setScale_53 rfl (lv_at hl 0 rfl) ?_
          refine gf_X4_16 hx hb hT hown hK (v := .int (MI 0 3)) (hP.at (hI.1 0 (by decide)) rfl) rfl dX4_setScale_54 ?_
          refine lv_istore (lv' := [(4, .int (MI 0 3)), (0, .ref (ad 0)), (1, .int sc), (2, .int sp), (3, .int fl)]) hx hb dX4_setScale_57 hl (by decide) rfl (fun ls hl => ?_)
          refine lv_aload_n hx hb dX4_setScale_59 rfl (lv_at hl 1 rfl) ?_
          refine lv_iload_n hx hb dX4_setScale_60 rfl (lv_at hl 2 rfl) ?_
          refine pf_X4_16 hx hb hT hown hK hP hD hS (hI.1 0 (by decide)) (v := sc) dX4_setScale_61 (fun H locs hP hS => ?_)
          refine lv_aload_n hx hb dX4_setScale_64 rfl (lv_at hl 1 rfl) ?_
          refine lv_iload_n hx hb dX4_setScale_65 rfl (lv_at hl 3 rfl) ?_
          refine pf_X4_19 hx hb hT hown hK hP hD hS (hI.1 0 (by decide)) (v := sp) dX4_setScale_66 (fun H locs hP hS => ?_)
          refine lv_aload_n hx hb dX4_setScale_69 rfl (lv_at hl 1 rfl) ?_
          refine lv_iload_n hx hb dX4_setScale_70 rfl (lv_at hl 4 rfl) ?_
          refine pf_X4_22 hx hb hT hown hK hP hD hS (hI.1 0 (by decide)) (v := fl) dX4_setScale_71 (fun H locs hP hS => ?_)
          refine lv_iload hx hb dX4_setScale_74 (lv_at hl 0 rfl) ?_
          exact zW_i hx hb hr hlk hS (Nat.le_of_ble_eq_true rfl) (Nat.le_of_ble_eq_true rfl) dX4_setScale_76 (rfl) (hP)
        · exact absurd c_4 (by decide)
set_option maxHeartbeats 4000000 in
set_option maxRecDepth 100000 in
theorem c_X4_setScale_bad (l : Launch) (hD0 : zD (fun _ => True) Rs ad) (hI : zIn Rs np ng) (sc : Int32) (sp : Int32) (fl : Int32) (hq : fIn sc 500 1500 = 0 ∨ fIn sp 0 1000 = 0 ∨ fIn fl 0 1000 = 0) (sz : Nat) : zMW l yX4_setScale cX4_setScale 5 ((some .int)) 1 (22) 0 0 D ks sz [.ref (ad 0), .int sc, .int sp, .int fl] (zP D Rs ad (gS ks ad np ng G MI MJ XI XJ)) (some (.int (0))) (zP D Rs ad (gS ks ad np ng G (u2 MI 0 7 1) MJ XI XJ)) (zA Rs ad sz) := by
  refine zMW.of (by decide +kernel) (Nat.le_of_ble_eq_true rfl) ?_
  intro p e s m below meth c ls hx hb hr hml hown hlk hT hsz hP hK hl hin
  have hl : lv_has ls 5 [(0, .ref (ad 0)), (1, .int sc), (2, .int sp), (3, .int fl)] := hl
  subst hsz
  have hD := hD0.self (sz := s.heap.size)
  have hA : ∀ q : Nat, s.heap.size ≤ q → zA Rs ad s.heap.size q := fun q h => Or.inr h
  have hS : va_S (zA Rs ad s.heap.size) s.heap s.heap [] := va_S.rf
  refine lv_aload_n hx hb dX4_setScale_0 rfl (lv_at hl 0 rfl) ?_
  refine lv_iload_n hx hb dX4_setScale_1 rfl (lv_at hl 1 rfl) ?_
  refine lv_sipush (v := 500) hx hb dX4_setScale_2 (by decide) ?_
  refine lv_sipush (v := 1500) hx hb dX4_setScale_5 (by decide) ?_
  refine z_backR1 (z_runS ⟨hx, hb, hml, hown, hT⟩ (rest := [.ref (ad 0)]) (As := [.int sc, .int 500, .int 1500]) (c_X4_in l D ks sc 500 1500 ) k_X4_66 (z_preR hK trivial) rfl ⟨Nat.le_of_ble_eq_true rfl, Nat.le_of_ble_eq_true rfl⟩ hl.1 rfl (Nat.le_of_ble_eq_true rfl) dX4_setScale_8 ⟨Nat.le_of_ble_eq_true rfl, Nat.le_of_ble_eq_true rfl⟩) ?_
  refine lv_if_eq (tgt := 40) hx hb dX4_setScale_11 (by decide) (fun c_1 => ?_) (fun c_1 => ?_)
  · refine lv_iconst (v := 1) hx hb dX4_setScale_40 (by decide) ?_
    refine pf_X4_60 hx hb hT hown hK hP hD hS (hI.1 0 (by decide)) (v := 1) dX4_setScale_41 (fun H locs hP hS => ?_)
    refine lv_aload_n hx hb dX4_setScale_44 rfl (lv_at hl 0 rfl) ?_
    refine gf_X4_60 hx hb hT hown hK (v := .int 1) (hP.at (hI.1 0 (by decide)) rfl) rfl dX4_setScale_45 ?_
    refine lv_if_le (tgt := 53) hx hb dX4_setScale_48 (by decide) (fun c_2 => ?_) (fun c_2 => ?_)
    · exact absurd c_2 (by decide)
    · refine lv_iconst (v := 0) hx hb dX4_setScale_51 (by decide) ?_
      exact zW_i hx hb hr hlk hS (Nat.le_of_ble_eq_true rfl) (Nat.le_of_ble_eq_true rfl) dX4_setScale_52 (rfl) (hP)
  · refine lv_iload_n hx hb dX4_setScale_14 rfl (lv_at hl 2 rfl) ?_
    refine lv_iconst (v := 0) hx hb dX4_setScale_15 (by decide) ?_
    refine lv_sipush (v := 1000) hx hb dX4_setScale_16 (by decide) ?_
    refine z_backR1 (z_runS ⟨hx, hb, hml, hown, hT⟩ (rest := [.ref (ad 0)]) (As := [.int sp, .int 0, .int 1000]) (c_X4_in l D ks sp 0 1000 ) k_X4_66 (z_preR hK trivial) rfl ⟨Nat.le_of_ble_eq_true rfl, Nat.le_of_ble_eq_true rfl⟩ hl.1 rfl (Nat.le_of_ble_eq_true rfl) dX4_setScale_19 ⟨Nat.le_of_ble_eq_true rfl, Nat.le_of_ble_eq_true rfl⟩) ?_
    refine lv_if_eq (tgt := 40) hx hb dX4_setScale_22 (by decide) (fun c_3 => ?_) (fun c_3 => ?_)
    · refine lv_iconst (v := 1) hx hb dX4_setScale_40 (by decide) ?_
      refine pf_X4_60 hx hb hT hown hK hP hD hS (hI.1 0 (by decide)) (v := 1) dX4_setScale_41 (fun H locs hP hS => ?_)
      refine lv_aload_n hx hb dX4_setScale_44 rfl (lv_at hl 0 rfl) ?_
      refine gf_X4_60 hx hb hT hown hK (v := .int 1) (hP.at (hI.1 0 (by decide)) rfl) rfl dX4_setScale_45 ?_
      refine lv_if_le (tgt := 53) hx hb dX4_setScale_48 (by decide) (fun c_4 => ?_) (fun c_4 => ?_)
      · exact absurd c_4 (by decide)
      · refine lv_iconst (v := 0) hx hb dX4_setScale_51 (by decide) ?_
        exact zW_i hx hb hr hlk hS (Nat.le_of_ble_eq_true rfl) (Nat.le_of_ble_eq_true rfl) dX4_setScale_52 (rfl) (hP)
    · refine lv_iload_n hx hb dX4_setScale_25 rfl (lv_at hl 3 rfl) ?_
      refine lv_iconst (v := 0) hx hb dX4_setScale_26 (by decide) ?_
      refine lv_sipush (v := 1000) hx hb dX4_setScale_27 (by decide) ?_
      refine z_backR1 (z_runS ⟨hx, hb, hml, hown, hT⟩ (rest := [.ref (ad 0)]) (As := [.int fl, .int 0, .int 1000]) (c_X4_in l D ks fl 0 1000 ) k_X4_66 (z_preR hK trivial) rfl ⟨Nat.le_of_ble_eq_true rfl, Nat.le_of_ble_eq_true rfl⟩ hl.1 rfl (Nat.le_of_ble_eq_true rfl) dX4_setScale_30 ⟨Nat.le_of_ble_eq_true rfl, Nat.le_of_ble_eq_true rfl⟩) ?_
      refine lv_if_eq (tgt := 40) hx hb dX4_setScale_33 (by decide) (fun c_5 => ?_) (fun c_5 => ?_)
      · refine lv_iconst (v := 1) hx hb dX4_setScale_40 (by decide) ?_
        refine pf_X4_60 hx hb hT hown hK hP hD hS (hI.1 0 (by decide)) (v := 1) dX4_setScale_41 (fun H locs hP hS => ?_)
        refine lv_aload_n hx hb dX4_setScale_44 rfl (lv_at hl 0 rfl) ?_
        refine gf_X4_60 hx hb hT hown hK (v := .int 1) (hP.at (hI.1 0 (by decide)) rfl) rfl dX4_setScale_45 ?_
        refine lv_if_le (tgt := 53) hx hb dX4_setScale_48 (by decide) (fun c_6 => ?_) (fun c_6 => ?_)
        · exact absurd c_6 (by decide)
        · refine lv_iconst (v := 0) hx hb dX4_setScale_51 (by decide) ?_
          exact zW_i hx hb hr hlk hS (Nat.le_of_ble_eq_true rfl) (Nat.le_of_ble_eq_true rfl) dX4_setScale_52 (rfl) (hP)
      · exact absurd hq (not_or.mpr ⟨c_1, not_or.mpr ⟨c_3, c_5⟩⟩)
set_option maxHeartbeats 4000000 in
set_option maxRecDepth 100000 in
theorem c_X4_endow_ok (l : Launch) (hD0 : zD (fun _ => True) Rs ad) (hI : zIn Rs np ng) (am : Int32) (h0 : fIn am (-1000000) 1000000 = 1) (sz : Nat) : zMW l yX4_endow cX4_endow 2 ((some .long)) 1 (22) 0 0 D ks sz [.ref (ad 0), .int am] (zP D Rs ad (gS ks ad np ng G MI MJ XI XJ)) (some (.long (MJ 0 0 + Int32.toInt64 am))) (zP D Rs ad (gS ks ad np ng G (u2 MI 0 7 0) (u2 (u2 MJ 0 0 (MJ 0 0 + Int32.toInt64 am)) 0 1 (MJ 0 1 + Int32.toInt64 am)) XI XJ)) (zA Rs ad sz) := by
  refine zMW.of (by decide +kernel) (Nat.le_of_ble_eq_true rfl) ?_
  intro p e s m below meth c ls hx hb hr hml hown hlk hT hsz hP hK hl hin
  have hl : lv_has ls 2 [(0, .ref (ad 0)), (1, .int am)] := hl
  subst hsz
  have hD := hD0.self (sz := s.heap.size)
  have hA : ∀ q : Nat, s.heap.size ≤ q → zA Rs ad s.heap.size q := fun q h => Or.inr h
  have hS : va_S (zA Rs ad s.heap.size) s.heap s.heap [] := va_S.rf
  refine lv_aload_n hx hb dX4_endow_0 rfl (lv_at hl 0 rfl) ?_
  refine lv_iload_n hx hb dX4_endow_1 rfl (lv_at hl 1 rfl) ?_
  refine lv_ldc (v := (-1000000)) hx hb hown (hT _ ki_X4_121) dX4_endow_2 ?_
  refine lv_ldc (v := 1000000) hx hb hown (hT _ ki_X4_122) dX4_endow_4 ?_
  refine z_backR1 (z_runS ⟨hx, hb, hml, hown, hT⟩ (rest := [.ref (ad 0)]) (As := [.int am, .int (-1000000), .int 1000000]) (c_X4_in l D ks am (-1000000) 1000000 ) k_X4_66 (z_preR hK trivial) rfl ⟨Nat.le_of_ble_eq_true rfl, Nat.le_of_ble_eq_true rfl⟩ hl.1 rfl (Nat.le_of_ble_eq_true rfl) dX4_endow_6 ⟨Nat.le_of_ble_eq_true rfl, Nat.le_of_ble_eq_true rfl⟩) ?_
  refine lv_if_eq (tgt := 16) hx hb dX4_endow_9 (by decide) (fun c_1 => ?_) (fun c_1 => ?_)
  · exact absurd ((h0).symm.trans c_1) (by decide)
  · refine lv_iconst (v := 0) hx hb dX4_endow_12 (by decide) ?_
    refine lv_goto (tgt := 17) hx hb dX4_endow_13 (by decide) ?_
    refine pf_X4_60 hx hb hT hown hK hP hD hS (hI.1 0 (by decide)) (v := 0) dX4_endow_17 (fun H locs hP hS => ?_)
    refine lv_aload_n hx hb dX4_endow_20 rfl (lv_at hl 0 rfl) ?_
    refine gf_X4_60 hx hb hT hown hK (v := .int 0) (hP.at (hI.1 0 (by decide)) rfl) rfl dX4_endow_21 ?_
    refine lv_if_le (tgt := 29) hx hb dX4_endow_24 (by decide) (fun c_2 => ?_) (fun c_2 => ?_)
    · refine lv_aload_n hx hb dX4_endow_29 rfl (lv_at hl 0 rfl) ?_
      refine lv_dup hx hb dX4_endow_30 rfl ?_
      refine gf_X4_84 hx hb hT hown hK (v := .long (MJ 0 0)) (hP.at (hI.1 0 (by decide)) rfl) rfl dX4_endow_31 ?_
      refine lv_iload_n hx hb dX4_endow_34 rfl (lv_at hl 1 rfl) ?_
      refine lv_i2l hx hb dX4_endow_35 rfl ?_
      refine lv_ladd hx hb dX4_endow_36 ?_
      refine pf_X4_84 hx hb hT hown hK hP hD hS (hI.1 0 (by decide)) (v := (MJ 0 0) + (Int32.toInt64 am)) dX4_endow_37 (fun H locs hP hS => ?_)
      refine lv_aload_n hx hb dX4_endow_40 rfl (lv_at hl 0 rfl) ?_
      refine lv_dup hx hb dX4_endow_41 rfl ?_
      refine gf_X4_88 hx hb hT hown hK (v := .long (MJ 0 1)) (hP.at (hI.1 0 (by decide)) rfl) rfl dX4_endow_42 ?_
      refine lv_iload_n hx hb dX4_endow_45 rfl (lv_at hl 1 rfl) ?_
      refine lv_i2l hx hb dX4_endow_46 rfl ?_
      refine lv_ladd hx hb dX4_endow_47 ?_
      refine pf_X4_88 hx hb hT hown hK hP hD hS (hI.1 0 (by decide)) (v := (MJ 0 1) + (Int32.toInt64 am)) dX4_endow_48 (fun H locs hP hS => ?_)
      refine lv_aload_n hx hb dX4_endow_51 rfl (lv_at hl 0 rfl) ?_
      refine gf_X4_84 hx hb hT hown hK (v := .long ((MJ 0 0) + (Int32.toInt64 am))) (hP.at (hI.1 0 (by decide)) rfl) rfl dX4_endow_52 ?_
      exact zW_l hx hb hr hlk hS (Nat.le_of_ble_eq_true rfl) (Nat.le_of_ble_eq_true rfl) dX4_endow_55 (rfl) (hP)
    · exact absurd c_2 (by decide)
set_option maxHeartbeats 4000000 in
set_option maxRecDepth 100000 in
theorem c_X4_endow_bad (l : Launch) (hD0 : zD (fun _ => True) Rs ad) (hI : zIn Rs np ng) (am : Int32) (h0 : fIn am (-1000000) 1000000 = 0) (sz : Nat) : zMW l yX4_endow cX4_endow 2 ((some .long)) 1 (22) 0 0 D ks sz [.ref (ad 0), .int am] (zP D Rs ad (gS ks ad np ng G MI MJ XI XJ)) (some (.long (0))) (zP D Rs ad (gS ks ad np ng G (u2 MI 0 7 1) MJ XI XJ)) (zA Rs ad sz) := by
  refine zMW.of (by decide +kernel) (Nat.le_of_ble_eq_true rfl) ?_
  intro p e s m below meth c ls hx hb hr hml hown hlk hT hsz hP hK hl hin
  have hl : lv_has ls 2 [(0, .ref (ad 0)), (1, .int am)] := hl
  subst hsz
  have hD := hD0.self (sz := s.heap.size)
  have hA : ∀ q : Nat, s.heap.size ≤ q → zA Rs ad s.heap.size q := fun q h => Or.inr h
  have hS : va_S (zA Rs ad s.heap.size) s.heap s.heap [] := va_S.rf
  refine lv_aload_n hx hb dX4_endow_0 rfl (lv_at hl 0 rfl) ?_
  refine lv_iload_n hx hb dX4_endow_1 rfl (lv_at hl 1 rfl) ?_
  refine lv_ldc (v := (-1000000)) hx hb hown (hT _ ki_X4_121) dX4_endow_2 ?_
  refine lv_ldc (v := 1000000) hx hb hown (hT _ ki_X4_122) dX4_endow_4 ?_
  refine z_backR1 (z_runS ⟨hx, hb, hml, hown, hT⟩ (rest := [.ref (ad 0)]) (As := [.int am, .int (-1000000), .int 1000000]) (c_X4_in l D ks am (-1000000) 1000000 ) k_X4_66 (z_preR hK trivial) rfl ⟨Nat.le_of_ble_eq_true rfl, Nat.le_of_ble_eq_true rfl⟩ hl.1 rfl (Nat.le_of_ble_eq_true rfl) dX4_endow_6 ⟨Nat.le_of_ble_eq_true rfl, Nat.le_of_ble_eq_true rfl⟩) ?_
  refine lv_if_eq (tgt := 16) hx hb dX4_endow_9 (by decide) (fun c_1 => ?_) (fun c_1 => ?_)
  · refine lv_iconst (v := 1) hx hb dX4_endow_16 (by decide) ?_
    refine pf_X4_60 hx hb hT hown hK hP hD hS (hI.1 0 (by decide)) (v := 1) dX4_endow_17 (fun H locs hP hS => ?_)
    refine lv_aload_n hx hb dX4_endow_20 rfl (lv_at hl 0 rfl) ?_
    refine gf_X4_60 hx hb hT hown hK (v := .int 1) (hP.at (hI.1 0 (by decide)) rfl) rfl dX4_endow_21 ?_
    refine lv_if_le (tgt := 29) hx hb dX4_endow_24 (by decide) (fun c_2 => ?_) (fun c_2 => ?_)
    · exact absurd c_2 (by decide)
    · refine lv_lconst (v := 0) hx hb dX4_endow_27 (by decide) ?_
      exact zW_l hx hb hr hlk hS (Nat.le_of_ble_eq_true rfl) (Nat.le_of_ble_eq_true rfl) dX4_endow_28 (rfl) (hP)
  · exact absurd (h0) c_1
set_option maxHeartbeats 4000000 in
set_option maxRecDepth 100000 in
theorem c_X4_begin_ok (l : Launch) (hD0 : zD (fun _ => True) Rs ad) (hI : zIn Rs np ng) (te : Int32) (pr : Int32) (su : Int32) (hnp : MI 0 6 = nI np) (hN : np < 30) (h0 : fIn te 2 20 = 1) (h1 : fIn pr 1 1000 = 1) (h2 : fIn su 0 100000 = 1) (sz : Nat) : zMW l yX4_begin cX4_begin 4 ((some .int)) 1 (22) 0 0 D ks sz [.ref (ad 0), .int te, .int pr, .int su] (zP D Rs ad (gS ks ad np ng G MI MJ XI XJ)) (some (.int (nI np))) (zP D Rs ad (gS ks ad np ng G (u2 (u2 (u2 (u2 (u2 (u2 MI 0 7 0) 1 np (MI 0 0)) 2 np te) 3 np pr) 4 np su) 0 6 (nI (np + 1))) MJ XI XJ)) (zA Rs ad sz) := by
  refine zMW.of (by decide +kernel) (Nat.le_of_ble_eq_true rfl) ?_
  intro p e s m below meth c ls hx hb hr hml hown hlk hT hsz hP hK hl hin
  have hl : lv_has ls 4 [(0, .ref (ad 0)), (1, .int te), (2, .int pr), (3, .int su)] := hl
  subst hsz
  have hD := hD0.self (sz := s.heap.size)
  have hA : ∀ q : Nat, s.heap.size ≤ q → zA Rs ad s.heap.size q := fun q h => Or.inr h
  have hS : va_S (zA Rs ad s.heap.size) s.heap s.heap [] := va_S.rf
  refine lv_aload_n hx hb dX4_begin_0 rfl (lv_at hl 0 rfl) ?_
  refine lv_iload_n hx hb dX4_begin_1 rfl (lv_at hl 1 rfl) ?_
  refine lv_iconst (v := 2) hx hb dX4_begin_2 (by decide) ?_
  refine lv_bipush (v := 20) hx hb dX4_begin_3 (by decide) ?_
  refine z_backR1 (z_runS ⟨hx, hb, hml, hown, hT⟩ (rest := [.ref (ad 0)]) (As := [.int te, .int 2, .int 20]) (c_X4_in l D ks te 2 20 ) k_X4_66 (z_preR hK trivial) rfl ⟨Nat.le_of_ble_eq_true rfl, Nat.le_of_ble_eq_true rfl⟩ hl.1 rfl (Nat.le_of_ble_eq_true rfl) dX4_begin_5 ⟨Nat.le_of_ble_eq_true rfl, Nat.le_of_ble_eq_true rfl⟩) ?_
  refine lv_if_eq (tgt := 32) hx hb dX4_begin_8 (by decide) (fun c_1 => ?_) (fun c_1 => ?_)
  · exact absurd ((h0).symm.trans c_1) (by decide)
  · refine lv_iload_n hx hb dX4_begin_11 rfl (lv_at hl 2 rfl) ?_
    refine lv_iconst (v := 1) hx hb dX4_begin_12 (by decide) ?_
    refine lv_sipush (v := 1000) hx hb dX4_begin_13 (by decide) ?_
    refine z_backR1 (z_runS ⟨hx, hb, hml, hown, hT⟩ (rest := [.ref (ad 0)]) (As := [.int pr, .int 1, .int 1000]) (c_X4_in l D ks pr 1 1000 ) k_X4_66 (z_preR hK trivial) rfl ⟨Nat.le_of_ble_eq_true rfl, Nat.le_of_ble_eq_true rfl⟩ hl.1 rfl (Nat.le_of_ble_eq_true rfl) dX4_begin_16 ⟨Nat.le_of_ble_eq_true rfl, Nat.le_of_ble_eq_true rfl⟩) ?_
    refine lv_if_eq (tgt := 32) hx hb dX4_begin_19 (by decide) (fun c_2 => ?_) (fun c_2 => ?_)
    · exact absurd ((h1).symm.trans c_2) (by decide)
    · refine lv_iload_n hx hb dX4_begin_22 rfl (lv_at hl 3 rfl) ?_
      refine lv_iconst (v := 0) hx hb dX4_begin_23 (by decide) ?_
      refine lv_ldc (v := 100000) hx hb hown (hT _ ki_X4_91) dX4_begin_24 ?_
      refine z_backR1 (z_runS ⟨hx, hb, hml, hown, hT⟩ (rest := [.ref (ad 0)]) (As := [.int su, .int 0, .int 100000]) (c_X4_in l D ks su 0 100000 ) k_X4_66 (z_preR hK trivial) rfl ⟨Nat.le_of_ble_eq_true rfl, Nat.le_of_ble_eq_true rfl⟩ hl.1 rfl (Nat.le_of_ble_eq_true rfl) dX4_begin_26 ⟨Nat.le_of_ble_eq_true rfl, Nat.le_of_ble_eq_true rfl⟩) ?_
      refine lv_if_ne (tgt := 36) hx hb dX4_begin_29 (by decide) (fun c_3 => ?_) (fun c_3 => ?_)
      · refine lv_aload_n hx hb dX4_begin_36 rfl (lv_at hl 0 rfl) ?_
        refine gf_X4_63 hx hb hT hown hK (hP.at (hI.1 0 (by decide)) rfl) rfl dX4_begin_37 ?_
        refine lv_bipush (v := 30) hx hb dX4_begin_40 (by decide) ?_
        refine lv_icmp_ne (tgt := 49) hx hb dX4_begin_42 (by decide) (fun c_4 => ?_) (fun c_4 => ?_)
        · refine lv_iconst (v := 0) hx hb dX4_begin_49 (by decide) ?_
          refine pf_X4_60 hx hb hT hown hK hP hD hS (hI.1 0 (by decide)) (v := 0) dX4_begin_50 (fun H locs hP hS => ?_)
          refine lv_aload_n hx hb dX4_begin_53 rfl (lv_at hl 0 rfl) ?_
          refine gf_X4_60 hx hb hT hown hK (v := .int 0) (hP.at (hI.1 0 (by decide)) rfl) rfl dX4_begin_54 ?_
          refine lv_if_le (tgt := 62) hx hb dX4_begin_57 (by decide) (fun c_5 => ?_) (fun c_5 => ?_)
          · refine lv_aload_n hx hb dX4_begin_62 rfl (lv_at hl 0 rfl) ?_
            refine gf_X4_25 hx hb hT hown hK (v := .ref (ad 1)) (hP.at (hI.1 0 (by decide)) rfl) rfl dX4_begin_63 ?_
            refine lv_aload_n hx hb dX4_begin_66 rfl (lv_at hl 0 rfl) ?_
            refine gf_X4_63 hx hb hT hown hK (v := .int (MI 0 6)) (hP.at (hI.1 0 (by decide)) rfl) rfl dX4_begin_67 ?_
            rw [hnp]
            refine lv_aload_n hx hb dX4_begin_70 rfl (lv_at hl 0 rfl) ?_
            refine gf_X4_92 hx hb hT hown hK (v := .int (MI 0 0)) (hP.at (hI.1 0 (by decide)) rfl) rfl dX4_begin_71 ?_
            refine as_1N hx hb hK hP hD hS (hI.1 1 (by decide)) (v := MI 0 0) (by omega) dX4_begin_74 (fun H locs hP hS => ?_)
            refine lv_aload_n hx hb dX4_begin_75 rfl (lv_at hl 0 rfl) ?_
            refine gf_X4_29 hx hb hT hown hK (v := .ref (ad 2)) (hP.at (hI.1 0 (by decide)) rfl) rfl dX4_begin_76 ?_
            refine lv_aload_n hx hb dX4_begin_79 rfl (lv_at hl 0 rfl) ?_
            refine gf_X4_63 hx hb hT hown hK (v := .int (MI 0 6)) (hP.at (hI.1 0 (by decide)) rfl) rfl dX4_begin_80 ?_
            rw [hnp]
            refine lv_iload_n hx hb dX4_begin_83 rfl (lv_at hl 1 rfl) ?_
            refine as_2N hx hb hK hP hD hS (hI.1 2 (by decide)) (v := te) (by omega) dX4_begin_84 (fun H locs hP hS => ?_)
            refine lv_aload_n hx hb dX4_begin_85 rfl (lv_at hl 0 rfl) ?_
            refine gf_X4_32 hx hb hT hown hK (v := .ref (ad 3)) (hP.at (hI.1 0 (by decide)) rfl) rfl dX4_begin_86 ?_
            refine lv_aload_n hx hb dX4_begin_89 rfl (lv_at hl 0 rfl) ?_
            refine gf_X4_63 hx hb hT hown hK (v := .int (MI 0 6)) (hP.at (hI.1 0 (by decide)) rfl) rfl dX4_begin_90 ?_
            rw [hnp]
            refine lv_iload_n hx hb dX4_begin_93 rfl (lv_at hl 2 rfl) ?_
            refine as_3N hx hb hK hP hD hS (hI.1 3 (by decide)) (v := pr) (by omega) dX4_begin_94 (fun H locs hP hS => ?_)
            refine lv_aload_n hx hb dX4_begin_95 rfl (lv_at hl 0 rfl) ?_
            refine gf_X4_35 hx hb hT hown hK (v := .ref (ad 4)) (hP.at (hI.1 0 (by decide)) rfl) rfl dX4_begin_96 ?_
            refine lv_aload_n hx hb dX4_begin_99 rfl (lv_at hl 0 rfl) ?_
            refine gf_X4_63 hx hb hT hown hK (v := .int (MI 0 6)) (hP.at (hI.1 0 (by decide)) rfl) rfl dX4_begin_100 ?_
            rw [hnp]
            refine lv_iload_n hx hb dX4_begin_103 rfl (lv_at hl 3 rfl) ?_
            refine as_4N hx hb hK hP hD hS (hI.1 4 (by decide)) (v := su) (by omega) dX4_begin_104 (fun H locs hP hS => ?_)
            refine lv_aload_n hx hb dX4_begin_105 rfl (lv_at hl 0 rfl) ?_
            refine lv_dup hx hb dX4_begin_106 rfl ?_
            refine gf_X4_63 hx hb hT hown hK (v := .int (MI 0 6)) (hP.at (hI.1 0 (by decide)) rfl) rfl dX4_begin_107 ?_
            rw [hnp]
            refine lv_iconst (v := 1) hx hb dX4_begin_110 (by decide) ?_
            refine lv_iadd hx hb dX4_begin_111 ?_
            rw [nI_1 np]
            refine pf_X4_63 hx hb hT hown hK hP hD hS (hI.1 0 (by decide)) (v := nI (np + 1)) dX4_begin_112 (fun H locs hP hS => ?_)
            refine lv_aload_n hx hb dX4_begin_115 rfl (lv_at hl 0 rfl) ?_
            refine gf_X4_63 hx hb hT hown hK (v := .int (nI (np + 1))) (hP.at (hI.1 0 (by decide)) rfl) rfl dX4_begin_116 ?_
            refine lv_iconst (v := 1) hx hb dX4_begin_119 (by decide) ?_
            refine lv_isub hx hb dX4_begin_120 ?_
            rw [nI_pred np]
            exact zW_i hx hb hr hlk hS (Nat.le_of_ble_eq_true rfl) (Nat.le_of_ble_eq_true rfl) dX4_begin_121 (rfl) (hP)
          · exact absurd c_5 (by decide)
        · exact absurd (show np = 30 from (nI_eq (a := np) (b := 30) (by omega) (by decide)).mp (hnp.symm.trans c_4)) (by omega)
      · exact absurd ((h2).symm.trans c_3) (by decide)
set_option maxHeartbeats 4000000 in
set_option maxRecDepth 100000 in
theorem c_X4_begin_full (l : Launch) (hD0 : zD (fun _ => True) Rs ad) (hI : zIn Rs np ng) (te : Int32) (pr : Int32) (su : Int32) (hf : MI 0 6 = 30) (h0 : fIn te 2 20 = 1) (h1 : fIn pr 1 1000 = 1) (h2 : fIn su 0 100000 = 1) (sz : Nat) : zMW l yX4_begin cX4_begin 4 ((some .int)) 1 (22) 0 0 D ks sz [.ref (ad 0), .int te, .int pr, .int su] (zP D Rs ad (gS ks ad np ng G MI MJ XI XJ)) (some (.int (0))) (zP D Rs ad (gS ks ad np ng G (u2 MI 0 7 2) MJ XI XJ)) (zA Rs ad sz) := by
  refine zMW.of (by decide +kernel) (Nat.le_of_ble_eq_true rfl) ?_
  intro p e s m below meth c ls hx hb hr hml hown hlk hT hsz hP hK hl hin
  have hl : lv_has ls 4 [(0, .ref (ad 0)), (1, .int te), (2, .int pr), (3, .int su)] := hl
  subst hsz
  have hD := hD0.self (sz := s.heap.size)
  have hA : ∀ q : Nat, s.heap.size ≤ q → zA Rs ad s.heap.size q := fun q h => Or.inr h
  have hS : va_S (zA Rs ad s.heap.size) s.heap s.heap [] := va_S.rf
  refine lv_aload_n hx hb dX4_begin_0 rfl (lv_at hl 0 rfl) ?_
  refine lv_iload_n hx hb dX4_begin_1 rfl (lv_at hl 1 rfl) ?_
  refine lv_iconst (v := 2) hx hb dX4_begin_2 (by decide) ?_
  refine lv_bipush (v := 20) hx hb dX4_begin_3 (by decide) ?_
  refine z_backR1 (z_runS ⟨hx, hb, hml, hown, hT⟩ (rest := [.ref (ad 0)]) (As := [.int te, .int 2, .int 20]) (c_X4_in l D ks te 2 20 ) k_X4_66 (z_preR hK trivial) rfl ⟨Nat.le_of_ble_eq_true rfl, Nat.le_of_ble_eq_true rfl⟩ hl.1 rfl (Nat.le_of_ble_eq_true rfl) dX4_begin_5 ⟨Nat.le_of_ble_eq_true rfl, Nat.le_of_ble_eq_true rfl⟩) ?_
  refine lv_if_eq (tgt := 32) hx hb dX4_begin_8 (by decide) (fun c_1 => ?_) (fun c_1 => ?_)
  · exact absurd ((h0).symm.trans c_1) (by decide)
  · refine lv_iload_n hx hb dX4_begin_11 rfl (lv_at hl 2 rfl) ?_
    refine lv_iconst (v := 1) hx hb dX4_begin_12 (by decide) ?_
    refine lv_sipush (v := 1000) hx hb dX4_begin_13 (by decide) ?_
    refine z_backR1 (z_runS ⟨hx, hb, hml, hown, hT⟩ (rest := [.ref (ad 0)]) (As := [.int pr, .int 1, .int 1000]) (c_X4_in l D ks pr 1 1000 ) k_X4_66 (z_preR hK trivial) rfl ⟨Nat.le_of_ble_eq_true rfl, Nat.le_of_ble_eq_true rfl⟩ hl.1 rfl (Nat.le_of_ble_eq_true rfl) dX4_begin_16 ⟨Nat.le_of_ble_eq_true rfl, Nat.le_of_ble_eq_true rfl⟩) ?_
    refine lv_if_eq (tgt := 32) hx hb dX4_begin_19 (by decide) (fun c_2 => ?_) (fun c_2 => ?_)
    · exact absurd ((h1).symm.trans c_2) (by decide)
    · refine lv_iload_n hx hb dX4_begin_22 rfl (lv_at hl 3 rfl) ?_
      refine lv_iconst (v := 0) hx hb dX4_begin_23 (by decide) ?_
      refine lv_ldc (v := 100000) hx hb hown (hT _ ki_X4_91) dX4_begin_24 ?_
      refine z_backR1 (z_runS ⟨hx, hb, hml, hown, hT⟩ (rest := [.ref (ad 0)]) (As := [.int su, .int 0, .int 100000]) (c_X4_in l D ks su 0 100000 ) k_X4_66 (z_preR hK trivial) rfl ⟨Nat.le_of_ble_eq_true rfl, Nat.le_of_ble_eq_true rfl⟩ hl.1 rfl (Nat.le_of_ble_eq_true rfl) dX4_begin_26 ⟨Nat.le_of_ble_eq_true rfl, Nat.le_of_ble_eq_true rfl⟩) ?_
      refine lv_if_ne (tgt := 36) hx hb dX4_begin_29 (by decide) (fun c_3 => ?_) (fun c_3 => ?_)
      · refine lv_aload_n hx hb dX4_begin_36 rfl (lv_at hl 0 rfl) ?_
        refine gf_X4_63 hx hb hT hown hK (hP.at (hI.1 0 (by decide)) rfl) rfl dX4_begin_37 ?_
        refine lv_bipush (v := 30) hx hb dX4_begin_40 (by decide) ?_
        refine lv_icmp_ne (tgt := 49) hx hb dX4_begin_42 (by decide) (fun c_4 => ?_) (fun c_4 => ?_)
        · exact absurd (hf) c_4
        · refine lv_iconst (v := 2) hx hb dX4_begin_45 (by decide) ?_
          refine lv_goto (tgt := 50) hx hb dX4_begin_46 (by decide) ?_
          refine pf_X4_60 hx hb hT hown hK hP hD hS (hI.1 0 (by decide)) (v := 2) dX4_begin_50 (fun H locs hP hS => ?_)
          refine lv_aload_n hx hb dX4_begin_53 rfl (lv_at hl 0 rfl) ?_
          refine gf_X4_60 hx hb hT hown hK (v := .int 2) (hP.at (hI.1 0 (by decide)) rfl) rfl dX4_begin_54 ?_
          refine lv_if_le (tgt := 62) hx hb dX4_begin_57 (by decide) (fun c_5 => ?_) (fun c_5 => ?_)
          · exact absurd c_5 (by decide)
          · refine lv_iconst (v := 0) hx hb dX4_begin_60 (by decide) ?_
            exact zW_i hx hb hr hlk hS (Nat.le_of_ble_eq_true rfl) (Nat.le_of_ble_eq_true rfl) dX4_begin_61 (rfl) (hP)
      · exact absurd ((h2).symm.trans c_3) (by decide)
set_option maxHeartbeats 4000000 in
set_option maxRecDepth 100000 in
theorem c_X4_begin_bad (l : Launch) (hD0 : zD (fun _ => True) Rs ad) (hI : zIn Rs np ng) (te : Int32) (pr : Int32) (su : Int32) (hq : fIn te 2 20 = 0 ∨ fIn pr 1 1000 = 0 ∨ fIn su 0 100000 = 0) (sz : Nat) : zMW l yX4_begin cX4_begin 4 ((some .int)) 1 (22) 0 0 D ks sz [.ref (ad 0), .int te, .int pr, .int su] (zP D Rs ad (gS ks ad np ng G MI MJ XI XJ)) (some (.int (0))) (zP D Rs ad (gS ks ad np ng G (u2 MI 0 7 1) MJ XI XJ)) (zA Rs ad sz) := by
  refine zMW.of (by decide +kernel) (Nat.le_of_ble_eq_true rfl) ?_
  intro p e s m below meth c ls hx hb hr hml hown hlk hT hsz hP hK hl hin
  have hl : lv_has ls 4 [(0, .ref (ad 0)), (1, .int te), (2, .int pr), (3, .int su)] := hl
  subst hsz
  have hD := hD0.self (sz := s.heap.size)
  have hA : ∀ q : Nat, s.heap.size ≤ q → zA Rs ad s.heap.size q := fun q h => Or.inr h
  have hS : va_S (zA Rs ad s.heap.size) s.heap s.heap [] := va_S.rf
  refine lv_aload_n hx hb dX4_begin_0 rfl (lv_at hl 0 rfl) ?_
  refine lv_iload_n hx hb dX4_begin_1 rfl (lv_at hl 1 rfl) ?_
  refine lv_iconst (v := 2) hx hb dX4_begin_2 (by decide) ?_
  refine lv_bipush (v := 20) hx hb dX4_begin_3 (by decide) ?_
  refine z_backR1 (z_runS ⟨hx, hb, hml, hown, hT⟩ (rest := [.ref (ad 0)]) (As := [.int te, .int 2, .int 20]) (c_X4_in l D ks te 2 20 ) k_X4_66 (z_preR hK trivial) rfl ⟨Nat.le_of_ble_eq_true rfl, Nat.le_of_ble_eq_true rfl⟩ hl.1 rfl (Nat.le_of_ble_eq_true rfl) dX4_begin_5 ⟨Nat.le_of_ble_eq_true rfl, Nat.le_of_ble_eq_true rfl⟩) ?_
  refine lv_if_eq (tgt := 32) hx hb dX4_begin_8 (by decide) (fun c_1 => ?_) (fun c_1 => ?_)
  · refine lv_iconst (v := 1) hx hb dX4_begin_32 (by decide) ?_
    refine lv_goto (tgt := 50) hx hb dX4_begin_33 (by decide) ?_
    refine pf_X4_60 hx hb hT hown hK hP hD hS (hI.1 0 (by decide)) (v := 1) dX4_begin_50 (fun H locs hP hS => ?_)
    refine lv_aload_n hx hb dX4_begin_53 rfl (lv_at hl 0 rfl) ?_
    refine gf_X4_60 hx hb hT hown hK (v := .int 1) (hP.at (hI.1 0 (by decide)) rfl) rfl dX4_begin_54 ?_
    refine lv_if_le (tgt := 62) hx hb dX4_begin_57 (by decide) (fun c_2 => ?_) (fun c_2 => ?_)
    · exact absurd c_2 (by decide)
    · refine lv_iconst (v := 0) hx hb dX4_begin_60 (by decide) ?_
      exact zW_i hx hb hr hlk hS (Nat.le_of_ble_eq_true rfl) (Nat.le_of_ble_eq_true rfl) dX4_begin_61 (rfl) (hP)
  · refine lv_iload_n hx hb dX4_begin_11 rfl (lv_at hl 2 rfl) ?_
    refine lv_iconst (v := 1) hx hb dX4_begin_12 (by decide) ?_
    refine lv_sipush (v := 1000) hx hb dX4_begin_13 (by decide) ?_
    refine z_backR1 (z_runS ⟨hx, hb, hml, hown, hT⟩ (rest := [.ref (ad 0)]) (As := [.int pr, .int 1, .int 1000]) (c_X4_in l D ks pr 1 1000 ) k_X4_66 (z_preR hK trivial) rfl ⟨Nat.le_of_ble_eq_true rfl, Nat.le_of_ble_eq_true rfl⟩ hl.1 rfl (Nat.le_of_ble_eq_true rfl) dX4_begin_16 ⟨Nat.le_of_ble_eq_true rfl, Nat.le_of_ble_eq_true rfl⟩) ?_
    refine lv_if_eq (tgt := 32) hx hb dX4_begin_19 (by decide) (fun c_3 => ?_) (fun c_3 => ?_)
    · refine lv_iconst (v := 1) hx hb dX4_begin_32 (by decide) ?_
      refine lv_goto (tgt := 50) hx hb dX4_begin_33 (by decide) ?_
      refine pf_X4_60 hx hb hT hown hK hP hD hS (hI.1 0 (by decide)) (v := 1) dX4_begin_50 (fun H locs hP hS => ?_)
      refine lv_aload_n hx hb dX4_begin_53 rfl (lv_at hl 0 rfl) ?_
      refine gf_X4_60 hx hb hT hown hK (v := .int 1) (hP.at (hI.1 0 (by decide)) rfl) rfl dX4_begin_54 ?_
      refine lv_if_le (tgt := 62) hx hb dX4_begin_57 (by decide) (fun c_4 => ?_) (fun c_4 => ?_)
      · exact absurd c_4 (by decide)
      · refine lv_iconst (v := 0) hx hb dX4_begin_60 (by decide) ?_
        exact zW_i hx hb hr hlk hS (Nat.le_of_ble_eq_true rfl) (Nat.le_of_ble_eq_true rfl) dX4_begin_61 (rfl) (hP)
    · refine lv_iload_n hx hb dX4_begin_22 rfl (lv_at hl 3 rfl) ?_
      refine lv_iconst (v := 0) hx hb dX4_begin_23 (by decide) ?_
      refine lv_ldc (v := 100000) hx hb hown (hT _ ki_X4_91) dX4_begin_24 ?_
      refine z_backR1 (z_runS ⟨hx, hb, hml, hown, hT⟩ (rest := [.ref (ad 0)]) (As := [.int su, .int 0, .int 100000]) (c_X4_in l D ks su 0 100000 ) k_X4_66 (z_preR hK trivial) rfl ⟨Nat.le_of_ble_eq_true rfl, Nat.le_of_ble_eq_true rfl⟩ hl.1 rfl (Nat.le_of_ble_eq_true rfl) dX4_begin_26 ⟨Nat.le_of_ble_eq_true rfl, Nat.le_of_ble_eq_true rfl⟩) ?_
      refine lv_if_ne (tgt := 36) hx hb dX4_begin_29 (by decide) (fun c_5 => ?_) (fun c_5 => ?_)
      · exact absurd hq (not_or.mpr ⟨c_1, not_or.mpr ⟨c_3, c_5⟩⟩)
      · refine lv_iconst (v := 1) hx hb dX4_begin_32 (by decide) ?_
        refine lv_goto (tgt := 50) hx hb dX4_begin_33 (by decide) ?_
        refine pf_X4_60 hx hb hT hown hK hP hD hS (hI.1 0 (by decide)) (v := 1) dX4_begin_50 (fun H locs hP hS => ?_)
        refine lv_aload_n hx hb dX4_begin_53 rfl (lv_at hl 0 rfl) ?_
        refine gf_X4_60 hx hb hT hown hK (v := .int 1) (hP.at (hI.1 0 (by decide)) rfl) rfl dX4_begin_54 ?_
        refine lv_if_le (tgt := 62) hx hb dX4_begin_57 (by decide) (fun c_6 => ?_) (fun c_6 => ?_)
        · exact absurd c_6 (by decide)
        · refine lv_iconst (v := 0) hx hb dX4_begin_60 (by decide) ?_
          exact zW_i hx hb hr hlk hS (Nat.le_of_ble_eq_true rfl) (Nat.le_of_ble_eq_true rfl) dX4_begin_61 (rfl) (hP)
set_option maxHeartbeats 4000000 in
set_option maxRecDepth 100000 in
theorem c_X4_generation_ok (l : Launch) (hD0 : zD (fun _ => True) Rs ad) (hI : zIn Rs np ng) (h : Nat) (y : Int32) (te : Int32) (hnp : MI 0 6 = nI np) (hN : np ≤ 30) (h0 : fIn y 0 40 = 1) (h1 : fIn te 2 20 = 1) (hf : mF (MI 1) (MI 2) y te np (-1) = nI h) (hh : h < 30) (sz : Nat) : zMW l yX4_generation cX4_generation 4 ((some .int)) 1 (24) 0 0 D ks sz [.ref (ad 0), .int y, .int te] (zP D Rs ad (gS ks ad np ng G MI MJ XI XJ)) (some (.int (Int64.toInt32 (MJ 2 h)))) (zP D Rs ad (gS ks ad np ng G (u2 MI 0 7 0) MJ XI XJ)) (zA Rs ad sz) := by
  refine zMW.of (by decide +kernel) (Nat.le_of_ble_eq_true rfl) ?_
  intro p e s m below meth c ls hx hb hr hml hown hlk hT hsz hP hK hl hin
  have hl : lv_has ls 4 [(0, .ref (ad 0)), (1, .int y), (2, .int te)] := hl
  subst hsz
  have hD := hD0.self (sz := s.heap.size)
  have hA : ∀ q : Nat, s.heap.size ≤ q → zA Rs ad s.heap.size q := fun q h => Or.inr h
  have hS : va_S (zA Rs ad s.heap.size) s.heap s.heap [] := va_S.rf
  refine lv_aload_n hx hb dX4_generation_0 rfl (lv_at hl 0 rfl) ?_
  refine lv_iload_n hx hb dX4_generation_1 rfl (lv_at hl 1 rfl) ?_
  refine lv_iconst (v := 0) hx hb dX4_generation_2 (by decide) ?_
  refine lv_bipush (v := 40) hx hb dX4_generation_3 (by decide) ?_
  refine z_backR1 (z_runS ⟨hx, hb, hml, hown, hT⟩ (rest := [.ref (ad 0)]) (As := [.int y, .int 0, .int 40]) (c_X4_in l D ks y 0 40 ) k_X4_66 (z_preR hK trivial) rfl ⟨Nat.le_of_ble_eq_true rfl, Nat.le_of_ble_eq_true rfl⟩ hl.1 rfl (Nat.le_of_ble_eq_true rfl) dX4_generation_5 ⟨Nat.le_of_ble_eq_true rfl, Nat.le_of_ble_eq_true rfl⟩) ?_
  refine lv_if_eq (tgt := 25) hx hb dX4_generation_8 (by decide) (fun c_1 => ?_) (fun c_1 => ?_)
  · exact absurd ((h0).symm.trans c_1) (by decide)
  · refine lv_iload_n hx hb dX4_generation_11 rfl (lv_at hl 2 rfl) ?_
    refine lv_iconst (v := 2) hx hb dX4_generation_12 (by decide) ?_
    refine lv_bipush (v := 20) hx hb dX4_generation_13 (by decide) ?_
    refine z_backR1 (z_runS ⟨hx, hb, hml, hown, hT⟩ (rest := [.ref (ad 0)]) (As := [.int te, .int 2, .int 20]) (c_X4_in l D ks te 2 20 ) k_X4_66 (z_preR hK trivial) rfl ⟨Nat.le_of_ble_eq_true rfl, Nat.le_of_ble_eq_true rfl⟩ hl.1 rfl (Nat.le_of_ble_eq_true rfl) dX4_generation_15 ⟨Nat.le_of_ble_eq_true rfl, Nat.le_of_ble_eq_true rfl⟩) ?_
    refine lv_if_eq (tgt := 25) hx hb dX4_generation_18 (by decide) (fun c_2 => ?_) (fun c_2 => ?_)
    · exact absurd ((h1).symm.trans c_2) (by decide)
    · refine lv_iconst (v := 0) hx hb dX4_generation_21 (by decide) ?_
      refine lv_goto (tgt := 26) hx hb dX4_generation_22 (by decide) ?_
      refine pf_X4_60 hx hb hT hown hK hP hD hS (hI.1 0 (by decide)) (v := 0) dX4_generation_26 (fun H locs hP hS => ?_)
      refine lv_aload_n hx hb dX4_generation_29 rfl (lv_at hl 0 rfl) ?_
      refine lv_iload_n hx hb dX4_generation_30 rfl (lv_at hl 1 rfl) ?_
      refine lv_iload_n hx hb dX4_generation_31 rfl (lv_at hl 2 rfl) ?_
      refine z_backR1 (z_runV ⟨hx, hb, hml, hown, hT⟩ (rest := []) (As := [.int y, .int te]) (c_X4_firstOf (MI := u2 MI 0 7 0) (MJ := MJ) (XI := XI) (XJ := XJ) l hI y te (hnp) (hN)) k_X4_72 (z_preRV hK hP (hP.at (hI.1 0 (by decide)) rfl) rfl) rfl ⟨Nat.le_of_ble_eq_true rfl, Nat.le_of_ble_eq_true rfl⟩ hl.1 rfl (Nat.le_of_ble_eq_true rfl) dX4_generation_32 ⟨Nat.le_of_ble_eq_true rfl, Nat.le_of_ble_eq_true rfl⟩) ?_
      rw [show mF ((u2 MI 0 7 0) 1) ((u2 MI 0 7 0) 2) y te np (-1) = nI h from hf]
      refine lv_istore_n (lv' := [(3, .int (nI h)), (0, .ref (ad 0)), (1, .int y), (2, .int te)]) hx hb dX4_generation_35 rfl hl (by decide) rfl (fun ls hl => ?_)
      refine lv_aload_n hx hb dX4_generation_36 rfl (lv_at hl 1 rfl) ?_
      refine gf_X4_60 hx hb hT hown hK (v := .int 0) (hP.at (hI.1 0 (by decide)) rfl) rfl dX4_generation_37 ?_
      refine lv_if_ne (tgt := 58) hx hb dX4_generation_40 (by decide) (fun c_3 => ?_) (fun c_3 => ?_)
      · exact absurd c_3 (by decide)
      · refine lv_iload_n hx hb dX4_generation_43 rfl (lv_at hl 0 rfl) ?_
        refine lv_iconst (v := (-1)) hx hb dX4_generation_44 (by decide) ?_
        refine lv_icmp_eq (tgt := 58) hx hb dX4_generation_45 (by decide) (fun c_4 => ?_) (fun c_4 => ?_)
        · exact absurd c_4 (fun e => absurd (show nI h < 0 by rw [e]; decide) (nI_pos (by omega)))
        · refine lv_aload_n hx hb dX4_generation_48 rfl (lv_at hl 1 rfl) ?_
          refine gf_X4_51 hx hb hT hown hK (v := .ref (ad 9)) (hP.at (hI.1 0 (by decide)) rfl) rfl dX4_generation_49 ?_
          refine lv_iload_n hx hb dX4_generation_52 rfl (lv_at hl 0 rfl) ?_
          refine z_laldN hx hb hK (hP.at (hI.1 9 (by decide)) rfl) (hh) (by decide) (v := MJ 2 h) (rfl) dX4_generation_53 ?_
          refine lv_l2i hx hb dX4_generation_54 rfl ?_
          refine lv_goto (tgt := 59) hx hb dX4_generation_55 (by decide) ?_
          exact zW_i hx hb hr hlk hS (Nat.le_of_ble_eq_true rfl) (Nat.le_of_ble_eq_true rfl) dX4_generation_59 (rfl) (hP)
set_option maxHeartbeats 4000000 in
set_option maxRecDepth 100000 in
theorem c_X4_generation_none (l : Launch) (hD0 : zD (fun _ => True) Rs ad) (hI : zIn Rs np ng) (y : Int32) (te : Int32) (hnp : MI 0 6 = nI np) (hN : np ≤ 30) (h0 : fIn y 0 40 = 1) (h1 : fIn te 2 20 = 1) (hf : mF (MI 1) (MI 2) y te np (-1) = -1) (sz : Nat) : zMW l yX4_generation cX4_generation 4 ((some .int)) 1 (24) 0 0 D ks sz [.ref (ad 0), .int y, .int te] (zP D Rs ad (gS ks ad np ng G MI MJ XI XJ)) (some (.int (0))) (zP D Rs ad (gS ks ad np ng G (u2 MI 0 7 0) MJ XI XJ)) (zA Rs ad sz) := by
  refine zMW.of (by decide +kernel) (Nat.le_of_ble_eq_true rfl) ?_
  intro p e s m below meth c ls hx hb hr hml hown hlk hT hsz hP hK hl hin
  have hl : lv_has ls 4 [(0, .ref (ad 0)), (1, .int y), (2, .int te)] := hl
  subst hsz
  have hD := hD0.self (sz := s.heap.size)
  have hA : ∀ q : Nat, s.heap.size ≤ q → zA Rs ad s.heap.size q := fun q h => Or.inr h
  have hS : va_S (zA Rs ad s.heap.size) s.heap s.heap [] := va_S.rf
  refine lv_aload_n hx hb dX4_generation_0 rfl (lv_at hl 0 rfl) ?_
  refine lv_iload_n hx hb dX4_generation_1 rfl (lv_at hl 1 rfl) ?_
  refine lv_iconst (v := 0) hx hb dX4_generation_2 (by decide) ?_
  refine lv_bipush (v := 40) hx hb dX4_generation_3 (by decide) ?_
  refine z_backR1 (z_runS ⟨hx, hb, hml, hown, hT⟩ (rest := [.ref (ad 0)]) (As := [.int y, .int 0, .int 40]) (c_X4_in l D ks y 0 40 ) k_X4_66 (z_preR hK trivial) rfl ⟨Nat.le_of_ble_eq_true rfl, Nat.le_of_ble_eq_true rfl⟩ hl.1 rfl (Nat.le_of_ble_eq_true rfl) dX4_generation_5 ⟨Nat.le_of_ble_eq_true rfl, Nat.le_of_ble_eq_true rfl⟩) ?_
  refine lv_if_eq (tgt := 25) hx hb dX4_generation_8 (by decide) (fun c_1 => ?_) (fun c_1 => ?_)
  · exact absurd ((h0).symm.trans c_1) (by decide)
  · refine lv_iload_n hx hb dX4_generation_11 rfl (lv_at hl 2 rfl) ?_
    refine lv_iconst (v := 2) hx hb dX4_generation_12 (by decide) ?_
    refine lv_bipush (v := 20) hx hb dX4_generation_13 (by decide) ?_
    refine z_backR1 (z_runS ⟨hx, hb, hml, hown, hT⟩ (rest := [.ref (ad 0)]) (As := [.int te, .int 2, .int 20]) (c_X4_in l D ks te 2 20 ) k_X4_66 (z_preR hK trivial) rfl ⟨Nat.le_of_ble_eq_true rfl, Nat.le_of_ble_eq_true rfl⟩ hl.1 rfl (Nat.le_of_ble_eq_true rfl) dX4_generation_15 ⟨Nat.le_of_ble_eq_true rfl, Nat.le_of_ble_eq_true rfl⟩) ?_
    refine lv_if_eq (tgt := 25) hx hb dX4_generation_18 (by decide) (fun c_2 => ?_) (fun c_2 => ?_)
    · exact absurd ((h1).symm.trans c_2) (by decide)
    · refine lv_iconst (v := 0) hx hb dX4_generation_21 (by decide) ?_
      refine lv_goto (tgt := 26) hx hb dX4_generation_22 (by decide) ?_
      refine pf_X4_60 hx hb hT hown hK hP hD hS (hI.1 0 (by decide)) (v := 0) dX4_generation_26 (fun H locs hP hS => ?_)
      refine lv_aload_n hx hb dX4_generation_29 rfl (lv_at hl 0 rfl) ?_
      refine lv_iload_n hx hb dX4_generation_30 rfl (lv_at hl 1 rfl) ?_
      refine lv_iload_n hx hb dX4_generation_31 rfl (lv_at hl 2 rfl) ?_
      refine z_backR1 (z_runV ⟨hx, hb, hml, hown, hT⟩ (rest := []) (As := [.int y, .int te]) (c_X4_firstOf (MI := u2 MI 0 7 0) (MJ := MJ) (XI := XI) (XJ := XJ) l hI y te (hnp) (hN)) k_X4_72 (z_preRV hK hP (hP.at (hI.1 0 (by decide)) rfl) rfl) rfl ⟨Nat.le_of_ble_eq_true rfl, Nat.le_of_ble_eq_true rfl⟩ hl.1 rfl (Nat.le_of_ble_eq_true rfl) dX4_generation_32 ⟨Nat.le_of_ble_eq_true rfl, Nat.le_of_ble_eq_true rfl⟩) ?_
      rw [show mF ((u2 MI 0 7 0) 1) ((u2 MI 0 7 0) 2) y te np (-1) = -1 from hf]
      refine lv_istore_n (lv' := [(3, .int (-1)), (0, .ref (ad 0)), (1, .int y), (2, .int te)]) hx hb dX4_generation_35 rfl hl (by decide) rfl (fun ls hl => ?_)
      refine lv_aload_n hx hb dX4_generation_36 rfl (lv_at hl 1 rfl) ?_
      refine gf_X4_60 hx hb hT hown hK (v := .int 0) (hP.at (hI.1 0 (by decide)) rfl) rfl dX4_generation_37 ?_
      refine lv_if_ne (tgt := 58) hx hb dX4_generation_40 (by decide) (fun c_3 => ?_) (fun c_3 => ?_)
      · exact absurd c_3 (by decide)
      · refine lv_iload_n hx hb dX4_generation_43 rfl (lv_at hl 0 rfl) ?_
        refine lv_iconst (v := (-1)) hx hb dX4_generation_44 (by decide) ?_
        refine lv_icmp_eq (tgt := 58) hx hb dX4_generation_45 (by decide) (fun c_4 => ?_) (fun c_4 => ?_)
        · refine lv_iconst (v := 0) hx hb dX4_generation_58 (by decide) ?_
          exact zW_i hx hb hr hlk hS (Nat.le_of_ble_eq_true rfl) (Nat.le_of_ble_eq_true rfl) dX4_generation_59 (rfl) (hP)
        · exact absurd c_4 (by decide)
set_option maxHeartbeats 4000000 in
set_option maxRecDepth 100000 in
theorem c_X4_generation_bad (l : Launch) (hD0 : zD (fun _ => True) Rs ad) (hI : zIn Rs np ng) (y : Int32) (te : Int32) (hnp : MI 0 6 = nI np) (hN : np ≤ 30) (hq : fIn y 0 40 = 0 ∨ fIn te 2 20 = 0) (sz : Nat) : zMW l yX4_generation cX4_generation 4 ((some .int)) 1 (24) 0 0 D ks sz [.ref (ad 0), .int y, .int te] (zP D Rs ad (gS ks ad np ng G MI MJ XI XJ)) (some (.int (0))) (zP D Rs ad (gS ks ad np ng G (u2 MI 0 7 1) MJ XI XJ)) (zA Rs ad sz) := by
  refine zMW.of (by decide +kernel) (Nat.le_of_ble_eq_true rfl) ?_
  intro p e s m below meth c ls hx hb hr hml hown hlk hT hsz hP hK hl hin
  have hl : lv_has ls 4 [(0, .ref (ad 0)), (1, .int y), (2, .int te)] := hl
  subst hsz
  have hD := hD0.self (sz := s.heap.size)
  have hA : ∀ q : Nat, s.heap.size ≤ q → zA Rs ad s.heap.size q := fun q h => Or.inr h
  have hS : va_S (zA Rs ad s.heap.size) s.heap s.heap [] := va_S.rf
  refine lv_aload_n hx hb dX4_generation_0 rfl (lv_at hl 0 rfl) ?_
  refine lv_iload_n hx hb dX4_generation_1 rfl (lv_at hl 1 rfl) ?_
  refine lv_iconst (v := 0) hx hb dX4_generation_2 (by decide) ?_
  refine lv_bipush (v := 40) hx hb dX4_generation_3 (by decide) ?_
  refine z_backR1 (z_runS ⟨hx, hb, hml, hown, hT⟩ (rest := [.ref (ad 0)]) (As := [.int y, .int 0, .int 40]) (c_X4_in l D ks y 0 40 ) k_X4_66 (z_preR hK trivial) rfl ⟨Nat.le_of_ble_eq_true rfl, Nat.le_of_ble_eq_true rfl⟩ hl.1 rfl (Nat.le_of_ble_eq_true rfl) dX4_generation_5 ⟨Nat.le_of_ble_eq_true rfl, Nat.le_of_ble_eq_true rfl⟩) ?_
  refine lv_if_eq (tgt := 25) hx hb dX4_generation_8 (by decide) (fun c_1 => ?_) (fun c_1 => ?_)
  · refine lv_iconst (v := 1) hx hb dX4_generation_25 (by decide) ?_
    refine pf_X4_60 hx hb hT hown hK hP hD hS (hI.1 0 (by decide)) (v := 1) dX4_generation_26 (fun H locs hP hS => ?_)
    refine lv_aload_n hx hb dX4_generation_29 rfl (lv_at hl 0 rfl) ?_
    refine lv_iload_n hx hb dX4_generation_30 rfl (lv_at hl 1 rfl) ?_
    refine lv_iload_n hx hb dX4_generation_31 rfl (lv_at hl 2 rfl) ?_
    refine z_backR1 (z_runV ⟨hx, hb, hml, hown, hT⟩ (rest := []) (As := [.int y, .int te]) (c_X4_firstOf (MI := u2 MI 0 7 1) (MJ := MJ) (XI := XI) (XJ := XJ) l hI y te (hnp) (hN)) k_X4_72 (z_preRV hK hP (hP.at (hI.1 0 (by decide)) rfl) rfl) rfl ⟨Nat.le_of_ble_eq_true rfl, Nat.le_of_ble_eq_true rfl⟩ hl.1 rfl (Nat.le_of_ble_eq_true rfl) dX4_generation_32 ⟨Nat.le_of_ble_eq_true rfl, Nat.le_of_ble_eq_true rfl⟩) ?_
    refine lv_istore_n (lv' := [(3, .int (mF ((u2 MI 0 7 1) 1) ((u2 MI 0 7 1) 2) y te np (-1))), (0, .ref (ad 0)), (1, .int y), (2, .int te)]) hx hb dX4_generation_35 rfl hl (by decide) rfl (fun ls hl => ?_)
    refine lv_aload_n hx hb dX4_generation_36 rfl (lv_at hl 1 rfl) ?_
    refine gf_X4_60 hx hb hT hown hK (v := .int 1) (hP.at (hI.1 0 (by decide)) rfl) rfl dX4_generation_37 ?_
    refine lv_if_ne (tgt := 58) hx hb dX4_generation_40 (by decide) (fun c_2 => ?_) (fun c_2 => ?_)
    · refine lv_iconst (v := 0) hx hb dX4_generation_58 (by decide) ?_
      exact zW_i hx hb hr hlk hS (Nat.le_of_ble_eq_true rfl) (Nat.le_of_ble_eq_true rfl) dX4_generation_59 (rfl) (hP)
    · exact absurd c_2 (by decide)
  · refine lv_iload_n hx hb dX4_generation_11 rfl (lv_at hl 2 rfl) ?_
    refine lv_iconst (v := 2) hx hb dX4_generation_12 (by decide) ?_
    refine lv_bipush (v := 20) hx hb dX4_generation_13 (by decide) ?_
    refine z_backR1 (z_runS ⟨hx, hb, hml, hown, hT⟩ (rest := [.ref (ad 0)]) (As := [.int te, .int 2, .int 20]) (c_X4_in l D ks te 2 20 ) k_X4_66 (z_preR hK trivial) rfl ⟨Nat.le_of_ble_eq_true rfl, Nat.le_of_ble_eq_true rfl⟩ hl.1 rfl (Nat.le_of_ble_eq_true rfl) dX4_generation_15 ⟨Nat.le_of_ble_eq_true rfl, Nat.le_of_ble_eq_true rfl⟩) ?_
    refine lv_if_eq (tgt := 25) hx hb dX4_generation_18 (by decide) (fun c_3 => ?_) (fun c_3 => ?_)
    · refine lv_iconst (v := 1) hx hb dX4_generation_25 (by decide) ?_
      refine pf_X4_60 hx hb hT hown hK hP hD hS (hI.1 0 (by decide)) (v := 1) dX4_generation_26 (fun H locs hP hS => ?_)
      refine lv_aload_n hx hb dX4_generation_29 rfl (lv_at hl 0 rfl) ?_
      refine lv_iload_n hx hb dX4_generation_30 rfl (lv_at hl 1 rfl) ?_
      refine lv_iload_n hx hb dX4_generation_31 rfl (lv_at hl 2 rfl) ?_
      refine z_backR1 (z_runV ⟨hx, hb, hml, hown, hT⟩ (rest := []) (As := [.int y, .int te]) (c_X4_firstOf (MI := u2 MI 0 7 1) (MJ := MJ) (XI := XI) (XJ := XJ) l hI y te (hnp) (hN)) k_X4_72 (z_preRV hK hP (hP.at (hI.1 0 (by decide)) rfl) rfl) rfl ⟨Nat.le_of_ble_eq_true rfl, Nat.le_of_ble_eq_true rfl⟩ hl.1 rfl (Nat.le_of_ble_eq_true rfl) dX4_generation_32 ⟨Nat.le_of_ble_eq_true rfl, Nat.le_of_ble_eq_true rfl⟩) ?_
      refine lv_istore_n (lv' := [(3, .int (mF ((u2 MI 0 7 1) 1) ((u2 MI 0 7 1) 2) y te np (-1))), (0, .ref (ad 0)), (1, .int y), (2, .int te)]) hx hb dX4_generation_35 rfl hl (by decide) rfl (fun ls hl => ?_)
      refine lv_aload_n hx hb dX4_generation_36 rfl (lv_at hl 1 rfl) ?_
      refine gf_X4_60 hx hb hT hown hK (v := .int 1) (hP.at (hI.1 0 (by decide)) rfl) rfl dX4_generation_37 ?_
      refine lv_if_ne (tgt := 58) hx hb dX4_generation_40 (by decide) (fun c_4 => ?_) (fun c_4 => ?_)
      · refine lv_iconst (v := 0) hx hb dX4_generation_58 (by decide) ?_
        exact zW_i hx hb hr hlk hS (Nat.le_of_ble_eq_true rfl) (Nat.le_of_ble_eq_true rfl) dX4_generation_59 (rfl) (hP)
      · exact absurd c_4 (by decide)
    · exact absurd hq (not_or.mpr ⟨c_1, c_3⟩)
set_option maxHeartbeats 4000000 in
set_option maxRecDepth 100000 in
theorem c_X4_lastRatio_ok (l : Launch) (hD0 : zD (fun _ => True) Rs ad) (hI : zIn Rs np ng) (t : Nat) (h0 : fIn (nI t) 2 20 = 1) (ht : t < 21) (sz : Nat) : zMW l yX4_lastRatio cX4_lastRatio 2 ((some .int)) 1 (22) 0 0 D ks sz [.ref (ad 0), .int (nI t)] (zP D Rs ad (gS ks ad np ng G MI MJ XI XJ)) (some (.int (MI 8 t - 1))) (zP D Rs ad (gS ks ad np ng G (u2 MI 0 7 0) MJ XI XJ)) (zA Rs ad sz) := by
  refine zMW.of (by decide +kernel) (Nat.le_of_ble_eq_true rfl) ?_
  intro p e s m below meth c ls hx hb hr hml hown hlk hT hsz hP hK hl hin
  have hl : lv_has ls 2 [(0, .ref (ad 0)), (1, .int (nI t))] := hl
  subst hsz
  have hD := hD0.self (sz := s.heap.size)
  have hA : ∀ q : Nat, s.heap.size ≤ q → zA Rs ad s.heap.size q := fun q h => Or.inr h
  have hS : va_S (zA Rs ad s.heap.size) s.heap s.heap [] := va_S.rf
  refine lv_aload_n hx hb dX4_lastRatio_0 rfl (lv_at hl 0 rfl) ?_
  refine lv_iload_n hx hb dX4_lastRatio_1 rfl (lv_at hl 1 rfl) ?_
  refine lv_iconst (v := 2) hx hb dX4_lastRatio_2 (by decide) ?_
  refine lv_bipush (v := 20) hx hb dX4_lastRatio_3 (by decide) ?_
  refine z_backR1 (z_runS ⟨hx, hb, hml, hown, hT⟩ (rest := [.ref (ad 0)]) (As := [.int (nI t), .int 2, .int 20]) (c_X4_in l D ks (nI t) 2 20 ) k_X4_66 (z_preR hK trivial) rfl ⟨Nat.le_of_ble_eq_true rfl, Nat.le_of_ble_eq_true rfl⟩ hl.1 rfl (Nat.le_of_ble_eq_true rfl) dX4_lastRatio_5 ⟨Nat.le_of_ble_eq_true rfl, Nat.le_of_ble_eq_true rfl⟩) ?_
  refine lv_if_eq (tgt := 15) hx hb dX4_lastRatio_8 (by decide) (fun c_1 => ?_) (fun c_1 => ?_)
  · exact absurd ((h0).symm.trans c_1) (by decide)
  · refine lv_iconst (v := 0) hx hb dX4_lastRatio_11 (by decide) ?_
    refine lv_goto (tgt := 16) hx hb dX4_lastRatio_12 (by decide) ?_
    refine pf_X4_60 hx hb hT hown hK hP hD hS (hI.1 0 (by decide)) (v := 0) dX4_lastRatio_16 (fun H locs hP hS => ?_)
    refine lv_aload_n hx hb dX4_lastRatio_19 rfl (lv_at hl 0 rfl) ?_
    refine gf_X4_60 hx hb hT hown hK (v := .int 0) (hP.at (hI.1 0 (by decide)) rfl) rfl dX4_lastRatio_20 ?_
    refine lv_if_ne (tgt := 37) hx hb dX4_lastRatio_23 (by decide) (fun c_2 => ?_) (fun c_2 => ?_)
    · exact absurd c_2 (by decide)
    · refine lv_aload_n hx hb dX4_lastRatio_26 rfl (lv_at hl 0 rfl) ?_
      refine gf_X4_54 hx hb hT hown hK (v := .ref (ad 10)) (hP.at (hI.1 0 (by decide)) rfl) rfl dX4_lastRatio_27 ?_
      refine lv_iload_n hx hb dX4_lastRatio_30 rfl (lv_at hl 1 rfl) ?_
      refine z_ialdN hx hb hK (hP.at (hI.1 10 (by decide)) rfl) (ht) (by decide) (v := MI 8 t) (rfl) dX4_lastRatio_31 ?_
      refine lv_iconst (v := 1) hx hb dX4_lastRatio_32 (by decide) ?_
      refine lv_isub hx hb dX4_lastRatio_33 ?_
      refine lv_goto (tgt := 38) hx hb dX4_lastRatio_34 (by decide) ?_
      exact zW_i hx hb hr hlk hS (Nat.le_of_ble_eq_true rfl) (Nat.le_of_ble_eq_true rfl) dX4_lastRatio_38 (rfl) (hP)
set_option maxHeartbeats 4000000 in
set_option maxRecDepth 100000 in
theorem c_X4_lastRatio_bad (l : Launch) (hD0 : zD (fun _ => True) Rs ad) (hI : zIn Rs np ng) (te : Int32) (h0 : fIn te 2 20 = 0) (sz : Nat) : zMW l yX4_lastRatio cX4_lastRatio 2 ((some .int)) 1 (22) 0 0 D ks sz [.ref (ad 0), .int te] (zP D Rs ad (gS ks ad np ng G MI MJ XI XJ)) (some (.int (0))) (zP D Rs ad (gS ks ad np ng G (u2 MI 0 7 1) MJ XI XJ)) (zA Rs ad sz) := by
  refine zMW.of (by decide +kernel) (Nat.le_of_ble_eq_true rfl) ?_
  intro p e s m below meth c ls hx hb hr hml hown hlk hT hsz hP hK hl hin
  have hl : lv_has ls 2 [(0, .ref (ad 0)), (1, .int te)] := hl
  subst hsz
  have hD := hD0.self (sz := s.heap.size)
  have hA : ∀ q : Nat, s.heap.size ≤ q → zA Rs ad s.heap.size q := fun q h => Or.inr h
  have hS : va_S (zA Rs ad s.heap.size) s.heap s.heap [] := va_S.rf
  refine lv_aload_n hx hb dX4_lastRatio_0 rfl (lv_at hl 0 rfl) ?_
  refine lv_iload_n hx hb dX4_lastRatio_1 rfl (lv_at hl 1 rfl) ?_
  refine lv_iconst (v := 2) hx hb dX4_lastRatio_2 (by decide) ?_
  refine lv_bipush (v := 20) hx hb dX4_lastRatio_3 (by decide) ?_
  refine z_backR1 (z_runS ⟨hx, hb, hml, hown, hT⟩ (rest := [.ref (ad 0)]) (As := [.int te, .int 2, .int 20]) (c_X4_in l D ks te 2 20 ) k_X4_66 (z_preR hK trivial) rfl ⟨Nat.le_of_ble_eq_true rfl, Nat.le_of_ble_eq_true rfl⟩ hl.1 rfl (Nat.le_of_ble_eq_true rfl) dX4_lastRatio_5 ⟨Nat.le_of_ble_eq_true rfl, Nat.le_of_ble_eq_true rfl⟩) ?_
  refine lv_if_eq (tgt := 15) hx hb dX4_lastRatio_8 (by decide) (fun c_1 => ?_) (fun c_1 => ?_)
  · refine lv_iconst (v := 1) hx hb dX4_lastRatio_15 (by decide) ?_
    refine pf_X4_60 hx hb hT hown hK hP hD hS (hI.1 0 (by decide)) (v := 1) dX4_lastRatio_16 (fun H locs hP hS => ?_)
    refine lv_aload_n hx hb dX4_lastRatio_19 rfl (lv_at hl 0 rfl) ?_
    refine gf_X4_60 hx hb hT hown hK (v := .int 1) (hP.at (hI.1 0 (by decide)) rfl) rfl dX4_lastRatio_20 ?_
    refine lv_if_ne (tgt := 37) hx hb dX4_lastRatio_23 (by decide) (fun c_2 => ?_) (fun c_2 => ?_)
    · refine lv_iconst (v := 0) hx hb dX4_lastRatio_37 (by decide) ?_
      exact zW_i hx hb hr hlk hS (Nat.le_of_ble_eq_true rfl) (Nat.le_of_ble_eq_true rfl) dX4_lastRatio_38 (rfl) (hP)
    · exact absurd c_2 (by decide)
  · exact absurd (h0) c_1
set_option maxHeartbeats 4000000 in
set_option maxRecDepth 100000 in
theorem c_X4_year (l : Launch) (hD0 : zD (fun _ => True) Rs ad) (hI : zIn Rs np ng)  (sz : Nat) : zMW l yX4_year cX4_year 1 ((some .int)) 0 (0) 0 0 D ks sz [.ref (ad 0)] (zP D Rs ad (gS ks ad np ng G MI MJ XI XJ)) (some (.int (MI 0 0))) (zP D Rs ad (gS ks ad np ng G (u2 MI 0 7 0) MJ XI XJ)) (zA Rs ad sz) := by
  refine zMW.of (by decide +kernel) (Nat.le_of_ble_eq_true rfl) ?_
  intro p e s m below meth c ls hx hb hr hml hown hlk hT hsz hP hK hl hin
  have hl : lv_has ls 1 [(0, .ref (ad 0))] := hl
  subst hsz
  have hD := hD0.self (sz := s.heap.size)
  have hA : ∀ q : Nat, s.heap.size ≤ q → zA Rs ad s.heap.size q := fun q h => Or.inr h
  have hS : va_S (zA Rs ad s.heap.size) s.heap s.heap [] := va_S.rf
  refine lv_aload_n hx hb dX4_year_0 rfl (lv_at hl 0 rfl) ?_
  refine lv_iconst (v := 0) hx hb dX4_year_1 (by decide) ?_
  refine pf_X4_60 hx hb hT hown hK hP hD hS (hI.1 0 (by decide)) (v := 0) dX4_year_2 (fun H locs hP hS => ?_)
  refine lv_aload_n hx hb dX4_year_5 rfl (lv_at hl 0 rfl) ?_
  refine gf_X4_92 hx hb hT hown hK (v := .int (MI 0 0)) (hP.at (hI.1 0 (by decide)) rfl) rfl dX4_year_6 ?_
  exact zW_i hx hb hr hlk hS (Nat.le_of_ble_eq_true rfl) (Nat.le_of_ble_eq_true rfl) dX4_year_9 (rfl) (hP)
set_option maxHeartbeats 4000000 in
set_option maxRecDepth 100000 in
theorem c_X4_policies (l : Launch) (hD0 : zD (fun _ => True) Rs ad) (hI : zIn Rs np ng)  (sz : Nat) : zMW l yX4_policies cX4_policies 1 ((some .int)) 0 (0) 0 0 D ks sz [.ref (ad 0)] (zP D Rs ad (gS ks ad np ng G MI MJ XI XJ)) (some (.int (MI 0 6))) (zP D Rs ad (gS ks ad np ng G (u2 MI 0 7 0) MJ XI XJ)) (zA Rs ad sz) := by
  refine zMW.of (by decide +kernel) (Nat.le_of_ble_eq_true rfl) ?_
  intro p e s m below meth c ls hx hb hr hml hown hlk hT hsz hP hK hl hin
  have hl : lv_has ls 1 [(0, .ref (ad 0))] := hl
  subst hsz
  have hD := hD0.self (sz := s.heap.size)
  have hA : ∀ q : Nat, s.heap.size ≤ q → zA Rs ad s.heap.size q := fun q h => Or.inr h
  have hS : va_S (zA Rs ad s.heap.size) s.heap s.heap [] := va_S.rf
  refine lv_aload_n hx hb dX4_policies_0 rfl (lv_at hl 0 rfl) ?_
  refine lv_iconst (v := 0) hx hb dX4_policies_1 (by decide) ?_
  refine pf_X4_60 hx hb hT hown hK hP hD hS (hI.1 0 (by decide)) (v := 0) dX4_policies_2 (fun H locs hP hS => ?_)
  refine lv_aload_n hx hb dX4_policies_5 rfl (lv_at hl 0 rfl) ?_
  refine gf_X4_63 hx hb hT hown hK (v := .int (MI 0 6)) (hP.at (hI.1 0 (by decide)) rfl) rfl dX4_policies_6 ?_
  exact zW_i hx hb hr hlk hS (Nat.le_of_ble_eq_true rfl) (Nat.le_of_ble_eq_true rfl) dX4_policies_9 (rfl) (hP)
set_option maxHeartbeats 4000000 in
set_option maxRecDepth 100000 in
theorem c_X4_estate (l : Launch) (hD0 : zD (fun _ => True) Rs ad) (hI : zIn Rs np ng)  (sz : Nat) : zMW l yX4_estate cX4_estate 1 ((some .long)) 0 (0) 0 0 D ks sz [.ref (ad 0)] (zP D Rs ad (gS ks ad np ng G MI MJ XI XJ)) (some (.long (MJ 0 0))) (zP D Rs ad (gS ks ad np ng G (u2 MI 0 7 0) MJ XI XJ)) (zA Rs ad sz) := by
  refine zMW.of (by decide +kernel) (Nat.le_of_ble_eq_true rfl) ?_
  intro p e s m below meth c ls hx hb hr hml hown hlk hT hsz hP hK hl hin
  have hl : lv_has ls 1 [(0, .ref (ad 0))] := hl
  subst hsz
  have hD := hD0.self (sz := s.heap.size)
  have hA : ∀ q : Nat, s.heap.size ≤ q → zA Rs ad s.heap.size q := fun q h => Or.inr h
  have hS : va_S (zA Rs ad s.heap.size) s.heap s.heap [] := va_S.rf
  refine lv_aload_n hx hb dX4_estate_0 rfl (lv_at hl 0 rfl) ?_
  refine lv_iconst (v := 0) hx hb dX4_estate_1 (by decide) ?_
  refine pf_X4_60 hx hb hT hown hK hP hD hS (hI.1 0 (by decide)) (v := 0) dX4_estate_2 (fun H locs hP hS => ?_)
  refine lv_aload_n hx hb dX4_estate_5 rfl (lv_at hl 0 rfl) ?_
  refine gf_X4_84 hx hb hT hown hK (v := .long (MJ 0 0)) (hP.at (hI.1 0 (by decide)) rfl) rfl dX4_estate_6 ?_
  exact zW_l hx hb hr hlk hS (Nat.le_of_ble_eq_true rfl) (Nat.le_of_ble_eq_true rfl) dX4_estate_9 (rfl) (hP)
set_option maxHeartbeats 4000000 in
set_option maxRecDepth 100000 in
theorem c_X4_assets (l : Launch) (hD0 : zD (fun _ => True) Rs ad) (hI : zIn Rs np ng)  (sz : Nat) : zMW l yX4_assets cX4_assets 1 ((some .long)) 0 (0) 0 0 D ks sz [.ref (ad 0)] (zP D Rs ad (gS ks ad np ng G MI MJ XI XJ)) (some (.long (MJ 0 1))) (zP D Rs ad (gS ks ad np ng G (u2 MI 0 7 0) MJ XI XJ)) (zA Rs ad sz) := by
  refine zMW.of (by decide +kernel) (Nat.le_of_ble_eq_true rfl) ?_
  intro p e s m below meth c ls hx hb hr hml hown hlk hT hsz hP hK hl hin
  have hl : lv_has ls 1 [(0, .ref (ad 0))] := hl
  subst hsz
  have hD := hD0.self (sz := s.heap.size)
  have hA : ∀ q : Nat, s.heap.size ≤ q → zA Rs ad s.heap.size q := fun q h => Or.inr h
  have hS : va_S (zA Rs ad s.heap.size) s.heap s.heap [] := va_S.rf
  refine lv_aload_n hx hb dX4_assets_0 rfl (lv_at hl 0 rfl) ?_
  refine lv_iconst (v := 0) hx hb dX4_assets_1 (by decide) ?_
  refine pf_X4_60 hx hb hT hown hK hP hD hS (hI.1 0 (by decide)) (v := 0) dX4_assets_2 (fun H locs hP hS => ?_)
  refine lv_aload_n hx hb dX4_assets_5 rfl (lv_at hl 0 rfl) ?_
  refine gf_X4_88 hx hb hT hown hK (v := .long (MJ 0 1)) (hP.at (hI.1 0 (by decide)) rfl) rfl dX4_assets_6 ?_
  exact zW_l hx hb hr hlk hS (Nat.le_of_ble_eq_true rfl) (Nat.le_of_ble_eq_true rfl) dX4_assets_9 (rfl) (hP)
set_option maxHeartbeats 4000000 in
set_option maxRecDepth 100000 in
theorem c_X4_thrown (l : Launch) (hI : zIn Rs np ng)  : zMR l yX4_thrown cX4_thrown 1 ((some .int)) 0 (0) D ks [.ref (ad 0)] (zP D Rs ad (gS ks ad np ng G MI MJ XI XJ)) (some (.int (MI 0 7))) := by
  refine zMR.of (by decide +kernel) (Nat.le_of_ble_eq_true rfl) ?_
  intro p e s m below meth c ls hx hb hr hml hown hlk hT hP hK hl
  have hl : lv_has ls 1 [(0, .ref (ad 0))] := hl
  refine lv_aload_n hx hb dX4_thrown_0 rfl (lv_at hl 0 rfl) ?_
  refine gf_X4_60 hx hb hT hown hK (hP.at (hI.1 0 (by decide)) rfl) rfl dX4_thrown_1 ?_
  exact zR_i hx hb hr hlk dX4_thrown_4 (rfl)
end ZM2
end
